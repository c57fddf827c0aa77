set_option maxHeartbeats 4000000 in
set_option maxRecDepth 100000 in
theorem x2_crop {p : Program} {l : Launch} {e : Env} {R : Room} {s : State} {m : MethodId} {args : Array Value} {below : List Frame} {meth : Method} {cd : Code} {H H0 : Heap} {locs : List Loc} {cells slots : Nat} {Q : State → Prop} {ls : Array Slot} {G : va_G} {cy : Nat → ClassId} {A : Nat → Prop} {ws : va_W} {h0 a1 a2 : Nat} {v : List Value} {f : Nat → Option Nat} {k : Nat} (hx : p.tables.exec = Jvm.exec) (hb : cd.code = cX2_init) (hml : cd.maxLocals = 2) (hts : ∀ w ∈ wsX2_init, w.before args s = true) (hown : s.vm.findClass RX2 = some m.cls) (hN : va_Nw nW s) (hK : va_K G vwCl (cT cy) s) (hA : ∀ q : Nat, H0.size ≤ q → A q) (hP : va_P G vwCl ws H) (hD : va_D A ws) (hS : va_S A H0 H locs) (hR : 2 ≤ R.frames ∧ 33 ≤ R.locals) (hl : lv_has ls 2 [(1, .int (iI k)), (0, .ref h0)]) (hk : k < 3) (e0 : ws[0]? = some (h0, .inr (2, .ref a1 :: .ref a2 :: v))) (e1 : ws[1]? = some (a1, eQ (cy 2) 3 f)) (hc : cells + 2 ≤ R.cells) (hs : slots + 7 ≤ R.slots) (kk : ∀ (q0 qn : Nat) (H : Heap) (locs : List Loc) (ls : Array Slot), va_P G vwCl (ws.set 1 (a1, eQ (cy 2) 3 (va_up f k (some q0))) ++ [(q0, eC0 qn), (qn, eN0 cy)]) H → va_D A (ws.set 1 (a1, eQ (cy 2) 3 (va_up f k (some q0))) ++ [(q0, eC0 qn), (qn, eN0 cy)]) → va_S A H0 H locs → lv_has ls 2 [(1, .int (iI ((k : Int) + 1))), (0, .ref h0)] → W p l e R s m args below meth cd H locs (cells + 2) (slots + 7) Q (F0 m 38 ls [])) : W p l e R s m args below meth cd H locs cells slots Q (F0 m 43 ls []) := by
  refine lv_aload_n hx hb dX2_init_43 rfl (lv_at hl 1 rfl) ?_
  refine va_get (D := G) (ci := 2) (v := .ref a1) (C := RX2) (T := TX2) (N := 5) hx hb hts (by decide +kernel) hown hK hP 0 e0 rfl 0 (by decide) (hts (.fieldLink RX2 11 "HarvestLender" "crops" "[LHarvestLender$Crop;") (by decide +kernel)) (fun _ h9 => h9) rfl dX2_init_44 ?_
  refine lv_iload_n hx hb dX2_init_47 rfl (lv_at hl 0 rfl) ?_
  refine va_new (ci := 0) (fs := [.null, .int 0, .int 0]) (C := RX0) (T := TX0) (N := 3) hx hb hts (by decide +kernel) tyX0 tyX0_ok hown (hts (.classLink RX2 9 RX0) (by decide +kernel)) (hts (.instantiable RX0 3) (by decide +kernel)) (hts (.initialized RX0) (by decide +kernel)) hK hP hD hS hA rfl (fun j hj => by rcases (by omega : j = 0 ∨ j = 1 ∨ j = 2) with rfl | rfl | rfl <;> rfl) (by omega) (by omega) dX2_init_48 (fun q0 H hP hD hS => ?_)
  refine lv_dup hx hb dX2_init_51 rfl ?_
  refine va_callv (va_runI (As := []) (rest := [.ref q0, .int (iI k), .ref a1]) ⟨hx, hb, hml, hown, hts⟩ (c_X0_init l G cy q0 H.size) (cwI 0 hts gX2_init_X0_init rfl rfl rfl (hts (.initialized RX0) (by decide +kernel)) (hts (.methodLink RX2 31 yX0_init) (by decide +kernel)) (hts (.instanceMethod yX0_init) (by decide +kernel)) rfl (by decide +kernel) ⟨hR.1, hR.2⟩) ⟨iPc_blind, fun U hU hW => ⟨rfl, by rw [hU], by rw [hU]; exact last_P hP, va_K.moved hW.alike hK⟩⟩ rfl rfl hl.1 rfl (lv_room (Nat.le_of_ble_eq_true rfl)) dX2_init_52 ⟨by omega, by omega⟩) hS (fun q _ h => freeA hD hS hA q h) (freeA hD hS hA) (fun u t H1 locs ht hvm _ hB hz1 hk1 hS1 => ?_)
  obtain ⟨hP1, _, hD1⟩ := hB
  rw [ht] at hP1
  obtain ⟨qn, rfl⟩ : ∃ z, z = u := ⟨_, rfl⟩
  obtain ⟨hP, hD⟩ := joinA hP hD hk1 (freeA hD hS hA) hP1 hD1
  have hlen : 1 < ws.length := (List.getElem?_eq_some_iff.mp e1).1
  refine va_astq (r := (RX0, TX0, 3)) (ci := 0) hx hb hK hP hD hS1 1 2 ws.length (by rw [List.getElem?_append_left hlen]; exact e1) rfl (by rw [List.getElem?_append_right (Nat.le_refl _), Nat.sub_self]; rfl) rfl (iI_in (n := 3) (by omega) (by omega) (by decide)) dX2_init_55 (fun H locs hP hD hS => ?_)
  rw [List.set_append_left _ _ hlen, iI_cl ⟨by omega, by omega⟩, Int.toNat_natCast] at hP hD
  refine lv_iinc (v := iI ((k : Int) + 1)) (lv' := [(1, .int (iI ((k : Int) + 1))), (0, .ref h0)]) hx hb dX2_init_56 hl (k := 0) rfl (iI_add _ _) (by decide) rfl (fun ls hl => ?_)
  refine lv_goto (tgt := 38) hx hb dX2_init_59 (by decide) ?_
  refine W.widen (k := cells + 2) (n := slots + 7) (by omega) (by omega) ?_
  exact kk q0 qn _ _ _ hP hD hS hl
set_option maxHeartbeats 4000000 in
set_option maxRecDepth 100000 in
theorem x2_farm {p : Program} {l : Launch} {e : Env} {R : Room} {s : State} {m : MethodId} {args : Array Value} {below : List Frame} {meth : Method} {cd : Code} {H H0 : Heap} {locs : List Loc} {cells slots : Nat} {Q : State → Prop} {ls : Array Slot} {G : va_G} {cy : Nat → ClassId} {A : Nat → Prop} {ws : va_W} {h0 a1 a2 : Nat} {v : List Value} {f : Nat → Option Nat} {k : Nat} (hx : p.tables.exec = Jvm.exec) (hb : cd.code = cX2_init) (hml : cd.maxLocals = 2) (hts : ∀ w ∈ wsX2_init, w.before args s = true) (hown : s.vm.findClass RX2 = some m.cls) (hN : va_Nw nW s) (hK : va_K G vwCl (cT cy) s) (hA : ∀ q : Nat, H0.size ≤ q → A q) (hP : va_P G vwCl ws H) (hD : va_D A ws) (hS : va_S A H0 H locs) (hR : 2 ≤ R.frames ∧ 33 ≤ R.locals) (hl : lv_has ls 2 [(1, .int (iI k)), (0, .ref h0)]) (hk : k < 8) (e0 : ws[0]? = some (h0, .inr (2, .ref a1 :: .ref a2 :: v))) (e1 : ws[2]? = some (a2, eQ (cy 3) 8 f)) (hc : cells + 3 ≤ R.cells) (hs : slots + 25 ≤ R.slots) (kk : ∀ (q0 qr qi : Nat) (H : Heap) (locs : List Loc) (ls : Array Slot), va_P G vwCl (ws.set 2 (a2, eQ (cy 3) 8 (va_up f k (some q0))) ++ [(q0, eF0 qr qi), (qr, eR0 cy 5), (qi, eR0 cy 3)]) H → va_D A (ws.set 2 (a2, eQ (cy 3) 8 (va_up f k (some q0))) ++ [(q0, eF0 qr qi), (qr, eR0 cy 5), (qi, eR0 cy 3)]) → va_S A H0 H locs → lv_has ls 2 [(1, .int (iI ((k : Int) + 1))), (0, .ref h0)] → W p l e R s m args below meth cd H locs (cells + 3) (slots + 25) Q (F0 m 64 ls [])) : W p l e R s m args below meth cd H locs cells slots Q (F0 m 70 ls []) := by
  refine lv_aload_n hx hb dX2_init_70 rfl (lv_at hl 1 rfl) ?_
  refine va_get (D := G) (ci := 2) (v := .ref a2) (C := RX2) (T := TX2) (N := 5) hx hb hts (by decide +kernel) hown hK hP 0 e0 rfl 1 (by decide) (hts (.fieldLink RX2 17 "HarvestLender" "rows" "[LHarvestLender$Farmer;") (by decide +kernel)) (fun _ h9 => h9) rfl dX2_init_71 ?_
  refine lv_iload_n hx hb dX2_init_74 rfl (lv_at hl 0 rfl) ?_
  refine va_new (ci := 1) (fs := [.int 0, .long 0, .long 0, .long 0, .long 0, .long 0, .null, .null, .int 0, .int 0, .int 0, .int 0, .int 0, .int 0, .int 0, .int 0, .int 0]) (C := RX1) (T := TX1) (N := 17) hx hb hts (by decide +kernel) tyX1 tyX1_ok hown (hts (.classLink RX2 15 RX1) (by decide +kernel)) (hts (.instantiable RX1 17) (by decide +kernel)) (hts (.initialized RX1) (by decide +kernel)) hK hP hD hS hA rfl (fun j hj => by rcases (by omega : j = 0 ∨ j = 1 ∨ j = 2 ∨ j = 3 ∨ j = 4 ∨ j = 5 ∨ j = 6 ∨ j = 7 ∨ j = 8 ∨ j = 9 ∨ j = 10 ∨ j = 11 ∨ j = 12 ∨ j = 13 ∨ j = 14 ∨ j = 15 ∨ j = 16) with rfl | rfl | rfl | rfl | rfl | rfl | rfl | rfl | rfl | rfl | rfl | rfl | rfl | rfl | rfl | rfl | rfl <;> rfl) (by omega) (by omega) dX2_init_75 (fun q0 H hP hD hS => ?_)
  refine lv_dup hx hb dX2_init_78 rfl ?_
  refine va_callv (va_runIN (As := []) (rest := [.ref q0, .int (iI k), .ref a2]) ⟨hx, hb, hml, hown, hts⟩ (c_X1_init l G cy q0 H.size) ⟨va_cnB 0 hts gX2_init_X1_init_n32 rfl rfl rfl hN (hts (.initialized RX1) (by decide +kernel)) (by decide +kernel) ⟨hR.1, Nat.le_trans (Nat.le_of_ble_eq_true rfl) hR.2⟩, rfl, hts (.instanceMethod yX1_init) (by decide +kernel)⟩ ⟨iPc_blind, fun U hU hW => ⟨rfl, by rw [hU], by rw [hU]; exact last_P hP, va_K.moved hW.alike hK⟩⟩ rfl rfl hl.1 rfl (lv_room (Nat.le_of_ble_eq_true rfl)) dX2_init_79 ⟨by omega, by omega⟩) hS (fun q _ h => freeA hD hS hA q h) (freeA hD hS hA) (fun u t H1 locs ht hvm _ hB hz1 hk1 hS1 => ?_)
  obtain ⟨hP1, _, hD1⟩ := hB
  rw [ht] at hP1
  obtain ⟨qr, qi⟩ := u
  dsimp only at hP1 hD1
  obtain ⟨hP, hD⟩ := joinA hP hD hk1 (freeA hD hS hA) hP1 hD1
  have hlen : 2 < ws.length := (List.getElem?_eq_some_iff.mp e1).1
  refine va_astq (r := (RX1, TX1, 17)) (ci := 1) hx hb hK hP hD hS1 2 3 ws.length (by rw [List.getElem?_append_left hlen]; exact e1) rfl (by rw [List.getElem?_append_right (Nat.le_refl _), Nat.sub_self]; rfl) rfl (iI_in (n := 8) (by omega) (by omega) (by decide)) dX2_init_82 (fun H locs hP hD hS => ?_)
  rw [List.set_append_left _ _ hlen, iI_cl ⟨by omega, by omega⟩, Int.toNat_natCast] at hP hD
  refine lv_iinc (v := iI ((k : Int) + 1)) (lv' := [(1, .int (iI ((k : Int) + 1))), (0, .ref h0)]) hx hb dX2_init_83 hl (k := 0) rfl (iI_add _ _) (by decide) rfl (fun ls hl => ?_)
  refine lv_goto (tgt := 64) hx hb dX2_init_86 (by decide) ?_
  refine W.widen (k := cells + 3) (n := slots + 25) (by omega) (by omega) ?_
  exact kk q0 qr qi _ _ _ hP hD hS hl
set_option maxHeartbeats 4000000 in
set_option maxRecDepth 100000 in
theorem c_X2_init (l : Launch) (G : va_G) (cy : Nat → ClassId) (h0 sz : Nat) : Met l yX2_init wsX2_init ({ frames := 2, cells := 32, slots := 232, locals := 33 } : Room) (jPc G cy h0 sz) (va_Qv (fun ad : Nat → Nat => ad 0 = h0 ∧ cI ad) (fun ad t => va_P G vwCl (cW ad cy cS0) t.heap ∧ va_K G vwCl (cT cy) t ∧ va_D (va_A [(h0, dH)] sz) (cW ad cy cS0)) (va_A [(h0, dH)] sz)) 32 232 (va_A [(h0, dH)] sz) := by
  refine Met.ofW (cc := cX2_init) (maxL := 2) (ret := none) (by decide) rfl ?_
  intro p e s m args below meth c s₁ B hml hv
  obtain ⟨rfl, hsz, hP, hK, hV0, hV1, hN⟩ := hv
  have hx := B.exec
  have hb := B.bytes
  have hr := B.returns
  have hts := atoms_spec (ws := wsX2_init) B.pre
  have hown : s.vm.findClass RX2 = some m.cls := findClass_of_methodNamed B.named
  have hlocks := B.notSynchronized
  have hin : meth.name = "<init>" := (name_of_methodNamed B.named B.method).1
  subst hsz
  generalize hAe : va_A [(h0, dH)] s.heap.size = A
  have hA : ∀ q : Nat, s.heap.size ≤ q → A q := fun q h => by rw [← hAe]; exact Or.inr h
  have hD : va_D A [(h0, dH)] := d1 (by rw [← hAe]; exact Or.inl ⟨0, _, rfl⟩)
  have hS : va_S A s.heap s.heap [] := va_S.rf
  have hl := lv_entry ([.ref h0]) (n := 2) (Nat.le_of_ble_eq_true rfl)
  rw [lg_entry_eq]
  generalize (lg_sl ([.ref h0]) ++ List.replicate (2 - (lg_sl ([.ref h0])).length) Slot.unset).toArray = ls at hl ⊢
  have hl : lv_has ls 2 [(0, .ref h0)] := hl
  refine lv_aload_n hx hb dX2_init_0 rfl (lv_at hl 0 rfl) ?_
  refine W.objInit hx hb hown (hts (.methodLink RX2 1 objectInit) (by decide +kernel)) (hts (.instanceMethod objectInit) (by decide +kernel)) (hts _ (List.mem_cons_of_mem _ (List.mem_append_left _ (List.mem_append_left _ (List.mem_append_left _ (List.mem_append_left _ (List.mem_of_getElem? (i := 2) rfl))))))) rfl (by rw [hml]; exact hl.1) rfl dX2_init_1 (Nat.le_of_ble_eq_true rfl) (Nat.le_of_ble_eq_true rfl) ?_
  refine W.eq (g2 := F0 m 4 ls []) rfl ?_
  refine lv_aload_n hx hb dX2_init_4 rfl (lv_at hl 0 rfl) ?_
  refine k_iconst hx hb dX2_init_5 ?_
  refine k_newQ (t := 2) hx hb hown (hts (.classLink RX2 9 RX0) (by decide +kernel)) hV0 hK rfl hP hD hS hA 3 (by decide) rfl (by decide) (Nat.le_of_ble_eq_true rfl) (Nat.le_of_ble_eq_true rfl) dX2_init_6 (fun a1 H hP hD hS => ?_)
  have hP : va_P G vwCl [(h0, .inr (2, [.null, .null, .int 0, .int 0, .int 0])), (a1, eQ (cy 2) 3 (fun _ => none))] H := hP
  have hD : va_D A [(h0, .inr (2, [.null, .null, .int 0, .int 0, .int 0])), (a1, eQ (cy 2) 3 (fun _ => none))] := hD
  refine va_putF (D := G) (ci := 2) (v := .ref a1) (ty := (.array (.object "HarvestLender$Crop"))) (C := RX2) (T := TX2) (N := 5) hx hb hts (by decide +kernel) tyX2 tyX2_ok nmX2 hown hK hP hD hS 0 rfl rfl 0 (by decide) (hts (.fieldLink RX2 11 "HarvestLender" "crops" "[LHarvestLender$Crop;") (by decide +kernel)) (fun _ h9 => h9) rfl hin rfl (by decide +kernel) rfl rfl (Nat.le_of_ble_eq_true rfl) dX2_init_9 (fun H locs hP hD hS => ?_)
  have hP : va_P G vwCl [(h0, .inr (2, [.ref a1, .null, .int 0, .int 0, .int 0])), (a1, eQ (cy 2) 3 (fun _ => none))] H := hP
  have hD : va_D A [(h0, .inr (2, [.ref a1, .null, .int 0, .int 0, .int 0])), (a1, eQ (cy 2) 3 (fun _ => none))] := hD
  refine lv_aload_n hx hb dX2_init_12 rfl (lv_at hl 0 rfl) ?_
  refine k_bipush (n := 8) hx hb dX2_init_13 (by decide) ?_
  refine k_newQ (t := 3) hx hb hown (hts (.classLink RX2 15 RX1) (by decide +kernel)) hV1 hK rfl hP hD hS hA 8 (by decide) rfl (by decide) (Nat.le_of_ble_eq_true rfl) (Nat.le_of_ble_eq_true rfl) dX2_init_15 (fun a2 H hP hD hS => ?_)
  have hP : va_P G vwCl [(h0, .inr (2, [.ref a1, .null, .int 0, .int 0, .int 0])), (a1, eQ (cy 2) 3 (fun _ => none)), (a2, eQ (cy 3) 8 (fun _ => none))] H := hP
  have hD : va_D A [(h0, .inr (2, [.ref a1, .null, .int 0, .int 0, .int 0])), (a1, eQ (cy 2) 3 (fun _ => none)), (a2, eQ (cy 3) 8 (fun _ => none))] := hD
  refine va_putF (D := G) (ci := 2) (v := .ref a2) (ty := (.array (.object "HarvestLender$Farmer"))) (C := RX2) (T := TX2) (N := 5) hx hb hts (by decide +kernel) tyX2 tyX2_ok nmX2 hown hK hP hD hS 0 rfl rfl 1 (by decide) (hts (.fieldLink RX2 17 "HarvestLender" "rows" "[LHarvestLender$Farmer;") (by decide +kernel)) (fun _ h9 => h9) rfl hin rfl (by decide +kernel) rfl rfl (Nat.le_of_ble_eq_true rfl) dX2_init_18 (fun H locs hP hD hS => ?_)
  have hP : va_P G vwCl [(h0, .inr (2, [.ref a1, .ref a2, .int 0, .int 0, .int 0])), (a1, eQ (cy 2) 3 (fun _ => none)), (a2, eQ (cy 3) 8 (fun _ => none))] H := hP
  have hD : va_D A [(h0, .inr (2, [.ref a1, .ref a2, .int 0, .int 0, .int 0])), (a1, eQ (cy 2) 3 (fun _ => none)), (a2, eQ (cy 3) 8 (fun _ => none))] := hD
  refine lv_aload_n hx hb dX2_init_21 rfl (lv_at hl 0 rfl) ?_
  refine k_iconst hx hb dX2_init_22 ?_
  refine va_put (D := G) (ci := 2) (v := .int (iI 0)) (ty := .int) (C := RX2) (T := TX2) (N := 5) hx hb hts (by decide +kernel) tyX2 tyX2_ok nmX2 hown hK hP hD hS 0 rfl rfl 2 (by decide) (hts (.fieldLink RX2 21 "HarvestLender" "count" "I") (by decide +kernel)) (fun _ h9 => h9) rfl (by decide +kernel) rfl rfl (Nat.le_of_ble_eq_true rfl) dX2_init_23 (fun H locs hP hD hS => ?_)
  have hP : va_P G vwCl [(h0, .inr (2, [.ref a1, .ref a2, .int (iI 0), .int 0, .int 0])), (a1, eQ (cy 2) 3 (fun _ => none)), (a2, eQ (cy 3) 8 (fun _ => none))] H := hP
  have hD : va_D A [(h0, .inr (2, [.ref a1, .ref a2, .int (iI 0), .int 0, .int 0])), (a1, eQ (cy 2) 3 (fun _ => none)), (a2, eQ (cy 3) 8 (fun _ => none))] := hD
  refine lv_aload_n hx hb dX2_init_26 rfl (lv_at hl 0 rfl) ?_
  refine k_iconst hx hb dX2_init_27 ?_
  refine va_put (D := G) (ci := 2) (v := .int (iI 0)) (ty := .int) (C := RX2) (T := TX2) (N := 5) hx hb hts (by decide +kernel) tyX2 tyX2_ok nmX2 hown hK hP hD hS 0 rfl rfl 3 (by decide) (hts (.fieldLink RX2 25 "HarvestLender" "season" "I") (by decide +kernel)) (fun _ h9 => h9) rfl (by decide +kernel) rfl rfl (Nat.le_of_ble_eq_true rfl) dX2_init_28 (fun H locs hP hD hS => ?_)
  have hP : va_P G vwCl [(h0, .inr (2, [.ref a1, .ref a2, .int (iI 0), .int (iI 0), .int 0])), (a1, eQ (cy 2) 3 (fun _ => none)), (a2, eQ (cy 3) 8 (fun _ => none))] H := hP
  have hD : va_D A [(h0, .inr (2, [.ref a1, .ref a2, .int (iI 0), .int (iI 0), .int 0])), (a1, eQ (cy 2) 3 (fun _ => none)), (a2, eQ (cy 3) 8 (fun _ => none))] := hD
  refine lv_aload_n hx hb dX2_init_31 rfl (lv_at hl 0 rfl) ?_
  refine k_iconst hx hb dX2_init_32 ?_
  refine va_put (D := G) (ci := 2) (v := .int (iI 0)) (ty := .int) (C := RX2) (T := TX2) (N := 5) hx hb hts (by decide +kernel) tyX2 tyX2_ok nmX2 hown hK hP hD hS 0 rfl rfl 4 (by decide) (hts (.fieldLink RX2 28 "HarvestLender" "stage" "I") (by decide +kernel)) (fun _ h9 => h9) rfl (by decide +kernel) rfl rfl (Nat.le_of_ble_eq_true rfl) dX2_init_33 (fun H locs hP hD hS => ?_)
  have hP : va_P G vwCl [(h0, .inr (2, [.ref a1, .ref a2, .int (iI 0), .int (iI 0), .int (iI 0)])), (a1, eQ (cy 2) 3 (fun _ => none)), (a2, eQ (cy 3) 8 (fun _ => none))] H := hP
  have hD : va_D A [(h0, .inr (2, [.ref a1, .ref a2, .int (iI 0), .int (iI 0), .int (iI 0)])), (a1, eQ (cy 2) 3 (fun _ => none)), (a2, eQ (cy 3) 8 (fun _ => none))] := hD
  refine W.widen (k := 2) (n := 11) (Nat.le_of_ble_eq_true rfl) (Nat.le_of_ble_eq_true rfl) ?_
  refine k_iconst hx hb dX2_init_36 ?_
  refine lv_istore_n (lv' := [(1, .int (iI 0)), (0, .ref h0)]) hx hb dX2_init_37 rfl hl (by decide) rfl (fun ls hl => ?_)
  refine lv_iload_n hx hb dX2_init_38 rfl (lv_at hl 0 rfl) ?_
  refine k_iconst hx hb dX2_init_39 ?_
  refine k_icmp_ge (tgt := 62) hx hb dX2_init_40 (by decide) (by decide) (by decide) (fun c9 => absurd c9 (by decide)) (fun _ => ?_)
  refine x2_crop (k := 0) (h0 := h0) (a1 := a1) (a2 := a2) hx hb hml hts hown hN hK hA hP hD hS ⟨Nat.le_of_ble_eq_true rfl, Nat.le_of_ble_eq_true rfl⟩ hl (by decide) rfl rfl (Nat.le_of_ble_eq_true rfl) (Nat.le_of_ble_eq_true rfl) (fun c0 n0 H locs ls hP hD hS hl => ?_)
  have hP : va_P G vwCl [(h0, .inr (2, [.ref a1, .ref a2, .int (iI 0), .int (iI 0), .int (iI 0)])), (a1, eQ (cy 2) 3 (va_up (fun _ => none) 0 (some c0))), (a2, eQ (cy 3) 8 (fun _ => none)), (c0, eC0 n0), (n0, eN0 cy)] H := hP
  have hD : va_D A [(h0, .inr (2, [.ref a1, .ref a2, .int (iI 0), .int (iI 0), .int (iI 0)])), (a1, eQ (cy 2) 3 (va_up (fun _ => none) 0 (some c0))), (a2, eQ (cy 3) 8 (fun _ => none)), (c0, eC0 n0), (n0, eN0 cy)] := hD
  have hl : lv_has ls 2 [(1, .int (iI 1)), (0, .ref h0)] := hl
  refine lv_iload_n hx hb dX2_init_38 rfl (lv_at hl 0 rfl) ?_
  refine k_iconst hx hb dX2_init_39 ?_
  refine k_icmp_ge (tgt := 62) hx hb dX2_init_40 (by decide) (by decide) (by decide) (fun c9 => absurd c9 (by decide)) (fun _ => ?_)
  refine x2_crop (k := 1) (h0 := h0) (a1 := a1) (a2 := a2) hx hb hml hts hown hN hK hA hP hD hS ⟨Nat.le_of_ble_eq_true rfl, Nat.le_of_ble_eq_true rfl⟩ hl (by decide) rfl rfl (Nat.le_of_ble_eq_true rfl) (Nat.le_of_ble_eq_true rfl) (fun c1 n1 H locs ls hP hD hS hl => ?_)
  have hP : va_P G vwCl [(h0, .inr (2, [.ref a1, .ref a2, .int (iI 0), .int (iI 0), .int (iI 0)])), (a1, eQ (cy 2) 3 (va_up (va_up (fun _ => none) 0 (some c0)) 1 (some c1))), (a2, eQ (cy 3) 8 (fun _ => none)), (c0, eC0 n0), (n0, eN0 cy), (c1, eC0 n1), (n1, eN0 cy)] H := hP
  have hD : va_D A [(h0, .inr (2, [.ref a1, .ref a2, .int (iI 0), .int (iI 0), .int (iI 0)])), (a1, eQ (cy 2) 3 (va_up (va_up (fun _ => none) 0 (some c0)) 1 (some c1))), (a2, eQ (cy 3) 8 (fun _ => none)), (c0, eC0 n0), (n0, eN0 cy), (c1, eC0 n1), (n1, eN0 cy)] := hD
  have hl : lv_has ls 2 [(1, .int (iI 2)), (0, .ref h0)] := hl
  refine lv_iload_n hx hb dX2_init_38 rfl (lv_at hl 0 rfl) ?_
  refine k_iconst hx hb dX2_init_39 ?_
  refine k_icmp_ge (tgt := 62) hx hb dX2_init_40 (by decide) (by decide) (by decide) (fun c9 => absurd c9 (by decide)) (fun _ => ?_)
  refine x2_crop (k := 2) (h0 := h0) (a1 := a1) (a2 := a2) hx hb hml hts hown hN hK hA hP hD hS ⟨Nat.le_of_ble_eq_true rfl, Nat.le_of_ble_eq_true rfl⟩ hl (by decide) rfl rfl (Nat.le_of_ble_eq_true rfl) (Nat.le_of_ble_eq_true rfl) (fun c2 n2 H locs ls hP hD hS hl => ?_)
  have hP : va_P G vwCl [(h0, .inr (2, [.ref a1, .ref a2, .int (iI 0), .int (iI 0), .int (iI 0)])), (a1, eQ (cy 2) 3 (va_up (va_up (va_up (fun _ => none) 0 (some c0)) 1 (some c1)) 2 (some c2))), (a2, eQ (cy 3) 8 (fun _ => none)), (c0, eC0 n0), (n0, eN0 cy), (c1, eC0 n1), (n1, eN0 cy), (c2, eC0 n2), (n2, eN0 cy)] H := hP
  have hD : va_D A [(h0, .inr (2, [.ref a1, .ref a2, .int (iI 0), .int (iI 0), .int (iI 0)])), (a1, eQ (cy 2) 3 (va_up (va_up (va_up (fun _ => none) 0 (some c0)) 1 (some c1)) 2 (some c2))), (a2, eQ (cy 3) 8 (fun _ => none)), (c0, eC0 n0), (n0, eN0 cy), (c1, eC0 n1), (n1, eN0 cy), (c2, eC0 n2), (n2, eN0 cy)] := hD
  have hl : lv_has ls 2 [(1, .int (iI 3)), (0, .ref h0)] := hl
  refine lv_iload_n hx hb dX2_init_38 rfl (lv_at hl 0 rfl) ?_
  refine k_iconst hx hb dX2_init_39 ?_
  refine k_icmp_ge (tgt := 62) hx hb dX2_init_40 (by decide) (by decide) (by decide) (fun _ => ?_) (fun c9 => absurd c9 (by decide))
  refine k_iconst hx hb dX2_init_62 ?_
  refine lv_istore_n (lv' := [(1, .int (iI 0)), (0, .ref h0)]) hx hb dX2_init_63 rfl hl (by decide) rfl (fun ls hl => ?_)
  refine lv_iload_n hx hb dX2_init_64 rfl (lv_at hl 0 rfl) ?_
  refine k_bipush (n := 8) hx hb dX2_init_65 (by decide) ?_
  refine k_icmp_ge (tgt := 89) hx hb dX2_init_67 (by decide) (by decide) (by decide) (fun c9 => absurd c9 (by decide)) (fun _ => ?_)
  refine x2_farm (k := 0) (h0 := h0) (a1 := a1) (a2 := a2) hx hb hml hts hown hN hK hA hP hD hS ⟨Nat.le_of_ble_eq_true rfl, Nat.le_of_ble_eq_true rfl⟩ hl (by decide) rfl rfl (Nat.le_of_ble_eq_true rfl) (Nat.le_of_ble_eq_true rfl) (fun f0 r0 i0 H locs ls hP hD hS hl => ?_)
  have hP : va_P G vwCl [(h0, .inr (2, [.ref a1, .ref a2, .int (iI 0), .int (iI 0), .int (iI 0)])), (a1, eQ (cy 2) 3 (va_up (va_up (va_up (fun _ => none) 0 (some c0)) 1 (some c1)) 2 (some c2))), (a2, eQ (cy 3) 8 (va_up (fun _ => none) 0 (some f0))), (c0, eC0 n0), (n0, eN0 cy), (c1, eC0 n1), (n1, eN0 cy), (c2, eC0 n2), (n2, eN0 cy), (f0, eF0 r0 i0), (r0, eR0 cy 5), (i0, eR0 cy 3)] H := hP
  have hD : va_D A [(h0, .inr (2, [.ref a1, .ref a2, .int (iI 0), .int (iI 0), .int (iI 0)])), (a1, eQ (cy 2) 3 (va_up (va_up (va_up (fun _ => none) 0 (some c0)) 1 (some c1)) 2 (some c2))), (a2, eQ (cy 3) 8 (va_up (fun _ => none) 0 (some f0))), (c0, eC0 n0), (n0, eN0 cy), (c1, eC0 n1), (n1, eN0 cy), (c2, eC0 n2), (n2, eN0 cy), (f0, eF0 r0 i0), (r0, eR0 cy 5), (i0, eR0 cy 3)] := hD
  have hl : lv_has ls 2 [(1, .int (iI 1)), (0, .ref h0)] := hl
  refine lv_iload_n hx hb dX2_init_64 rfl (lv_at hl 0 rfl) ?_
  refine k_bipush (n := 8) hx hb dX2_init_65 (by decide) ?_
  refine k_icmp_ge (tgt := 89) hx hb dX2_init_67 (by decide) (by decide) (by decide) (fun c9 => absurd c9 (by decide)) (fun _ => ?_)
  refine x2_farm (k := 1) (h0 := h0) (a1 := a1) (a2 := a2) hx hb hml hts hown hN hK hA hP hD hS ⟨Nat.le_of_ble_eq_true rfl, Nat.le_of_ble_eq_true rfl⟩ hl (by decide) rfl rfl (Nat.le_of_ble_eq_true rfl) (Nat.le_of_ble_eq_true rfl) (fun f1 r1 i1 H locs ls hP hD hS hl => ?_)
  have hP : va_P G vwCl [(h0, .inr (2, [.ref a1, .ref a2, .int (iI 0), .int (iI 0), .int (iI 0)])), (a1, eQ (cy 2) 3 (va_up (va_up (va_up (fun _ => none) 0 (some c0)) 1 (some c1)) 2 (some c2))), (a2, eQ (cy 3) 8 (va_up (va_up (fun _ => none) 0 (some f0)) 1 (some f1))), (c0, eC0 n0), (n0, eN0 cy), (c1, eC0 n1), (n1, eN0 cy), (c2, eC0 n2), (n2, eN0 cy), (f0, eF0 r0 i0), (r0, eR0 cy 5), (i0, eR0 cy 3), (f1, eF0 r1 i1), (r1, eR0 cy 5), (i1, eR0 cy 3)] H := hP
  have hD : va_D A [(h0, .inr (2, [.ref a1, .ref a2, .int (iI 0), .int (iI 0), .int (iI 0)])), (a1, eQ (cy 2) 3 (va_up (va_up (va_up (fun _ => none) 0 (some c0)) 1 (some c1)) 2 (some c2))), (a2, eQ (cy 3) 8 (va_up (va_up (fun _ => none) 0 (some f0)) 1 (some f1))), (c0, eC0 n0), (n0, eN0 cy), (c1, eC0 n1), (n1, eN0 cy), (c2, eC0 n2), (n2, eN0 cy), (f0, eF0 r0 i0), (r0, eR0 cy 5), (i0, eR0 cy 3), (f1, eF0 r1 i1), (r1, eR0 cy 5), (i1, eR0 cy 3)] := hD
  have hl : lv_has ls 2 [(1, .int (iI 2)), (0, .ref h0)] := hl
  refine lv_iload_n hx hb dX2_init_64 rfl (lv_at hl 0 rfl) ?_
  refine k_bipush (n := 8) hx hb dX2_init_65 (by decide) ?_
  refine k_icmp_ge (tgt := 89) hx hb dX2_init_67 (by decide) (by decide) (by decide) (fun c9 => absurd c9 (by decide)) (fun _ => ?_)
  refine x2_farm (k := 2) (h0 := h0) (a1 := a1) (a2 := a2) hx hb hml hts hown hN hK hA hP hD hS ⟨Nat.le_of_ble_eq_true rfl, Nat.le_of_ble_eq_true rfl⟩ hl (by decide) rfl rfl (Nat.le_of_ble_eq_true rfl) (Nat.le_of_ble_eq_true rfl) (fun f2 r2 i2 H locs ls hP hD hS hl => ?_)
  have hP : va_P G vwCl [(h0, .inr (2, [.ref a1, .ref a2, .int (iI 0), .int (iI 0), .int (iI 0)])), (a1, eQ (cy 2) 3 (va_up (va_up (va_up (fun _ => none) 0 (some c0)) 1 (some c1)) 2 (some c2))), (a2, eQ (cy 3) 8 (va_up (va_up (va_up (fun _ => none) 0 (some f0)) 1 (some f1)) 2 (some f2))), (c0, eC0 n0), (n0, eN0 cy), (c1, eC0 n1), (n1, eN0 cy), (c2, eC0 n2), (n2, eN0 cy), (f0, eF0 r0 i0), (r0, eR0 cy 5), (i0, eR0 cy 3), (f1, eF0 r1 i1), (r1, eR0 cy 5), (i1, eR0 cy 3), (f2, eF0 r2 i2), (r2, eR0 cy 5), (i2, eR0 cy 3)] H := hP
  have hD : va_D A [(h0, .inr (2, [.ref a1, .ref a2, .int (iI 0), .int (iI 0), .int (iI 0)])), (a1, eQ (cy 2) 3 (va_up (va_up (va_up (fun _ => none) 0 (some c0)) 1 (some c1)) 2 (some c2))), (a2, eQ (cy 3) 8 (va_up (va_up (va_up (fun _ => none) 0 (some f0)) 1 (some f1)) 2 (some f2))), (c0, eC0 n0), (n0, eN0 cy), (c1, eC0 n1), (n1, eN0 cy), (c2, eC0 n2), (n2, eN0 cy), (f0, eF0 r0 i0), (r0, eR0 cy 5), (i0, eR0 cy 3), (f1, eF0 r1 i1), (r1, eR0 cy 5), (i1, eR0 cy 3), (f2, eF0 r2 i2), (r2, eR0 cy 5), (i2, eR0 cy 3)] := hD
  have hl : lv_has ls 2 [(1, .int (iI 3)), (0, .ref h0)] := hl
  refine lv_iload_n hx hb dX2_init_64 rfl (lv_at hl 0 rfl) ?_
  refine k_bipush (n := 8) hx hb dX2_init_65 (by decide) ?_
  refine k_icmp_ge (tgt := 89) hx hb dX2_init_67 (by decide) (by decide) (by decide) (fun c9 => absurd c9 (by decide)) (fun _ => ?_)
  refine x2_farm (k := 3) (h0 := h0) (a1 := a1) (a2 := a2) hx hb hml hts hown hN hK hA hP hD hS ⟨Nat.le_of_ble_eq_true rfl, Nat.le_of_ble_eq_true rfl⟩ hl (by decide) rfl rfl (Nat.le_of_ble_eq_true rfl) (Nat.le_of_ble_eq_true rfl) (fun f3 r3 i3 H locs ls hP hD hS hl => ?_)
  have hP : va_P G vwCl [(h0, .inr (2, [.ref a1, .ref a2, .int (iI 0), .int (iI 0), .int (iI 0)])), (a1, eQ (cy 2) 3 (va_up (va_up (va_up (fun _ => none) 0 (some c0)) 1 (some c1)) 2 (some c2))), (a2, eQ (cy 3) 8 (va_up (va_up (va_up (va_up (fun _ => none) 0 (some f0)) 1 (some f1)) 2 (some f2)) 3 (some f3))), (c0, eC0 n0), (n0, eN0 cy), (c1, eC0 n1), (n1, eN0 cy), (c2, eC0 n2), (n2, eN0 cy), (f0, eF0 r0 i0), (r0, eR0 cy 5), (i0, eR0 cy 3), (f1, eF0 r1 i1), (r1, eR0 cy 5), (i1, eR0 cy 3), (f2, eF0 r2 i2), (r2, eR0 cy 5), (i2, eR0 cy 3), (f3, eF0 r3 i3), (r3, eR0 cy 5), (i3, eR0 cy 3)] H := hP
  have hD : va_D A [(h0, .inr (2, [.ref a1, .ref a2, .int (iI 0), .int (iI 0), .int (iI 0)])), (a1, eQ (cy 2) 3 (va_up (va_up (va_up (fun _ => none) 0 (some c0)) 1 (some c1)) 2 (some c2))), (a2, eQ (cy 3) 8 (va_up (va_up (va_up (va_up (fun _ => none) 0 (some f0)) 1 (some f1)) 2 (some f2)) 3 (some f3))), (c0, eC0 n0), (n0, eN0 cy), (c1, eC0 n1), (n1, eN0 cy), (c2, eC0 n2), (n2, eN0 cy), (f0, eF0 r0 i0), (r0, eR0 cy 5), (i0, eR0 cy 3), (f1, eF0 r1 i1), (r1, eR0 cy 5), (i1, eR0 cy 3), (f2, eF0 r2 i2), (r2, eR0 cy 5), (i2, eR0 cy 3), (f3, eF0 r3 i3), (r3, eR0 cy 5), (i3, eR0 cy 3)] := hD
  have hl : lv_has ls 2 [(1, .int (iI 4)), (0, .ref h0)] := hl
  refine lv_iload_n hx hb dX2_init_64 rfl (lv_at hl 0 rfl) ?_
  refine k_bipush (n := 8) hx hb dX2_init_65 (by decide) ?_
  refine k_icmp_ge (tgt := 89) hx hb dX2_init_67 (by decide) (by decide) (by decide) (fun c9 => absurd c9 (by decide)) (fun _ => ?_)
  refine x2_farm (k := 4) (h0 := h0) (a1 := a1) (a2 := a2) hx hb hml hts hown hN hK hA hP hD hS ⟨Nat.le_of_ble_eq_true rfl, Nat.le_of_ble_eq_true rfl⟩ hl (by decide) rfl rfl (Nat.le_of_ble_eq_true rfl) (Nat.le_of_ble_eq_true rfl) (fun f4 r4 i4 H locs ls hP hD hS hl => ?_)
  have hP : va_P G vwCl [(h0, .inr (2, [.ref a1, .ref a2, .int (iI 0), .int (iI 0), .int (iI 0)])), (a1, eQ (cy 2) 3 (va_up (va_up (va_up (fun _ => none) 0 (some c0)) 1 (some c1)) 2 (some c2))), (a2, eQ (cy 3) 8 (va_up (va_up (va_up (va_up (va_up (fun _ => none) 0 (some f0)) 1 (some f1)) 2 (some f2)) 3 (some f3)) 4 (some f4))), (c0, eC0 n0), (n0, eN0 cy), (c1, eC0 n1), (n1, eN0 cy), (c2, eC0 n2), (n2, eN0 cy), (f0, eF0 r0 i0), (r0, eR0 cy 5), (i0, eR0 cy 3), (f1, eF0 r1 i1), (r1, eR0 cy 5), (i1, eR0 cy 3), (f2, eF0 r2 i2), (r2, eR0 cy 5), (i2, eR0 cy 3), (f3, eF0 r3 i3), (r3, eR0 cy 5), (i3, eR0 cy 3), (f4, eF0 r4 i4), (r4, eR0 cy 5), (i4, eR0 cy 3)] H := hP
  have hD : va_D A [(h0, .inr (2, [.ref a1, .ref a2, .int (iI 0), .int (iI 0), .int (iI 0)])), (a1, eQ (cy 2) 3 (va_up (va_up (va_up (fun _ => none) 0 (some c0)) 1 (some c1)) 2 (some c2))), (a2, eQ (cy 3) 8 (va_up (va_up (va_up (va_up (va_up (fun _ => none) 0 (some f0)) 1 (some f1)) 2 (some f2)) 3 (some f3)) 4 (some f4))), (c0, eC0 n0), (n0, eN0 cy), (c1, eC0 n1), (n1, eN0 cy), (c2, eC0 n2), (n2, eN0 cy), (f0, eF0 r0 i0), (r0, eR0 cy 5), (i0, eR0 cy 3), (f1, eF0 r1 i1), (r1, eR0 cy 5), (i1, eR0 cy 3), (f2, eF0 r2 i2), (r2, eR0 cy 5), (i2, eR0 cy 3), (f3, eF0 r3 i3), (r3, eR0 cy 5), (i3, eR0 cy 3), (f4, eF0 r4 i4), (r4, eR0 cy 5), (i4, eR0 cy 3)] := hD
  have hl : lv_has ls 2 [(1, .int (iI 5)), (0, .ref h0)] := hl
  refine lv_iload_n hx hb dX2_init_64 rfl (lv_at hl 0 rfl) ?_
  refine k_bipush (n := 8) hx hb dX2_init_65 (by decide) ?_
  refine k_icmp_ge (tgt := 89) hx hb dX2_init_67 (by decide) (by decide) (by decide) (fun c9 => absurd c9 (by decide)) (fun _ => ?_)
  refine x2_farm (k := 5) (h0 := h0) (a1 := a1) (a2 := a2) hx hb hml hts hown hN hK hA hP hD hS ⟨Nat.le_of_ble_eq_true rfl, Nat.le_of_ble_eq_true rfl⟩ hl (by decide) rfl rfl (Nat.le_of_ble_eq_true rfl) (Nat.le_of_ble_eq_true rfl) (fun f5 r5 i5 H locs ls hP hD hS hl => ?_)
  have hP : va_P G vwCl [(h0, .inr (2, [.ref a1, .ref a2, .int (iI 0), .int (iI 0), .int (iI 0)])), (a1, eQ (cy 2) 3 (va_up (va_up (va_up (fun _ => none) 0 (some c0)) 1 (some c1)) 2 (some c2))), (a2, eQ (cy 3) 8 (va_up (va_up (va_up (va_up (va_up (va_up (fun _ => none) 0 (some f0)) 1 (some f1)) 2 (some f2)) 3 (some f3)) 4 (some f4)) 5 (some f5))), (c0, eC0 n0), (n0, eN0 cy), (c1, eC0 n1), (n1, eN0 cy), (c2, eC0 n2), (n2, eN0 cy), (f0, eF0 r0 i0), (r0, eR0 cy 5), (i0, eR0 cy 3), (f1, eF0 r1 i1), (r1, eR0 cy 5), (i1, eR0 cy 3), (f2, eF0 r2 i2), (r2, eR0 cy 5), (i2, eR0 cy 3), (f3, eF0 r3 i3), (r3, eR0 cy 5), (i3, eR0 cy 3), (f4, eF0 r4 i4), (r4, eR0 cy 5), (i4, eR0 cy 3), (f5, eF0 r5 i5), (r5, eR0 cy 5), (i5, eR0 cy 3)] H := hP
  have hD : va_D A [(h0, .inr (2, [.ref a1, .ref a2, .int (iI 0), .int (iI 0), .int (iI 0)])), (a1, eQ (cy 2) 3 (va_up (va_up (va_up (fun _ => none) 0 (some c0)) 1 (some c1)) 2 (some c2))), (a2, eQ (cy 3) 8 (va_up (va_up (va_up (va_up (va_up (va_up (fun _ => none) 0 (some f0)) 1 (some f1)) 2 (some f2)) 3 (some f3)) 4 (some f4)) 5 (some f5))), (c0, eC0 n0), (n0, eN0 cy), (c1, eC0 n1), (n1, eN0 cy), (c2, eC0 n2), (n2, eN0 cy), (f0, eF0 r0 i0), (r0, eR0 cy 5), (i0, eR0 cy 3), (f1, eF0 r1 i1), (r1, eR0 cy 5), (i1, eR0 cy 3), (f2, eF0 r2 i2), (r2, eR0 cy 5), (i2, eR0 cy 3), (f3, eF0 r3 i3), (r3, eR0 cy 5), (i3, eR0 cy 3), (f4, eF0 r4 i4), (r4, eR0 cy 5), (i4, eR0 cy 3), (f5, eF0 r5 i5), (r5, eR0 cy 5), (i5, eR0 cy 3)] := hD
  have hl : lv_has ls 2 [(1, .int (iI 6)), (0, .ref h0)] := hl
  refine lv_iload_n hx hb dX2_init_64 rfl (lv_at hl 0 rfl) ?_
  refine k_bipush (n := 8) hx hb dX2_init_65 (by decide) ?_
  refine k_icmp_ge (tgt := 89) hx hb dX2_init_67 (by decide) (by decide) (by decide) (fun c9 => absurd c9 (by decide)) (fun _ => ?_)
  refine x2_farm (k := 6) (h0 := h0) (a1 := a1) (a2 := a2) hx hb hml hts hown hN hK hA hP hD hS ⟨Nat.le_of_ble_eq_true rfl, Nat.le_of_ble_eq_true rfl⟩ hl (by decide) rfl rfl (Nat.le_of_ble_eq_true rfl) (Nat.le_of_ble_eq_true rfl) (fun f6 r6 i6 H locs ls hP hD hS hl => ?_)
  have hP : va_P G vwCl [(h0, .inr (2, [.ref a1, .ref a2, .int (iI 0), .int (iI 0), .int (iI 0)])), (a1, eQ (cy 2) 3 (va_up (va_up (va_up (fun _ => none) 0 (some c0)) 1 (some c1)) 2 (some c2))), (a2, eQ (cy 3) 8 (va_up (va_up (va_up (va_up (va_up (va_up (va_up (fun _ => none) 0 (some f0)) 1 (some f1)) 2 (some f2)) 3 (some f3)) 4 (some f4)) 5 (some f5)) 6 (some f6))), (c0, eC0 n0), (n0, eN0 cy), (c1, eC0 n1), (n1, eN0 cy), (c2, eC0 n2), (n2, eN0 cy), (f0, eF0 r0 i0), (r0, eR0 cy 5), (i0, eR0 cy 3), (f1, eF0 r1 i1), (r1, eR0 cy 5), (i1, eR0 cy 3), (f2, eF0 r2 i2), (r2, eR0 cy 5), (i2, eR0 cy 3), (f3, eF0 r3 i3), (r3, eR0 cy 5), (i3, eR0 cy 3), (f4, eF0 r4 i4), (r4, eR0 cy 5), (i4, eR0 cy 3), (f5, eF0 r5 i5), (r5, eR0 cy 5), (i5, eR0 cy 3), (f6, eF0 r6 i6), (r6, eR0 cy 5), (i6, eR0 cy 3)] H := hP
  have hD : va_D A [(h0, .inr (2, [.ref a1, .ref a2, .int (iI 0), .int (iI 0), .int (iI 0)])), (a1, eQ (cy 2) 3 (va_up (va_up (va_up (fun _ => none) 0 (some c0)) 1 (some c1)) 2 (some c2))), (a2, eQ (cy 3) 8 (va_up (va_up (va_up (va_up (va_up (va_up (va_up (fun _ => none) 0 (some f0)) 1 (some f1)) 2 (some f2)) 3 (some f3)) 4 (some f4)) 5 (some f5)) 6 (some f6))), (c0, eC0 n0), (n0, eN0 cy), (c1, eC0 n1), (n1, eN0 cy), (c2, eC0 n2), (n2, eN0 cy), (f0, eF0 r0 i0), (r0, eR0 cy 5), (i0, eR0 cy 3), (f1, eF0 r1 i1), (r1, eR0 cy 5), (i1, eR0 cy 3), (f2, eF0 r2 i2), (r2, eR0 cy 5), (i2, eR0 cy 3), (f3, eF0 r3 i3), (r3, eR0 cy 5), (i3, eR0 cy 3), (f4, eF0 r4 i4), (r4, eR0 cy 5), (i4, eR0 cy 3), (f5, eF0 r5 i5), (r5, eR0 cy 5), (i5, eR0 cy 3), (f6, eF0 r6 i6), (r6, eR0 cy 5), (i6, eR0 cy 3)] := hD
  have hl : lv_has ls 2 [(1, .int (iI 7)), (0, .ref h0)] := hl
  refine lv_iload_n hx hb dX2_init_64 rfl (lv_at hl 0 rfl) ?_
  refine k_bipush (n := 8) hx hb dX2_init_65 (by decide) ?_
  refine k_icmp_ge (tgt := 89) hx hb dX2_init_67 (by decide) (by decide) (by decide) (fun c9 => absurd c9 (by decide)) (fun _ => ?_)
  refine x2_farm (k := 7) (h0 := h0) (a1 := a1) (a2 := a2) hx hb hml hts hown hN hK hA hP hD hS ⟨Nat.le_of_ble_eq_true rfl, Nat.le_of_ble_eq_true rfl⟩ hl (by decide) rfl rfl (Nat.le_of_ble_eq_true rfl) (Nat.le_of_ble_eq_true rfl) (fun f7 r7 i7 H locs ls hP hD hS hl => ?_)
  have hP : va_P G vwCl [(h0, .inr (2, [.ref a1, .ref a2, .int (iI 0), .int (iI 0), .int (iI 0)])), (a1, eQ (cy 2) 3 (va_up (va_up (va_up (fun _ => none) 0 (some c0)) 1 (some c1)) 2 (some c2))), (a2, eQ (cy 3) 8 (va_up (va_up (va_up (va_up (va_up (va_up (va_up (va_up (fun _ => none) 0 (some f0)) 1 (some f1)) 2 (some f2)) 3 (some f3)) 4 (some f4)) 5 (some f5)) 6 (some f6)) 7 (some f7))), (c0, eC0 n0), (n0, eN0 cy), (c1, eC0 n1), (n1, eN0 cy), (c2, eC0 n2), (n2, eN0 cy), (f0, eF0 r0 i0), (r0, eR0 cy 5), (i0, eR0 cy 3), (f1, eF0 r1 i1), (r1, eR0 cy 5), (i1, eR0 cy 3), (f2, eF0 r2 i2), (r2, eR0 cy 5), (i2, eR0 cy 3), (f3, eF0 r3 i3), (r3, eR0 cy 5), (i3, eR0 cy 3), (f4, eF0 r4 i4), (r4, eR0 cy 5), (i4, eR0 cy 3), (f5, eF0 r5 i5), (r5, eR0 cy 5), (i5, eR0 cy 3), (f6, eF0 r6 i6), (r6, eR0 cy 5), (i6, eR0 cy 3), (f7, eF0 r7 i7), (r7, eR0 cy 5), (i7, eR0 cy 3)] H := hP
  have hD : va_D A [(h0, .inr (2, [.ref a1, .ref a2, .int (iI 0), .int (iI 0), .int (iI 0)])), (a1, eQ (cy 2) 3 (va_up (va_up (va_up (fun _ => none) 0 (some c0)) 1 (some c1)) 2 (some c2))), (a2, eQ (cy 3) 8 (va_up (va_up (va_up (va_up (va_up (va_up (va_up (va_up (fun _ => none) 0 (some f0)) 1 (some f1)) 2 (some f2)) 3 (some f3)) 4 (some f4)) 5 (some f5)) 6 (some f6)) 7 (some f7))), (c0, eC0 n0), (n0, eN0 cy), (c1, eC0 n1), (n1, eN0 cy), (c2, eC0 n2), (n2, eN0 cy), (f0, eF0 r0 i0), (r0, eR0 cy 5), (i0, eR0 cy 3), (f1, eF0 r1 i1), (r1, eR0 cy 5), (i1, eR0 cy 3), (f2, eF0 r2 i2), (r2, eR0 cy 5), (i2, eR0 cy 3), (f3, eF0 r3 i3), (r3, eR0 cy 5), (i3, eR0 cy 3), (f4, eF0 r4 i4), (r4, eR0 cy 5), (i4, eR0 cy 3), (f5, eF0 r5 i5), (r5, eR0 cy 5), (i5, eR0 cy 3), (f6, eF0 r6 i6), (r6, eR0 cy 5), (i6, eR0 cy 3), (f7, eF0 r7 i7), (r7, eR0 cy 5), (i7, eR0 cy 3)] := hD
  have hl : lv_has ls 2 [(1, .int (iI 8)), (0, .ref h0)] := hl
  refine lv_iload_n hx hb dX2_init_64 rfl (lv_at hl 0 rfl) ?_
  refine k_bipush (n := 8) hx hb dX2_init_65 (by decide) ?_
  refine k_icmp_ge (tgt := 89) hx hb dX2_init_67 (by decide) (by decide) (by decide) (fun _ => ?_) (fun c9 => absurd c9 (by decide))
  have hP := hP.sub (ws' := [(h0, .inr (2, [.ref a1, .ref a2, .int (iI 0), .int (iI 0), .int (iI 0)])), (a1, eQ (cy 2) 3 (va_up (va_up (va_up (fun _ => none) 0 (some c0)) 1 (some c1)) 2 (some c2))), (a2, eQ (cy 3) 8 (va_up (va_up (va_up (va_up (va_up (va_up (va_up (va_up (fun _ => none) 0 (some f0)) 1 (some f1)) 2 (some f2)) 3 (some f3)) 4 (some f4)) 5 (some f5)) 6 (some f6)) 7 (some f7))), (c0, eC0 n0), (c1, eC0 n1), (c2, eC0 n2), (n0, eN0 cy), (n1, eN0 cy), (n2, eN0 cy), (f0, eF0 r0 i0), (f1, eF0 r1 i1), (f2, eF0 r2 i2), (f3, eF0 r3 i3), (f4, eF0 r4 i4), (f5, eF0 r5 i5), (f6, eF0 r6 i6), (f7, eF0 r7 i7), (r0, eR0 cy 5), (r1, eR0 cy 5), (r2, eR0 cy 5), (r3, eR0 cy 5), (r4, eR0 cy 5), (r5, eR0 cy 5), (r6, eR0 cy 5), (r7, eR0 cy 5), (i0, eR0 cy 3), (i1, eR0 cy 3), (i2, eR0 cy 3), (i3, eR0 cy 3), (i4, eR0 cy 3), (i5, eR0 cy 3), (i6, eR0 cy 3), (i7, eR0 cy 3)]) [0, 1, 2, 3, 5, 7, 4, 6, 8, 9, 12, 15, 18, 21, 24, 27, 30, 10, 13, 16, 19, 22, 25, 28, 31, 11, 14, 17, 20, 23, 26, 29, 32] rfl
  have hD := hD.sub (ws' := [(h0, .inr (2, [.ref a1, .ref a2, .int (iI 0), .int (iI 0), .int (iI 0)])), (a1, eQ (cy 2) 3 (va_up (va_up (va_up (fun _ => none) 0 (some c0)) 1 (some c1)) 2 (some c2))), (a2, eQ (cy 3) 8 (va_up (va_up (va_up (va_up (va_up (va_up (va_up (va_up (fun _ => none) 0 (some f0)) 1 (some f1)) 2 (some f2)) 3 (some f3)) 4 (some f4)) 5 (some f5)) 6 (some f6)) 7 (some f7))), (c0, eC0 n0), (c1, eC0 n1), (c2, eC0 n2), (n0, eN0 cy), (n1, eN0 cy), (n2, eN0 cy), (f0, eF0 r0 i0), (f1, eF0 r1 i1), (f2, eF0 r2 i2), (f3, eF0 r3 i3), (f4, eF0 r4 i4), (f5, eF0 r5 i5), (f6, eF0 r6 i6), (f7, eF0 r7 i7), (r0, eR0 cy 5), (r1, eR0 cy 5), (r2, eR0 cy 5), (r3, eR0 cy 5), (r4, eR0 cy 5), (r5, eR0 cy 5), (r6, eR0 cy 5), (r7, eR0 cy 5), (i0, eR0 cy 3), (i1, eR0 cy 3), (i2, eR0 cy 3), (i3, eR0 cy 3), (i4, eR0 cy 3), (i5, eR0 cy 3), (i6, eR0 cy 3), (i7, eR0 cy 3)]) [0, 1, 2, 3, 5, 7, 4, 6, 8, 9, 12, 15, 18, 21, 24, 27, 30, 10, 13, 16, 19, 22, 25, 28, 31, 11, 14, 17, 20, 23, 26, 29, 32] (by decide) rfl
  have hAD := adOf_D hD
  generalize hadE : adOf [(h0, .inr (2, [.ref a1, .ref a2, .int (iI 0), .int (iI 0), .int (iI 0)])), (a1, eQ (cy 2) 3 (va_up (va_up (va_up (fun _ => none) 0 (some c0)) 1 (some c1)) 2 (some c2))), (a2, eQ (cy 3) 8 (va_up (va_up (va_up (va_up (va_up (va_up (va_up (va_up (fun _ => none) 0 (some f0)) 1 (some f1)) 2 (some f2)) 3 (some f3)) 4 (some f4)) 5 (some f5)) 6 (some f6)) 7 (some f7))), (c0, eC0 n0), (c1, eC0 n1), (c2, eC0 n2), (n0, eN0 cy), (n1, eN0 cy), (n2, eN0 cy), (f0, eF0 r0 i0), (f1, eF0 r1 i1), (f2, eF0 r2 i2), (f3, eF0 r3 i3), (f4, eF0 r4 i4), (f5, eF0 r5 i5), (f6, eF0 r6 i6), (f7, eF0 r7 i7), (r0, eR0 cy 5), (r1, eR0 cy 5), (r2, eR0 cy 5), (r3, eR0 cy 5), (r4, eR0 cy 5), (r5, eR0 cy 5), (r6, eR0 cy 5), (r7, eR0 cy 5), (i0, eR0 cy 3), (i1, eR0 cy 3), (i2, eR0 cy 3), (i3, eR0 cy 3), (i4, eR0 cy 3), (i5, eR0 cy 3), (i6, eR0 cy 3), (i7, eR0 cy 3)] = ad at hAD
  have z0 : ad 0 = h0 := by rw [← hadE]; rfl
  have z1 : ad 1 = a1 := by rw [← hadE]; rfl
  have z2 : ad 2 = a2 := by rw [← hadE]; rfl
  have z3 : ad 3 = c0 := by rw [← hadE]; rfl
  have z4 : ad 4 = c1 := by rw [← hadE]; rfl
  have z5 : ad 5 = c2 := by rw [← hadE]; rfl
  have z6 : ad 6 = n0 := by rw [← hadE]; rfl
  have z7 : ad 7 = n1 := by rw [← hadE]; rfl
  have z8 : ad 8 = n2 := by rw [← hadE]; rfl
  have z9 : ad 9 = f0 := by rw [← hadE]; rfl
  have z10 : ad 10 = f1 := by rw [← hadE]; rfl
  have z11 : ad 11 = f2 := by rw [← hadE]; rfl
  have z12 : ad 12 = f3 := by rw [← hadE]; rfl
  have z13 : ad 13 = f4 := by rw [← hadE]; rfl
  have z14 : ad 14 = f5 := by rw [← hadE]; rfl
  have z15 : ad 15 = f6 := by rw [← hadE]; rfl
  have z16 : ad 16 = f7 := by rw [← hadE]; rfl
  have z17 : ad 17 = r0 := by rw [← hadE]; rfl
  have z18 : ad 18 = r1 := by rw [← hadE]; rfl
  have z19 : ad 19 = r2 := by rw [← hadE]; rfl
  have z20 : ad 20 = r3 := by rw [← hadE]; rfl
  have z21 : ad 21 = r4 := by rw [← hadE]; rfl
  have z22 : ad 22 = r5 := by rw [← hadE]; rfl
  have z23 : ad 23 = r6 := by rw [← hadE]; rfl
  have z24 : ad 24 = r7 := by rw [← hadE]; rfl
  have z25 : ad 25 = i0 := by rw [← hadE]; rfl
  have z26 : ad 26 = i1 := by rw [← hadE]; rfl
  have z27 : ad 27 = i2 := by rw [← hadE]; rfl
  have z28 : ad 28 = i3 := by rw [← hadE]; rfl
  have z29 : ad 29 = i4 := by rw [← hadE]; rfl
  have z30 : ad 30 = i5 := by rw [← hadE]; rfl
  have z31 : ad 31 = i6 := by rw [← hadE]; rfl
  have z32 : ad 32 = i7 := by rw [← hadE]; rfl
  have hI : cI ad := fun i j hi hj h => hAD.1 i j hi hj h
  have hP9 : va_P G vwCl (cW ad cy cS0) H := fun k q hq => by
    obtain ⟨hk, rfl⟩ := cW_some hq
    rcases (by omega : k = 0 ∨ k = 1 ∨ k = 2 ∨ k = 3 ∨ k = 4 ∨ k = 5 ∨ k = 6 ∨ k = 7 ∨ k = 8 ∨ k = 9 ∨ k = 10 ∨ k = 11 ∨ k = 12 ∨ k = 13 ∨ k = 14 ∨ k = 15 ∨ k = 16 ∨ k = 17 ∨ k = 18 ∨ k = 19 ∨ k = 20 ∨ k = 21 ∨ k = 22 ∨ k = 23 ∨ k = 24 ∨ k = 25 ∨ k = 26 ∨ k = 27 ∨ k = 28 ∨ k = 29 ∨ k = 30 ∨ k = 31 ∨ k = 32) with rfl | rfl | rfl | rfl | rfl | rfl | rfl | rfl | rfl | rfl | rfl | rfl | rfl | rfl | rfl | rfl | rfl | rfl | rfl | rfl | rfl | rfl | rfl | rfl | rfl | rfl | rfl | rfl | rfl | rfl | rfl | rfl | rfl
    · have h9 := hP 0 _ rfl
      rw [← z0, ← z1, ← z2] at h9
      exact h9
    · have h9 := hP 1 _ rfl
      rw [← z1, ← z3, ← z4, ← z5] at h9
      exact h9.trans (congrArg some (vp_q_ext (fun j hj => by rcases (by omega : j = 0 ∨ j = 1 ∨ j = 2) with rfl | rfl | rfl <;> rfl)))
    · have h9 := hP 2 _ rfl
      rw [← z2, ← z9, ← z10, ← z11, ← z12, ← z13, ← z14, ← z15, ← z16] at h9
      exact h9.trans (congrArg some (vp_q_ext (fun j hj => by rcases (by omega : j = 0 ∨ j = 1 ∨ j = 2 ∨ j = 3 ∨ j = 4 ∨ j = 5 ∨ j = 6 ∨ j = 7) with rfl | rfl | rfl | rfl | rfl | rfl | rfl | rfl <;> rfl)))
    · have h9 := hP 3 _ rfl
      rw [← z3, ← z6] at h9
      exact h9
    · have h9 := hP 4 _ rfl
      rw [← z4, ← z7] at h9
      exact h9
    · have h9 := hP 5 _ rfl
      rw [← z5, ← z8] at h9
      exact h9
    · have h9 := hP 6 _ rfl
      rw [← z6] at h9
      exact h9
    · have h9 := hP 7 _ rfl
      rw [← z7] at h9
      exact h9
    · have h9 := hP 8 _ rfl
      rw [← z8] at h9
      exact h9
    · have h9 := hP 9 _ rfl
      rw [← z9, ← z17, ← z25] at h9
      exact h9
    · have h9 := hP 10 _ rfl
      rw [← z10, ← z18, ← z26] at h9
      exact h9
    · have h9 := hP 11 _ rfl
      rw [← z11, ← z19, ← z27] at h9
      exact h9
    · have h9 := hP 12 _ rfl
      rw [← z12, ← z20, ← z28] at h9
      exact h9
    · have h9 := hP 13 _ rfl
      rw [← z13, ← z21, ← z29] at h9
      exact h9
    · have h9 := hP 14 _ rfl
      rw [← z14, ← z22, ← z30] at h9
      exact h9
    · have h9 := hP 15 _ rfl
      rw [← z15, ← z23, ← z31] at h9
      exact h9
    · have h9 := hP 16 _ rfl
      rw [← z16, ← z24, ← z32] at h9
      exact h9
    · have h9 := hP 17 _ rfl
      rw [← z17] at h9
      exact h9
    · have h9 := hP 18 _ rfl
      rw [← z18] at h9
      exact h9
    · have h9 := hP 19 _ rfl
      rw [← z19] at h9
      exact h9
    · have h9 := hP 20 _ rfl
      rw [← z20] at h9
      exact h9
    · have h9 := hP 21 _ rfl
      rw [← z21] at h9
      exact h9
    · have h9 := hP 22 _ rfl
      rw [← z22] at h9
      exact h9
    · have h9 := hP 23 _ rfl
      rw [← z23] at h9
      exact h9
    · have h9 := hP 24 _ rfl
      rw [← z24] at h9
      exact h9
    · have h9 := hP 25 _ rfl
      rw [← z25] at h9
      exact h9
    · have h9 := hP 26 _ rfl
      rw [← z26] at h9
      exact h9
    · have h9 := hP 27 _ rfl
      rw [← z27] at h9
      exact h9
    · have h9 := hP 28 _ rfl
      rw [← z28] at h9
      exact h9
    · have h9 := hP 29 _ rfl
      rw [← z29] at h9
      exact h9
    · have h9 := hP 30 _ rfl
      rw [← z30] at h9
      exact h9
    · have h9 := hP 31 _ rfl
      rw [← z31] at h9
      exact h9
    · have h9 := hP 32 _ rfl
      rw [← z32] at h9
      exact h9
  subst hAe
  exact W.vret hx hb hr (fun t ht hW => ⟨⟨ad, rfl, ⟨z0, hI⟩, by rw [ht]; exact hP9, va_K.moved hW.alike hK, cD hI hAD.2 cy cS0⟩, hS.F ht⟩) hS.2.2 dX2_init_89
