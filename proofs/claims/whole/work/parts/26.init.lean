/-! the constructors -/
def fC0 (b : Nat) : Int := if b = 1 then 100 else if b = 2 then 50 else 0
def fN0 (b : Nat) : Int := if b < 4 then 1000 else 0
def fF0 (b : Nat) : Int := if b = 12 then -1 else if b = 15 then 100 else 0
def cS0 : Sg := fun a b => match a with
  | 3 => fC0 b
  | 4 => fC0 b
  | 5 => fC0 b
  | 6 => fN0 b
  | 7 => fN0 b
  | 8 => fN0 b
  | 9 => fF0 b
  | 10 => fF0 b
  | 11 => fF0 b
  | 12 => fF0 b
  | 13 => fF0 b
  | 14 => fF0 b
  | 15 => fF0 b
  | 16 => fF0 b
  | _ => 0
def mS0 : Sg := fun _ _ => 0
def mS1 (k : Nat) : Sg := fun a j => if a = 1 ∧ j < k then 1000 else 0
def mS2 (k : Nat) : Sg := fun a j => if a = 1 ∧ j < 12 then 1000 else if a = 2 ∧ j < k then 100 else if a = 3 ∧ j < k then 50 else 0
theorem mS1_0 : mS1 0 = mS0 := by
  funext a j
  simp [mS1, mS0]
theorem mS1_s (k : Nat) : up (mS1 k) 1 k 1000 = mS1 (k + 1) := by
  funext a j
  unfold up mS1
  repeat' split
  all_goals first | rfl | (exfalso; omega)
theorem mS2_0 : mS2 0 = mS1 12 := by
  funext a j
  simp [mS1, mS2]
theorem mS2_s (k : Nat) : up (up (mS2 k) 2 k 100) 3 k 50 = mS2 (k + 1) := by
  funext a j
  unfold up mS2
  repeat' split
  all_goals first | rfl | (exfalso; omega)
abbrev eC0 (q : Nat) : va_E := .inr (0, [.ref q, .int (iI 100), .int (iI 50)])
abbrev eN0 (cy : Nat → ClassId) : va_E := .inl (cy 0, 4, .inl (fun q => iI (fN0 q)))
abbrev eNk (cy : Nat → ClassId) (k : Nat) : va_E := .inl (cy 0, 4, .inl (fun q => iI (if q < k then 1000 else 0)))
abbrev eF0 (qr qi : Nat) : va_E := .inr (1, [.int (iI 0), .long (iL 0), .long (iL 0), .long (iL 0), .long (iL 0), .long (iL 0), .ref qr, .ref qi, .int (iI 0), .int (iI 0), .int (iI 0), .int (iI 0), .int (iI (-1)), .int (iI 0), .int (iI 0), .int (iI 100), .int (iI 0)])
abbrev eR0 (cy : Nat → ClassId) (n : Nat) : va_E := .inl (cy 1, n, .inr (.inl (fun _ => iL 0)))
abbrev eI0 (cy : Nat → ClassId) (n : Nat) : va_E := .inl (cy 0, n, .inl (fun _ => iI 0))
abbrev eQ (c : ClassId) (n : Nat) (f : Nat → Option Nat) : va_E := .inl (c, n, .inr (.inr (.inr (.inr f))))
abbrev dC : va_E := .inr (0, [.null, .int 0, .int 0])
abbrev dF : va_E := .inr (1, [.int 0, .long 0, .long 0, .long 0, .long 0, .long 0, .null, .null, .int 0, .int 0, .int 0, .int 0, .int 0, .int 0, .int 0, .int 0, .int 0])
abbrev dH : va_E := .inr (2, [.null, .null, .int 0, .int 0, .int 0])
abbrev dM : va_E := .inr (3, [.int 0, .int 0, .int 0, .null, .null, .null, .int 0, .null, .null, .null, .null, .null, .null, .null, .null, .null, .null, .null, .null, .null, .null, .null, .null, .null])
theorem upd_N (cy : Nat → ClassId) (k : Nat) : upd (fun q => iI (if q < k then 1000 else 0)) k (iI 1000) = fun q => iI (if q < k + 1 then 1000 else 0) := by
  funext q
  show (if q = k then iI 1000 else iI (if q < k then 1000 else 0)) = iI (if q < k + 1 then 1000 else 0)
  by_cases h : q = k
  · rw [if_pos h, if_pos (by omega)]
  · rw [if_neg h]
    by_cases h2 : q < k
    · rw [if_pos h2, if_pos (by omega)]
    · rw [if_neg h2, if_neg (by omega)]
def adOf (L : va_W) : Nat → Nat := fun j => (L[j]?.map (fun q => q.1)).getD 0
theorem adOf_at {L : va_W} {j : Nat} (h : j < L.length) : ∃ x, L[j]? = some (adOf L j, x) := ⟨L[j].2, by rw [adOf, List.getElem?_eq_getElem h]; rfl⟩
theorem adOf_D {A : Nat → Prop} {L : va_W} (hD : va_D A L) : (∀ i j, i < L.length → j < L.length → adOf L i = adOf L j → i = j) ∧ ∀ j, j < L.length → A (adOf L j) := by
  refine ⟨fun i j hi hj h => ?_, fun j hj => ?_⟩
  · obtain ⟨x, hx1⟩ := adOf_at hi
    obtain ⟨y, hy1⟩ := adOf_at hj
    exact hD.1 i j _ _ hx1 hy1 h
  · obtain ⟨x, hx1⟩ := adOf_at hj
    exact hD.2 j _ hx1
theorem d1 {A : Nat → Prop} {a : Nat} {x : va_E} (h : A a) : va_D A [(a, x)] := ⟨fun i j p q h1 h2 _ => by
  cases i with
  | zero =>
    cases j with
    | zero => rfl
    | succ j => simp at h2
  | succ i => simp at h1, fun k q h1 => by rw [one_at h1]; exact h⟩
theorem last_P {D : va_G} {cl : List vw_C} {ws : va_W} {x : Nat × va_E} {H : Heap} (h : va_P D cl (ws ++ [x]) H) : va_P D cl [x] H := h.by (fun k => ws.length + k) (fun k q hk => by
  rw [List.getElem?_append_right (by omega)]
  simpa using hk)
theorem rng_app (ws : va_W) (x : Nat × va_E) : (List.range ws.length).map (fun i => (ws ++ [x])[i]?) = ws.map some := by
  apply List.ext_getElem?
  intro k
  by_cases hk : k < ws.length
  · simp [hk, List.getElem?_append_left hk]
  · simp [hk]
theorem nd_of {l : List Nat} (h : l.Nodup) : va_nd l = true := by
  induction l with
  | nil => rfl
  | cons a l ih =>
    rw [List.nodup_cons] at h
    simp only [va_nd, Bool.and_eq_true, decide_eq_true_eq]
    exact ⟨h.1, ih h.2⟩
theorem joinA {A0 : Nat → Prop} {D : va_G} {cl : List vw_C} {ws w1 : va_W} {x : Nat × va_E} {H H1 : Heap} (hP : va_P D cl (ws ++ [x]) H) (hD : va_D A0 (ws ++ [x])) (hk : ∀ q : Nat, q < H.size → ¬ va_A [x] H.size q → H1[q]? = H[q]?) (hF : ∀ q, va_A [x] H.size q → A0 q) (hP1 : va_P D cl w1 H1) (hD1 : va_D (va_A [x] H.size) w1) : va_P D cl (ws ++ w1) H1 ∧ va_D A0 (ws ++ w1) :=
  va_join hP hD [ws.length] (List.range ws.length) (by simp) (rng_app ws x) (nd_of List.nodup_range) (fun i hi h9 => by
    have := List.mem_range.mp hi
    simp at h9
    omega) hk hF hP1 hD1
theorem freeA {A0 : Nat → Prop} {ws : va_W} {x : Nat × va_E} {H0 H : Heap} {locs : List Loc} (hD : va_D A0 (ws ++ [x])) (hS : va_S A0 H0 H locs) (hA : ∀ q, H0.size ≤ q → A0 q) : ∀ q, va_A [x] H.size q → A0 q := fun q h => by
  rcases h with ⟨k, y, h⟩ | h
  · have h1 : q = x.1 := by
      cases k with
      | zero =>
        have h2 : x = (q, y) := Option.some.inj h
        rw [h2]
      | succ k => simp at h
    rw [h1]
    exact hD.2 ws.length x (by simp)
  · exact hA q (Nat.le_trans hS.1 h)
theorem vp_q_ext {cA : ClassId} {n : Nat} {f g : Nat → Option Nat} (h : ∀ j, j < n → f j = g j) : vp_cell cA (n, .inr (.inr (.inr (.inr f)))) = vp_cell cA (n, .inr (.inr (.inr (.inr g)))) := by
  rw [vp_cell_q, vp_cell_q]
  unfold arrV
  congr 2
  funext j
  show va_rf (f j.val) = va_rf (g j.val)
  rw [h j.val j.isLt]
section KN
variable {p : Program} {l : Launch} {e : Env} {R : Room} {s : State} {m : MethodId} {args : Array Value} {below : List Frame} {meth : Method} {c : Code} {H H0 : Heap} {locs : List Loc} {cells slots : Nat} {Q : State → Prop} {cc : ByteArray} {pc : Nat} {ls : Array Slot} {rest : List Value}
variable {G : va_G} {cy : Nat → ClassId} {A : Nat → Prop} {ws : va_W}
theorem k_newI (hx : p.tables.exec = Jvm.exec) (hb : c.code = cc) (harr : (Cond.arrayClass .int).before args s = true) (hK : va_K G vwCl (cT cy) s) (hP : va_P G vwCl ws H) (hD : va_D A ws) (hS : va_S A H0 H locs) (hA : ∀ q, H0.size ≤ q → A q) {n : Int} (N : Nat) (hn : ¬ iI n < 0) (hN : (iI n).toNatClampNeg = N) (hbytes : N * 4 ≤ 536870912) (hcells : cells + 1 ≤ R.cells) (hslots : slots + N ≤ R.slots) (hd : decode cc pc = .ok (.newarray .int, 2)) (kk : ∀ (q : Nat) (H : Heap), va_P G vwCl (ws ++ [(q, eI0 cy N)]) H → va_D A (ws ++ [(q, eI0 cy N)]) → va_S A H0 H locs → W p l e R s m args below meth c H locs (cells + 1) (slots + N) Q (F0 m (pc + 2) ls (.ref q :: rest))) : W p l e R s m args below meth c H locs cells slots Q (F0 m pc ls (.int (iI n) :: rest)) :=
  va_newa (atype := .int) (ty := .int) (a0 := (N, .inl (fun _ => iI 0))) hx hb harr rfl hK hP hD hS hA (fun _ => rfl) hn hN hbytes hcells hslots hd (fun q cA H1 hK1 hP1 hD1 hS1 => by
    have e1 : cA = cy 0 := Option.some.inj ((hK1.2 4 (cA, .int) rfl).2.symm.trans (hK.2 0 (cy 0, .int) rfl).2)
    subst e1
    exact kk q H1 hP1 hD1 hS1)
theorem k_newL (hx : p.tables.exec = Jvm.exec) (hb : c.code = cc) (harr : (Cond.arrayClass .long).before args s = true) (hK : va_K G vwCl (cT cy) s) (hP : va_P G vwCl ws H) (hD : va_D A ws) (hS : va_S A H0 H locs) (hA : ∀ q, H0.size ≤ q → A q) {n : Int} (N : Nat) (hn : ¬ iI n < 0) (hN : (iI n).toNatClampNeg = N) (hbytes : N * 8 ≤ 536870912) (hcells : cells + 1 ≤ R.cells) (hslots : slots + N ≤ R.slots) (hd : decode cc pc = .ok (.newarray .long, 2)) (kk : ∀ (q : Nat) (H : Heap), va_P G vwCl (ws ++ [(q, eR0 cy N)]) H → va_D A (ws ++ [(q, eR0 cy N)]) → va_S A H0 H locs → W p l e R s m args below meth c H locs (cells + 1) (slots + N) Q (F0 m (pc + 2) ls (.ref q :: rest))) : W p l e R s m args below meth c H locs cells slots Q (F0 m pc ls (.int (iI n) :: rest)) :=
  va_newa (atype := .long) (ty := .long) (a0 := (N, .inr (.inl (fun _ => iL 0)))) hx hb harr rfl hK hP hD hS hA (fun _ => rfl) hn hN hbytes hcells hslots hd (fun q cA H1 hK1 hP1 hD1 hS1 => by
    have e1 : cA = cy 1 := Option.some.inj ((hK1.2 4 (cA, .long) rfl).2.symm.trans (hK.2 1 (cy 1, .long) rfl).2)
    subst e1
    exact kk q H1 hP1 hD1 hS1)
theorem k_newQ {own C : String} {index t : Nat} (hx : p.tables.exec = Jvm.exec) (hb : c.code = cc) (hown : s.vm.findClass own = some m.cls) (hcl : (Cond.classLink own index C).before args s = true) (hover : va_AO C s) (hK : va_K G vwCl (cT cy) s) (ht : (cT cy)[t]? = some (cy t, .object C)) (hP : va_P G vwCl ws H) (hD : va_D A ws) (hS : va_S A H0 H locs) (hA : ∀ q, H0.size ≤ q → A q) {n : Int} (N : Nat) (hn : ¬ iI n < 0) (hN : (iI n).toNatClampNeg = N) (hbytes : N * 4 ≤ 536870912) (hcells : cells + 1 ≤ R.cells) (hslots : slots + N ≤ R.slots) (hd : decode cc pc = .ok (.anewarray index, 3)) (kk : ∀ (q : Nat) (H : Heap), va_P G vwCl (ws ++ [(q, eQ (cy t) N (fun _ => none))]) H → va_D A (ws ++ [(q, eQ (cy t) N (fun _ => none))]) → va_S A H0 H locs → W p l e R s m args below meth c H locs (cells + 1) (slots + N) Q (F0 m (pc + 3) ls (.ref q :: rest))) : W p l e R s m args below meth c H locs cells slots Q (F0 m pc ls (.int (iI n) :: rest)) :=
  va_newq hx hb hown hcl hover hK hP hD hS hA hn hN hbytes hcells hslots hd (fun q cA H1 hK1 hP1 hD1 hS1 => by
    have e1 : cA = cy t := by
      obtain ⟨_, _, -, -, -, g1⟩ := (hK1.2 4 (cA, .object C) rfl).2
      obtain ⟨_, _, -, -, -, g2⟩ := (hK.2 t (cy t, .object C) ht).2
      exact Option.some.inj (g1.symm.trans g2)
    subst e1
    exact kk q H1 hP1 hD1 hS1)
end KN
abbrev iPc (G : va_G) (cy : Nat → ClassId) (h0 : Nat) (x : va_E) (sz : Nat) := va_Pc [.ref h0] (fun U => U.heap.size = sz ∧ va_P G vwCl [(h0, x)] U.heap ∧ va_K G vwCl (cT cy) U)
theorem iPc_blind {G : va_G} {cy : Nat → ClassId} {h0 : Nat} {x : va_E} {sz : Nat} : FrameBlind (iPc G cy h0 x sz) := fun a U g mk q => ⟨q.1, q.2.1, q.2.2.1, va_K.moved (u := U) (U := U.calling g mk a) (Vm.Alike.refl U.vm) q.2.2.2⟩
abbrev nW : Cond := .methodLinkNest RX2 32 yX1_init RX2
abbrev jPc (G : va_G) (cy : Nat → ClassId) (h0 : Nat) (sz : Nat) := va_Pc [.ref h0] (fun U => U.heap.size = sz ∧ va_P G vwCl [(h0, dH)] U.heap ∧ va_K G vwCl (cT cy) U ∧ va_AO RX0 U ∧ va_AO RX1 U ∧ va_Nw nW U)
theorem jPc_blind {G : va_G} {cy : Nat → ClassId} {h0 : Nat} {sz : Nat} : FrameBlind (jPc G cy h0 sz) := fun a U g mk q => ⟨q.1, q.2.1, q.2.2.1, va_K.moved (u := U) (U := U.calling g mk a) (Vm.Alike.refl U.vm) q.2.2.2.1, va_AO.moved (u := U) (U := U.calling g mk a) (Vm.Alike.refl U.vm) q.2.2.2.2.1, va_AO.moved (u := U) (U := U.calling g mk a) (Vm.Alike.refl U.vm) q.2.2.2.2.2.1, va_Nw.same (u := U) (U := U.calling g mk a) rfl rfl q.2.2.2.2.2.2⟩
set_option maxHeartbeats 4000000 in
set_option maxRecDepth 100000 in
theorem c_X0_init (l : Launch) (G : va_G) (cy : Nat → ClassId) (h0 sz : Nat) : Met l yX0_init wsX0_init ({ frames := 1, cells := 1, slots := 4, locals := 12 } : Room) (iPc G cy h0 dC sz) (va_Qv (fun _ : Nat => True) (fun q t => va_P G vwCl [(h0, eC0 q), (q, eN0 cy)] t.heap ∧ va_K G vwCl (cT cy) t ∧ va_D (va_A [(h0, dC)] sz) [(h0, eC0 q), (q, eN0 cy)]) (va_A [(h0, dC)] sz)) 1 4 (va_A [(h0, dC)] sz) := by
  refine Met.ofW (cc := cX0_init) (maxL := 2) (ret := none) (by decide) rfl ?_
  intro p e s m args below meth c s₁ B hml hv
  obtain ⟨rfl, hsz, hP, hK⟩ := hv
  have hx := B.exec
  have hb := B.bytes
  have hr := B.returns
  have hts := atoms_spec (ws := wsX0_init) B.pre
  have hown : s.vm.findClass RX0 = some m.cls := findClass_of_methodNamed B.named
  have hlocks := B.notSynchronized
  have hin : meth.name = "<init>" := (name_of_methodNamed B.named B.method).1
  subst hsz
  generalize hAe : va_A [(h0, dC)] s.heap.size = A
  have hA : ∀ q : Nat, s.heap.size ≤ q → A q := fun q h => by rw [← hAe]; exact Or.inr h
  have hD : va_D A [(h0, dC)] := d1 (by rw [← hAe]; exact Or.inl ⟨0, _, rfl⟩)
  have hS : va_S A s.heap s.heap [] := va_S.rf
  have hl := lv_entry ([.ref h0]) (n := 2) (Nat.le_of_ble_eq_true rfl)
  rw [lg_entry_eq]
  generalize (lg_sl ([.ref h0]) ++ List.replicate (2 - (lg_sl ([.ref h0])).length) Slot.unset).toArray = ls at hl ⊢
  have hl : lv_has ls 2 [(0, .ref h0)] := hl
  refine lv_aload_n hx hb dX0_init_0 rfl (lv_at hl 0 rfl) ?_
  refine W.objInit hx hb hown (hts (.methodLink RX0 3 objectInit) (by decide +kernel)) (hts (.instanceMethod objectInit) (by decide +kernel)) (hts _ (List.mem_cons_of_mem _ (List.mem_append_left _ (List.mem_of_getElem? (i := 2) rfl)))) rfl (by rw [hml]; exact hl.1) rfl dX0_init_1 (Nat.le_of_ble_eq_true rfl) (Nat.le_of_ble_eq_true rfl) ?_
  refine W.eq (g2 := F0 m 4 ls []) rfl ?_
  refine lv_aload_n hx hb dX0_init_4 rfl (lv_at hl 0 rfl) ?_
  refine k_iconst hx hb dX0_init_5 ?_
  refine k_newI hx hb (hts (.arrayClass .int) (by decide +kernel)) hK hP hD hS hA 4 (by decide) rfl (by decide) (Nat.le_of_ble_eq_true rfl) (Nat.le_of_ble_eq_true rfl) dX0_init_6 (fun qn H hP hD hS => ?_)
  have hP : va_P G vwCl [(h0, .inr (0, [.null, .int 0, .int 0])), (qn, eI0 cy 4)] H := hP
  have hD : va_D A [(h0, .inr (0, [.null, .int 0, .int 0])), (qn, eI0 cy 4)] := hD
  refine va_putF (D := G) (ci := 0) (v := .ref qn) (ty := (.array .int)) (C := RX0) (T := TX0) (N := 3) hx hb hts (by decide +kernel) tyX0 tyX0_ok nmX0 hown hK hP hD hS 0 rfl rfl 0 (by decide) (hts (.fieldLink RX0 9 "HarvestLender$Crop" "needs" "[I") (by decide +kernel)) (fun _ h9 => h9) rfl hin rfl (by decide +kernel) rfl rfl (Nat.le_of_ble_eq_true rfl) dX0_init_8 (fun H locs hP hD hS => ?_)
  have hP : va_P G vwCl [(h0, .inr (0, [.ref qn, .int 0, .int 0])), (qn, eI0 cy 4)] H := hP
  have hD : va_D A [(h0, .inr (0, [.ref qn, .int 0, .int 0])), (qn, eI0 cy 4)] := hD
  refine lv_aload_n hx hb dX0_init_11 rfl (lv_at hl 0 rfl) ?_
  refine k_bipush (n := 100) hx hb dX0_init_12 (by decide) ?_
  refine va_put (D := G) (ci := 0) (v := .int (iI 100)) (ty := .int) (C := RX0) (T := TX0) (N := 3) hx hb hts (by decide +kernel) tyX0 tyX0_ok nmX0 hown hK hP hD hS 0 rfl rfl 1 (by decide) (hts (.fieldLink RX0 15 "HarvestLender$Crop" "price" "I") (by decide +kernel)) (fun _ h9 => h9) rfl (by decide +kernel) rfl rfl (Nat.le_of_ble_eq_true rfl) dX0_init_14 (fun H locs hP hD hS => ?_)
  have hP : va_P G vwCl [(h0, .inr (0, [.ref qn, .int (iI 100), .int 0])), (qn, eI0 cy 4)] H := hP
  have hD : va_D A [(h0, .inr (0, [.ref qn, .int (iI 100), .int 0])), (qn, eI0 cy 4)] := hD
  refine lv_aload_n hx hb dX0_init_17 rfl (lv_at hl 0 rfl) ?_
  refine k_bipush (n := 50) hx hb dX0_init_18 (by decide) ?_
  refine va_put (D := G) (ci := 0) (v := .int (iI 50)) (ty := .int) (C := RX0) (T := TX0) (N := 3) hx hb hts (by decide +kernel) tyX0 tyX0_ok nmX0 hown hK hP hD hS 0 rfl rfl 2 (by decide) (hts (.fieldLink RX0 19 "HarvestLender$Crop" "normal" "I") (by decide +kernel)) (fun _ h9 => h9) rfl (by decide +kernel) rfl rfl (Nat.le_of_ble_eq_true rfl) dX0_init_20 (fun H locs hP hD hS => ?_)
  have hP : va_P G vwCl [(h0, .inr (0, [.ref qn, .int (iI 100), .int (iI 50)])), (qn, eNk cy 0)] H := hP
  have hD : va_D A [(h0, .inr (0, [.ref qn, .int (iI 100), .int (iI 50)])), (qn, eNk cy 0)] := hD
  refine k_iconst hx hb dX0_init_23 ?_
  refine lv_istore_n (lv' := [(1, .int (iI 0)), (0, .ref h0)]) hx hb dX0_init_24 rfl hl (by decide) rfl (fun ls hl => ?_)
  refine lv_iload_n hx hb dX0_init_25 rfl (lv_at hl 0 rfl) ?_
  refine k_iconst hx hb dX0_init_26 ?_
  refine k_icmp_ge (tgt := 45) hx hb dX0_init_27 (by decide) (by decide) (by decide) (fun c9 => absurd c9 (by decide)) (fun _ => ?_)
  refine lv_aload_n hx hb dX0_init_30 rfl (lv_at hl 1 rfl) ?_
  refine va_get (D := G) (ci := 0) (v := .ref qn) (C := RX0) (T := TX0) (N := 3) hx hb hts (by decide +kernel) hown hK hP 0 rfl rfl 0 (by decide) (hts (.fieldLink RX0 9 "HarvestLender$Crop" "needs" "[I") (by decide +kernel)) (fun _ h9 => h9) rfl dX0_init_31 ?_
  refine lv_iload_n hx hb dX0_init_34 rfl (lv_at hl 0 rfl) ?_
  refine k_sipush (n := 1000) hx hb dX0_init_35 (by decide) ?_
  refine va_iast hx hb hK hP hD hS 1 0 rfl rfl (iI_in (n := 4) (by decide) (by decide) (by decide)) dX0_init_38 (fun H locs hP hD hS => ?_)
  have eK : upd (fun q => iI (if q < 0 then 1000 else 0)) (iI 0).toNatClampNeg (iI 1000) = fun q => iI (if q < 1 then 1000 else 0) := upd_N cy 0
  rw [eK] at hP hD
  have hP : va_P G vwCl [(h0, .inr (0, [.ref qn, .int (iI 100), .int (iI 50)])), (qn, eNk cy 1)] H := hP
  have hD : va_D A [(h0, .inr (0, [.ref qn, .int (iI 100), .int (iI 50)])), (qn, eNk cy 1)] := hD
  refine lv_iinc (v := iI 1) (lv' := [(1, .int (iI 1)), (0, .ref h0)]) hx hb dX0_init_39 hl (k := 0) rfl rfl (by decide) rfl (fun ls hl => ?_)
  refine lv_goto (tgt := 25) hx hb dX0_init_42 (by decide) ?_
  refine lv_iload_n hx hb dX0_init_25 rfl (lv_at hl 0 rfl) ?_
  refine k_iconst hx hb dX0_init_26 ?_
  refine k_icmp_ge (tgt := 45) hx hb dX0_init_27 (by decide) (by decide) (by decide) (fun c9 => absurd c9 (by decide)) (fun _ => ?_)
  refine lv_aload_n hx hb dX0_init_30 rfl (lv_at hl 1 rfl) ?_
  refine va_get (D := G) (ci := 0) (v := .ref qn) (C := RX0) (T := TX0) (N := 3) hx hb hts (by decide +kernel) hown hK hP 0 rfl rfl 0 (by decide) (hts (.fieldLink RX0 9 "HarvestLender$Crop" "needs" "[I") (by decide +kernel)) (fun _ h9 => h9) rfl dX0_init_31 ?_
  refine lv_iload_n hx hb dX0_init_34 rfl (lv_at hl 0 rfl) ?_
  refine k_sipush (n := 1000) hx hb dX0_init_35 (by decide) ?_
  refine va_iast hx hb hK hP hD hS 1 0 rfl rfl (iI_in (n := 4) (by decide) (by decide) (by decide)) dX0_init_38 (fun H locs hP hD hS => ?_)
  have eK : upd (fun q => iI (if q < 1 then 1000 else 0)) (iI 1).toNatClampNeg (iI 1000) = fun q => iI (if q < 2 then 1000 else 0) := upd_N cy 1
  rw [eK] at hP hD
  have hP : va_P G vwCl [(h0, .inr (0, [.ref qn, .int (iI 100), .int (iI 50)])), (qn, eNk cy 2)] H := hP
  have hD : va_D A [(h0, .inr (0, [.ref qn, .int (iI 100), .int (iI 50)])), (qn, eNk cy 2)] := hD
  refine lv_iinc (v := iI 2) (lv' := [(1, .int (iI 2)), (0, .ref h0)]) hx hb dX0_init_39 hl (k := 0) rfl rfl (by decide) rfl (fun ls hl => ?_)
  refine lv_goto (tgt := 25) hx hb dX0_init_42 (by decide) ?_
  refine lv_iload_n hx hb dX0_init_25 rfl (lv_at hl 0 rfl) ?_
  refine k_iconst hx hb dX0_init_26 ?_
  refine k_icmp_ge (tgt := 45) hx hb dX0_init_27 (by decide) (by decide) (by decide) (fun c9 => absurd c9 (by decide)) (fun _ => ?_)
  refine lv_aload_n hx hb dX0_init_30 rfl (lv_at hl 1 rfl) ?_
  refine va_get (D := G) (ci := 0) (v := .ref qn) (C := RX0) (T := TX0) (N := 3) hx hb hts (by decide +kernel) hown hK hP 0 rfl rfl 0 (by decide) (hts (.fieldLink RX0 9 "HarvestLender$Crop" "needs" "[I") (by decide +kernel)) (fun _ h9 => h9) rfl dX0_init_31 ?_
  refine lv_iload_n hx hb dX0_init_34 rfl (lv_at hl 0 rfl) ?_
  refine k_sipush (n := 1000) hx hb dX0_init_35 (by decide) ?_
  refine va_iast hx hb hK hP hD hS 1 0 rfl rfl (iI_in (n := 4) (by decide) (by decide) (by decide)) dX0_init_38 (fun H locs hP hD hS => ?_)
  have eK : upd (fun q => iI (if q < 2 then 1000 else 0)) (iI 2).toNatClampNeg (iI 1000) = fun q => iI (if q < 3 then 1000 else 0) := upd_N cy 2
  rw [eK] at hP hD
  have hP : va_P G vwCl [(h0, .inr (0, [.ref qn, .int (iI 100), .int (iI 50)])), (qn, eNk cy 3)] H := hP
  have hD : va_D A [(h0, .inr (0, [.ref qn, .int (iI 100), .int (iI 50)])), (qn, eNk cy 3)] := hD
  refine lv_iinc (v := iI 3) (lv' := [(1, .int (iI 3)), (0, .ref h0)]) hx hb dX0_init_39 hl (k := 0) rfl rfl (by decide) rfl (fun ls hl => ?_)
  refine lv_goto (tgt := 25) hx hb dX0_init_42 (by decide) ?_
  refine lv_iload_n hx hb dX0_init_25 rfl (lv_at hl 0 rfl) ?_
  refine k_iconst hx hb dX0_init_26 ?_
  refine k_icmp_ge (tgt := 45) hx hb dX0_init_27 (by decide) (by decide) (by decide) (fun c9 => absurd c9 (by decide)) (fun _ => ?_)
  refine lv_aload_n hx hb dX0_init_30 rfl (lv_at hl 1 rfl) ?_
  refine va_get (D := G) (ci := 0) (v := .ref qn) (C := RX0) (T := TX0) (N := 3) hx hb hts (by decide +kernel) hown hK hP 0 rfl rfl 0 (by decide) (hts (.fieldLink RX0 9 "HarvestLender$Crop" "needs" "[I") (by decide +kernel)) (fun _ h9 => h9) rfl dX0_init_31 ?_
  refine lv_iload_n hx hb dX0_init_34 rfl (lv_at hl 0 rfl) ?_
  refine k_sipush (n := 1000) hx hb dX0_init_35 (by decide) ?_
  refine va_iast hx hb hK hP hD hS 1 0 rfl rfl (iI_in (n := 4) (by decide) (by decide) (by decide)) dX0_init_38 (fun H locs hP hD hS => ?_)
  have eK : upd (fun q => iI (if q < 3 then 1000 else 0)) (iI 3).toNatClampNeg (iI 1000) = fun q => iI (if q < 4 then 1000 else 0) := upd_N cy 3
  rw [eK] at hP hD
  have hP : va_P G vwCl [(h0, .inr (0, [.ref qn, .int (iI 100), .int (iI 50)])), (qn, eNk cy 4)] H := hP
  have hD : va_D A [(h0, .inr (0, [.ref qn, .int (iI 100), .int (iI 50)])), (qn, eNk cy 4)] := hD
  refine lv_iinc (v := iI 4) (lv' := [(1, .int (iI 4)), (0, .ref h0)]) hx hb dX0_init_39 hl (k := 0) rfl rfl (by decide) rfl (fun ls hl => ?_)
  refine lv_goto (tgt := 25) hx hb dX0_init_42 (by decide) ?_
  refine lv_iload_n hx hb dX0_init_25 rfl (lv_at hl 0 rfl) ?_
  refine k_iconst hx hb dX0_init_26 ?_
  refine k_icmp_ge (tgt := 45) hx hb dX0_init_27 (by decide) (by decide) (by decide) (fun _ => ?_) (fun c9 => absurd c9 (by decide))
  subst hAe
  exact W.vret hx hb hr (fun t ht hW => ⟨⟨qn, rfl, trivial, by rw [ht]; exact hP, va_K.moved hW.alike hK, hD⟩, hS.F ht⟩) hS.2.2 dX0_init_45
set_option maxHeartbeats 4000000 in
set_option maxRecDepth 100000 in
theorem c_X1_init (l : Launch) (G : va_G) (cy : Nat → ClassId) (h0 sz : Nat) : Met l yX1_init wsX1_init ({ frames := 1, cells := 2, slots := 8, locals := 12 } : Room) (iPc G cy h0 dF sz) (va_Qv (fun _ : Nat × Nat => True) (fun q t => va_P G vwCl [(h0, eF0 q.1 q.2), (q.1, eR0 cy 5), (q.2, eR0 cy 3)] t.heap ∧ va_K G vwCl (cT cy) t ∧ va_D (va_A [(h0, dF)] sz) [(h0, eF0 q.1 q.2), (q.1, eR0 cy 5), (q.2, eR0 cy 3)]) (va_A [(h0, dF)] sz)) 2 8 (va_A [(h0, dF)] sz) := by
  refine Met.ofW (cc := cX1_init) (maxL := 1) (ret := none) (by decide) rfl ?_
  intro p e s m args below meth c s₁ B hml hv
  obtain ⟨rfl, hsz, hP, hK⟩ := hv
  have hx := B.exec
  have hb := B.bytes
  have hr := B.returns
  have hts := atoms_spec (ws := wsX1_init) B.pre
  have hown : s.vm.findClass RX1 = some m.cls := findClass_of_methodNamed B.named
  have hlocks := B.notSynchronized
  have hin : meth.name = "<init>" := (name_of_methodNamed B.named B.method).1
  subst hsz
  generalize hAe : va_A [(h0, dF)] s.heap.size = A
  have hA : ∀ q : Nat, s.heap.size ≤ q → A q := fun q h => by rw [← hAe]; exact Or.inr h
  have hD : va_D A [(h0, dF)] := d1 (by rw [← hAe]; exact Or.inl ⟨0, _, rfl⟩)
  have hS : va_S A s.heap s.heap [] := va_S.rf
  have hl := lv_entry ([.ref h0]) (n := 1) (Nat.le_of_ble_eq_true rfl)
  rw [lg_entry_eq]
  generalize (lg_sl ([.ref h0]) ++ List.replicate (1 - (lg_sl ([.ref h0])).length) Slot.unset).toArray = ls at hl ⊢
  have hl : lv_has ls 1 [(0, .ref h0)] := hl
  refine lv_aload_n hx hb dX1_init_0 rfl (lv_at hl 0 rfl) ?_
  refine W.objInit hx hb hown (hts (.methodLink RX1 3 objectInit) (by decide +kernel)) (hts (.instanceMethod objectInit) (by decide +kernel)) (hts _ (List.mem_cons_of_mem _ (List.mem_append_left _ (List.mem_of_getElem? (i := 2) rfl)))) rfl (by rw [hml]; exact hl.1) rfl dX1_init_1 (Nat.le_of_ble_eq_true rfl) (Nat.le_of_ble_eq_true rfl) ?_
  refine W.eq (g2 := F0 m 4 ls []) rfl ?_
  refine lv_aload_n hx hb dX1_init_4 rfl (lv_at hl 0 rfl) ?_
  refine k_iconst hx hb dX1_init_5 ?_
  refine va_put (D := G) (ci := 1) (v := .int (iI 0)) (ty := .int) (C := RX1) (T := TX1) (N := 17) hx hb hts (by decide +kernel) tyX1 tyX1_ok nmX1 hown hK hP hD hS 0 rfl rfl 0 (by decide) (hts (.fieldLink RX1 9 "HarvestLender$Farmer" "group" "I") (by decide +kernel)) (fun _ h9 => h9) rfl (by decide +kernel) rfl rfl (Nat.le_of_ble_eq_true rfl) dX1_init_6 (fun H locs hP hD hS => ?_)
  have hP : va_P G vwCl [(h0, .inr (1, [.int (iI 0), .long 0, .long 0, .long 0, .long 0, .long 0, .null, .null, .int 0, .int 0, .int 0, .int 0, .int 0, .int 0, .int 0, .int 0, .int 0]))] H := hP
  have hD : va_D A [(h0, .inr (1, [.int (iI 0), .long 0, .long 0, .long 0, .long 0, .long 0, .null, .null, .int 0, .int 0, .int 0, .int 0, .int 0, .int 0, .int 0, .int 0, .int 0]))] := hD
  refine lv_aload_n hx hb dX1_init_9 rfl (lv_at hl 0 rfl) ?_
  refine k_lconst (v := 0) hx hb dX1_init_10 rfl ?_
  refine va_put (D := G) (ci := 1) (v := .long (iL 0)) (ty := .long) (C := RX1) (T := TX1) (N := 17) hx hb hts (by decide +kernel) tyX1 tyX1_ok nmX1 hown hK hP hD hS 0 rfl rfl 1 (by decide) (hts (.fieldLink RX1 15 "HarvestLender$Farmer" "purse" "J") (by decide +kernel)) (fun _ h9 => h9) rfl (by decide +kernel) rfl rfl (Nat.le_of_ble_eq_true rfl) dX1_init_11 (fun H locs hP hD hS => ?_)
  have hP : va_P G vwCl [(h0, .inr (1, [.int (iI 0), .long (iL 0), .long 0, .long 0, .long 0, .long 0, .null, .null, .int 0, .int 0, .int 0, .int 0, .int 0, .int 0, .int 0, .int 0, .int 0]))] H := hP
  have hD : va_D A [(h0, .inr (1, [.int (iI 0), .long (iL 0), .long 0, .long 0, .long 0, .long 0, .null, .null, .int 0, .int 0, .int 0, .int 0, .int 0, .int 0, .int 0, .int 0, .int 0]))] := hD
  refine lv_aload_n hx hb dX1_init_14 rfl (lv_at hl 0 rfl) ?_
  refine k_lconst (v := 0) hx hb dX1_init_15 rfl ?_
  refine va_put (D := G) (ci := 1) (v := .long (iL 0)) (ty := .long) (C := RX1) (T := TX1) (N := 17) hx hb hts (by decide +kernel) tyX1 tyX1_ok nmX1 hown hK hP hD hS 0 rfl rfl 2 (by decide) (hts (.fieldLink RX1 19 "HarvestLender$Farmer" "debt" "J") (by decide +kernel)) (fun _ h9 => h9) rfl (by decide +kernel) rfl rfl (Nat.le_of_ble_eq_true rfl) dX1_init_16 (fun H locs hP hD hS => ?_)
  have hP : va_P G vwCl [(h0, .inr (1, [.int (iI 0), .long (iL 0), .long (iL 0), .long 0, .long 0, .long 0, .null, .null, .int 0, .int 0, .int 0, .int 0, .int 0, .int 0, .int 0, .int 0, .int 0]))] H := hP
  have hD : va_D A [(h0, .inr (1, [.int (iI 0), .long (iL 0), .long (iL 0), .long 0, .long 0, .long 0, .null, .null, .int 0, .int 0, .int 0, .int 0, .int 0, .int 0, .int 0, .int 0, .int 0]))] := hD
  refine lv_aload_n hx hb dX1_init_19 rfl (lv_at hl 0 rfl) ?_
  refine k_lconst (v := 0) hx hb dX1_init_20 rfl ?_
  refine va_put (D := G) (ci := 1) (v := .long (iL 0)) (ty := .long) (C := RX1) (T := TX1) (N := 17) hx hb hts (by decide +kernel) tyX1 tyX1_ok nmX1 hown hK hP hD hS 0 rfl rfl 3 (by decide) (hts (.fieldLink RX1 22 "HarvestLender$Farmer" "pledgeDebt" "J") (by decide +kernel)) (fun _ h9 => h9) rfl (by decide +kernel) rfl rfl (Nat.le_of_ble_eq_true rfl) dX1_init_21 (fun H locs hP hD hS => ?_)
  have hP : va_P G vwCl [(h0, .inr (1, [.int (iI 0), .long (iL 0), .long (iL 0), .long (iL 0), .long 0, .long 0, .null, .null, .int 0, .int 0, .int 0, .int 0, .int 0, .int 0, .int 0, .int 0, .int 0]))] H := hP
  have hD : va_D A [(h0, .inr (1, [.int (iI 0), .long (iL 0), .long (iL 0), .long (iL 0), .long 0, .long 0, .null, .null, .int 0, .int 0, .int 0, .int 0, .int 0, .int 0, .int 0, .int 0, .int 0]))] := hD
  refine lv_aload_n hx hb dX1_init_24 rfl (lv_at hl 0 rfl) ?_
  refine k_lconst (v := 0) hx hb dX1_init_25 rfl ?_
  refine va_put (D := G) (ci := 1) (v := .long (iL 0)) (ty := .long) (C := RX1) (T := TX1) (N := 17) hx hb hts (by decide +kernel) tyX1 tyX1_ok nmX1 hown hK hP hD hS 0 rfl rfl 4 (by decide) (hts (.fieldLink RX1 25 "HarvestLender$Farmer" "charged" "J") (by decide +kernel)) (fun _ h9 => h9) rfl (by decide +kernel) rfl rfl (Nat.le_of_ble_eq_true rfl) dX1_init_26 (fun H locs hP hD hS => ?_)
  have hP : va_P G vwCl [(h0, .inr (1, [.int (iI 0), .long (iL 0), .long (iL 0), .long (iL 0), .long (iL 0), .long 0, .null, .null, .int 0, .int 0, .int 0, .int 0, .int 0, .int 0, .int 0, .int 0, .int 0]))] H := hP
  have hD : va_D A [(h0, .inr (1, [.int (iI 0), .long (iL 0), .long (iL 0), .long (iL 0), .long (iL 0), .long 0, .null, .null, .int 0, .int 0, .int 0, .int 0, .int 0, .int 0, .int 0, .int 0, .int 0]))] := hD
  refine lv_aload_n hx hb dX1_init_29 rfl (lv_at hl 0 rfl) ?_
  refine k_lconst (v := 0) hx hb dX1_init_30 rfl ?_
  refine va_put (D := G) (ci := 1) (v := .long (iL 0)) (ty := .long) (C := RX1) (T := TX1) (N := 17) hx hb hts (by decide +kernel) tyX1 tyX1_ok nmX1 hown hK hP hD hS 0 rfl rfl 5 (by decide) (hts (.fieldLink RX1 28 "HarvestLender$Farmer" "called" "J") (by decide +kernel)) (fun _ h9 => h9) rfl (by decide +kernel) rfl rfl (Nat.le_of_ble_eq_true rfl) dX1_init_31 (fun H locs hP hD hS => ?_)
  have hP : va_P G vwCl [(h0, .inr (1, [.int (iI 0), .long (iL 0), .long (iL 0), .long (iL 0), .long (iL 0), .long (iL 0), .null, .null, .int 0, .int 0, .int 0, .int 0, .int 0, .int 0, .int 0, .int 0, .int 0]))] H := hP
  have hD : va_D A [(h0, .inr (1, [.int (iI 0), .long (iL 0), .long (iL 0), .long (iL 0), .long (iL 0), .long (iL 0), .null, .null, .int 0, .int 0, .int 0, .int 0, .int 0, .int 0, .int 0, .int 0, .int 0]))] := hD
  refine lv_aload_n hx hb dX1_init_34 rfl (lv_at hl 0 rfl) ?_
  refine k_iconst hx hb dX1_init_35 ?_
  refine W.widen (k := 0) (n := 0) (Nat.le_of_ble_eq_true rfl) (Nat.le_of_ble_eq_true rfl) ?_
  refine k_newL hx hb (hts (.arrayClass .long) (by decide +kernel)) hK hP hD hS hA 5 (by decide) rfl (by decide) (Nat.le_of_ble_eq_true rfl) (Nat.le_of_ble_eq_true rfl) dX1_init_36 (fun qr H hP hD hS => ?_)
  have hP : va_P G vwCl [(h0, .inr (1, [.int (iI 0), .long (iL 0), .long (iL 0), .long (iL 0), .long (iL 0), .long (iL 0), .null, .null, .int 0, .int 0, .int 0, .int 0, .int 0, .int 0, .int 0, .int 0, .int 0])), (qr, eR0 cy 5)] H := hP
  have hD : va_D A [(h0, .inr (1, [.int (iI 0), .long (iL 0), .long (iL 0), .long (iL 0), .long (iL 0), .long (iL 0), .null, .null, .int 0, .int 0, .int 0, .int 0, .int 0, .int 0, .int 0, .int 0, .int 0])), (qr, eR0 cy 5)] := hD
  refine va_putF (D := G) (ci := 1) (v := .ref qr) (ty := (.array .long)) (C := RX1) (T := TX1) (N := 17) hx hb hts (by decide +kernel) tyX1 tyX1_ok nmX1 hown hK hP hD hS 0 rfl rfl 6 (by decide) (hts (.fieldLink RX1 31 "HarvestLender$Farmer" "repaid" "[J") (by decide +kernel)) (fun _ h9 => h9) rfl hin rfl (by decide +kernel) rfl rfl (Nat.le_of_ble_eq_true rfl) dX1_init_38 (fun H locs hP hD hS => ?_)
  have hP : va_P G vwCl [(h0, .inr (1, [.int (iI 0), .long (iL 0), .long (iL 0), .long (iL 0), .long (iL 0), .long (iL 0), .ref qr, .null, .int 0, .int 0, .int 0, .int 0, .int 0, .int 0, .int 0, .int 0, .int 0])), (qr, eR0 cy 5)] H := hP
  have hD : va_D A [(h0, .inr (1, [.int (iI 0), .long (iL 0), .long (iL 0), .long (iL 0), .long (iL 0), .long (iL 0), .ref qr, .null, .int 0, .int 0, .int 0, .int 0, .int 0, .int 0, .int 0, .int 0, .int 0])), (qr, eR0 cy 5)] := hD
  refine lv_aload_n hx hb dX1_init_41 rfl (lv_at hl 0 rfl) ?_
  refine k_iconst hx hb dX1_init_42 ?_
  refine W.widen (k := 1) (n := 5) (Nat.le_of_ble_eq_true rfl) (Nat.le_of_ble_eq_true rfl) ?_
  refine k_newL hx hb (hts (.arrayClass .long) (by decide +kernel)) hK hP hD hS hA 3 (by decide) rfl (by decide) (Nat.le_of_ble_eq_true rfl) (Nat.le_of_ble_eq_true rfl) dX1_init_43 (fun qi H hP hD hS => ?_)
  have hP : va_P G vwCl [(h0, .inr (1, [.int (iI 0), .long (iL 0), .long (iL 0), .long (iL 0), .long (iL 0), .long (iL 0), .ref qr, .null, .int 0, .int 0, .int 0, .int 0, .int 0, .int 0, .int 0, .int 0, .int 0])), (qr, eR0 cy 5), (qi, eR0 cy 3)] H := hP
  have hD : va_D A [(h0, .inr (1, [.int (iI 0), .long (iL 0), .long (iL 0), .long (iL 0), .long (iL 0), .long (iL 0), .ref qr, .null, .int 0, .int 0, .int 0, .int 0, .int 0, .int 0, .int 0, .int 0, .int 0])), (qr, eR0 cy 5), (qi, eR0 cy 3)] := hD
  refine va_putF (D := G) (ci := 1) (v := .ref qi) (ty := (.array .long)) (C := RX1) (T := TX1) (N := 17) hx hb hts (by decide +kernel) tyX1 tyX1_ok nmX1 hown hK hP hD hS 0 rfl rfl 7 (by decide) (hts (.fieldLink RX1 35 "HarvestLender$Farmer" "instalments" "[J") (by decide +kernel)) (fun _ h9 => h9) rfl hin rfl (by decide +kernel) rfl rfl (Nat.le_of_ble_eq_true rfl) dX1_init_45 (fun H locs hP hD hS => ?_)
  have hP : va_P G vwCl [(h0, .inr (1, [.int (iI 0), .long (iL 0), .long (iL 0), .long (iL 0), .long (iL 0), .long (iL 0), .ref qr, .ref qi, .int 0, .int 0, .int 0, .int 0, .int 0, .int 0, .int 0, .int 0, .int 0])), (qr, eR0 cy 5), (qi, eR0 cy 3)] H := hP
  have hD : va_D A [(h0, .inr (1, [.int (iI 0), .long (iL 0), .long (iL 0), .long (iL 0), .long (iL 0), .long (iL 0), .ref qr, .ref qi, .int 0, .int 0, .int 0, .int 0, .int 0, .int 0, .int 0, .int 0, .int 0])), (qr, eR0 cy 5), (qi, eR0 cy 3)] := hD
  refine lv_aload_n hx hb dX1_init_48 rfl (lv_at hl 0 rfl) ?_
  refine k_iconst hx hb dX1_init_49 ?_
  refine va_put (D := G) (ci := 1) (v := .int (iI 0)) (ty := .int) (C := RX1) (T := TX1) (N := 17) hx hb hts (by decide +kernel) tyX1 tyX1_ok nmX1 hown hK hP hD hS 0 rfl rfl 8 (by decide) (hts (.fieldLink RX1 38 "HarvestLender$Farmer" "instalmentsLeft" "I") (by decide +kernel)) (fun _ h9 => h9) rfl (by decide +kernel) rfl rfl (Nat.le_of_ble_eq_true rfl) dX1_init_50 (fun H locs hP hD hS => ?_)
  have hP : va_P G vwCl [(h0, .inr (1, [.int (iI 0), .long (iL 0), .long (iL 0), .long (iL 0), .long (iL 0), .long (iL 0), .ref qr, .ref qi, .int (iI 0), .int 0, .int 0, .int 0, .int 0, .int 0, .int 0, .int 0, .int 0])), (qr, eR0 cy 5), (qi, eR0 cy 3)] H := hP
  have hD : va_D A [(h0, .inr (1, [.int (iI 0), .long (iL 0), .long (iL 0), .long (iL 0), .long (iL 0), .long (iL 0), .ref qr, .ref qi, .int (iI 0), .int 0, .int 0, .int 0, .int 0, .int 0, .int 0, .int 0, .int 0])), (qr, eR0 cy 5), (qi, eR0 cy 3)] := hD
  refine lv_aload_n hx hb dX1_init_53 rfl (lv_at hl 0 rfl) ?_
  refine k_iconst hx hb dX1_init_54 ?_
  refine va_put (D := G) (ci := 1) (v := .int (iI 0)) (ty := .int) (C := RX1) (T := TX1) (N := 17) hx hb hts (by decide +kernel) tyX1 tyX1_ok nmX1 hown hK hP hD hS 0 rfl rfl 9 (by decide) (hts (.fieldLink RX1 41 "HarvestLender$Farmer" "grain" "I") (by decide +kernel)) (fun _ h9 => h9) rfl (by decide +kernel) rfl rfl (Nat.le_of_ble_eq_true rfl) dX1_init_55 (fun H locs hP hD hS => ?_)
  have hP : va_P G vwCl [(h0, .inr (1, [.int (iI 0), .long (iL 0), .long (iL 0), .long (iL 0), .long (iL 0), .long (iL 0), .ref qr, .ref qi, .int (iI 0), .int (iI 0), .int 0, .int 0, .int 0, .int 0, .int 0, .int 0, .int 0])), (qr, eR0 cy 5), (qi, eR0 cy 3)] H := hP
  have hD : va_D A [(h0, .inr (1, [.int (iI 0), .long (iL 0), .long (iL 0), .long (iL 0), .long (iL 0), .long (iL 0), .ref qr, .ref qi, .int (iI 0), .int (iI 0), .int 0, .int 0, .int 0, .int 0, .int 0, .int 0, .int 0])), (qr, eR0 cy 5), (qi, eR0 cy 3)] := hD
  refine lv_aload_n hx hb dX1_init_58 rfl (lv_at hl 0 rfl) ?_
  refine k_iconst hx hb dX1_init_59 ?_
  refine va_put (D := G) (ci := 1) (v := .int (iI 0)) (ty := .int) (C := RX1) (T := TX1) (N := 17) hx hb hts (by decide +kernel) tyX1 tyX1_ok nmX1 hown hK hP hD hS 0 rfl rfl 10 (by decide) (hts (.fieldLink RX1 44 "HarvestLender$Farmer" "pledgedGrain" "I") (by decide +kernel)) (fun _ h9 => h9) rfl (by decide +kernel) rfl rfl (Nat.le_of_ble_eq_true rfl) dX1_init_60 (fun H locs hP hD hS => ?_)
  have hP : va_P G vwCl [(h0, .inr (1, [.int (iI 0), .long (iL 0), .long (iL 0), .long (iL 0), .long (iL 0), .long (iL 0), .ref qr, .ref qi, .int (iI 0), .int (iI 0), .int (iI 0), .int 0, .int 0, .int 0, .int 0, .int 0, .int 0])), (qr, eR0 cy 5), (qi, eR0 cy 3)] H := hP
  have hD : va_D A [(h0, .inr (1, [.int (iI 0), .long (iL 0), .long (iL 0), .long (iL 0), .long (iL 0), .long (iL 0), .ref qr, .ref qi, .int (iI 0), .int (iI 0), .int (iI 0), .int 0, .int 0, .int 0, .int 0, .int 0, .int 0])), (qr, eR0 cy 5), (qi, eR0 cy 3)] := hD
  refine lv_aload_n hx hb dX1_init_63 rfl (lv_at hl 0 rfl) ?_
  refine k_iconst hx hb dX1_init_64 ?_
  refine va_put (D := G) (ci := 1) (v := .int (iI 0)) (ty := .int) (C := RX1) (T := TX1) (N := 17) hx hb hts (by decide +kernel) tyX1 tyX1_ok nmX1 hown hK hP hD hS 0 rfl rfl 11 (by decide) (hts (.fieldLink RX1 47 "HarvestLender$Farmer" "grainCrop" "I") (by decide +kernel)) (fun _ h9 => h9) rfl (by decide +kernel) rfl rfl (Nat.le_of_ble_eq_true rfl) dX1_init_65 (fun H locs hP hD hS => ?_)
  have hP : va_P G vwCl [(h0, .inr (1, [.int (iI 0), .long (iL 0), .long (iL 0), .long (iL 0), .long (iL 0), .long (iL 0), .ref qr, .ref qi, .int (iI 0), .int (iI 0), .int (iI 0), .int (iI 0), .int 0, .int 0, .int 0, .int 0, .int 0])), (qr, eR0 cy 5), (qi, eR0 cy 3)] H := hP
  have hD : va_D A [(h0, .inr (1, [.int (iI 0), .long (iL 0), .long (iL 0), .long (iL 0), .long (iL 0), .long (iL 0), .ref qr, .ref qi, .int (iI 0), .int (iI 0), .int (iI 0), .int (iI 0), .int 0, .int 0, .int 0, .int 0, .int 0])), (qr, eR0 cy 5), (qi, eR0 cy 3)] := hD
  refine lv_aload_n hx hb dX1_init_68 rfl (lv_at hl 0 rfl) ?_
  refine k_iconst hx hb dX1_init_69 ?_
  refine va_put (D := G) (ci := 1) (v := .int (iI (-1))) (ty := .int) (C := RX1) (T := TX1) (N := 17) hx hb hts (by decide +kernel) tyX1 tyX1_ok nmX1 hown hK hP hD hS 0 rfl rfl 12 (by decide) (hts (.fieldLink RX1 50 "HarvestLender$Farmer" "plantedCrop" "I") (by decide +kernel)) (fun _ h9 => h9) rfl (by decide +kernel) rfl rfl (Nat.le_of_ble_eq_true rfl) dX1_init_70 (fun H locs hP hD hS => ?_)
  have hP : va_P G vwCl [(h0, .inr (1, [.int (iI 0), .long (iL 0), .long (iL 0), .long (iL 0), .long (iL 0), .long (iL 0), .ref qr, .ref qi, .int (iI 0), .int (iI 0), .int (iI 0), .int (iI 0), .int (iI (-1)), .int 0, .int 0, .int 0, .int 0])), (qr, eR0 cy 5), (qi, eR0 cy 3)] H := hP
  have hD : va_D A [(h0, .inr (1, [.int (iI 0), .long (iL 0), .long (iL 0), .long (iL 0), .long (iL 0), .long (iL 0), .ref qr, .ref qi, .int (iI 0), .int (iI 0), .int (iI 0), .int (iI 0), .int (iI (-1)), .int 0, .int 0, .int 0, .int 0])), (qr, eR0 cy 5), (qi, eR0 cy 3)] := hD
  refine lv_aload_n hx hb dX1_init_73 rfl (lv_at hl 0 rfl) ?_
  refine k_iconst hx hb dX1_init_74 ?_
  refine va_put (D := G) (ci := 1) (v := .int (iI 0)) (ty := .int) (C := RX1) (T := TX1) (N := 17) hx hb hts (by decide +kernel) tyX1 tyX1_ok nmX1 hown hK hP hD hS 0 rfl rfl 13 (by decide) (hts (.fieldLink RX1 53 "HarvestLender$Farmer" "hectares" "I") (by decide +kernel)) (fun _ h9 => h9) rfl (by decide +kernel) rfl rfl (Nat.le_of_ble_eq_true rfl) dX1_init_75 (fun H locs hP hD hS => ?_)
  have hP : va_P G vwCl [(h0, .inr (1, [.int (iI 0), .long (iL 0), .long (iL 0), .long (iL 0), .long (iL 0), .long (iL 0), .ref qr, .ref qi, .int (iI 0), .int (iI 0), .int (iI 0), .int (iI 0), .int (iI (-1)), .int (iI 0), .int 0, .int 0, .int 0])), (qr, eR0 cy 5), (qi, eR0 cy 3)] H := hP
  have hD : va_D A [(h0, .inr (1, [.int (iI 0), .long (iL 0), .long (iL 0), .long (iL 0), .long (iL 0), .long (iL 0), .ref qr, .ref qi, .int (iI 0), .int (iI 0), .int (iI 0), .int (iI 0), .int (iI (-1)), .int (iI 0), .int 0, .int 0, .int 0])), (qr, eR0 cy 5), (qi, eR0 cy 3)] := hD
  refine lv_aload_n hx hb dX1_init_78 rfl (lv_at hl 0 rfl) ?_
  refine k_iconst hx hb dX1_init_79 ?_
  refine va_put (D := G) (ci := 1) (v := .int (iI 0)) (ty := .int) (C := RX1) (T := TX1) (N := 17) hx hb hts (by decide +kernel) tyX1 tyX1_ok nmX1 hown hK hP hD hS 0 rfl rfl 14 (by decide) (hts (.fieldLink RX1 56 "HarvestLender$Farmer" "coverPercent" "I") (by decide +kernel)) (fun _ h9 => h9) rfl (by decide +kernel) rfl rfl (Nat.le_of_ble_eq_true rfl) dX1_init_80 (fun H locs hP hD hS => ?_)
  have hP : va_P G vwCl [(h0, .inr (1, [.int (iI 0), .long (iL 0), .long (iL 0), .long (iL 0), .long (iL 0), .long (iL 0), .ref qr, .ref qi, .int (iI 0), .int (iI 0), .int (iI 0), .int (iI 0), .int (iI (-1)), .int (iI 0), .int (iI 0), .int 0, .int 0])), (qr, eR0 cy 5), (qi, eR0 cy 3)] H := hP
  have hD : va_D A [(h0, .inr (1, [.int (iI 0), .long (iL 0), .long (iL 0), .long (iL 0), .long (iL 0), .long (iL 0), .ref qr, .ref qi, .int (iI 0), .int (iI 0), .int (iI 0), .int (iI 0), .int (iI (-1)), .int (iI 0), .int (iI 0), .int 0, .int 0])), (qr, eR0 cy 5), (qi, eR0 cy 3)] := hD
  refine lv_aload_n hx hb dX1_init_83 rfl (lv_at hl 0 rfl) ?_
  refine k_bipush (n := 100) hx hb dX1_init_84 (by decide) ?_
  refine va_put (D := G) (ci := 1) (v := .int (iI 100)) (ty := .int) (C := RX1) (T := TX1) (N := 17) hx hb hts (by decide +kernel) tyX1 tyX1_ok nmX1 hown hK hP hD hS 0 rfl rfl 15 (by decide) (hts (.fieldLink RX1 59 "HarvestLender$Farmer" "yieldPercent" "I") (by decide +kernel)) (fun _ h9 => h9) rfl (by decide +kernel) rfl rfl (Nat.le_of_ble_eq_true rfl) dX1_init_86 (fun H locs hP hD hS => ?_)
  have hP : va_P G vwCl [(h0, .inr (1, [.int (iI 0), .long (iL 0), .long (iL 0), .long (iL 0), .long (iL 0), .long (iL 0), .ref qr, .ref qi, .int (iI 0), .int (iI 0), .int (iI 0), .int (iI 0), .int (iI (-1)), .int (iI 0), .int (iI 0), .int (iI 100), .int 0])), (qr, eR0 cy 5), (qi, eR0 cy 3)] H := hP
  have hD : va_D A [(h0, .inr (1, [.int (iI 0), .long (iL 0), .long (iL 0), .long (iL 0), .long (iL 0), .long (iL 0), .ref qr, .ref qi, .int (iI 0), .int (iI 0), .int (iI 0), .int (iI 0), .int (iI (-1)), .int (iI 0), .int (iI 0), .int (iI 100), .int 0])), (qr, eR0 cy 5), (qi, eR0 cy 3)] := hD
  refine lv_aload_n hx hb dX1_init_89 rfl (lv_at hl 0 rfl) ?_
  refine k_iconst hx hb dX1_init_90 ?_
  refine va_put (D := G) (ci := 1) (v := .int (iI 0)) (ty := .int) (C := RX1) (T := TX1) (N := 17) hx hb hts (by decide +kernel) tyX1 tyX1_ok nmX1 hown hK hP hD hS 0 rfl rfl 16 (by decide) (hts (.fieldLink RX1 62 "HarvestLender$Farmer" "drawn" "I") (by decide +kernel)) (fun _ h9 => h9) rfl (by decide +kernel) rfl rfl (Nat.le_of_ble_eq_true rfl) dX1_init_91 (fun H locs hP hD hS => ?_)
  have hP : va_P G vwCl [(h0, .inr (1, [.int (iI 0), .long (iL 0), .long (iL 0), .long (iL 0), .long (iL 0), .long (iL 0), .ref qr, .ref qi, .int (iI 0), .int (iI 0), .int (iI 0), .int (iI 0), .int (iI (-1)), .int (iI 0), .int (iI 0), .int (iI 100), .int (iI 0)])), (qr, eR0 cy 5), (qi, eR0 cy 3)] H := hP
  have hD : va_D A [(h0, .inr (1, [.int (iI 0), .long (iL 0), .long (iL 0), .long (iL 0), .long (iL 0), .long (iL 0), .ref qr, .ref qi, .int (iI 0), .int (iI 0), .int (iI 0), .int (iI 0), .int (iI (-1)), .int (iI 0), .int (iI 0), .int (iI 100), .int (iI 0)])), (qr, eR0 cy 5), (qi, eR0 cy 3)] := hD
  subst hAe
  exact W.vret hx hb hr (fun t ht hW => ⟨⟨(qr, qi), rfl, trivial, by rw [ht]; exact hP, va_K.moved hW.alike hK, hD⟩, hS.F ht⟩) hS.2.2 dX1_init_94
