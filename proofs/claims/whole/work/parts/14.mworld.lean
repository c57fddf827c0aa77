/-! the reference's world: cell 0 the object, the cells 1 .. 20 its arrays; the state's row j is what the cell j holds -/
def mLen (p : Nat) : Nat := if p = 1 then 12 else if p = 2 ∨ p = 3 then 3 else if p = 12 then 24 else if p = 19 then 40 else 8
abbrev mOb (ad : Nat → Nat) (M : Sg) : List Value := [.int (iI (M 0 0)), .int (iI (M 0 1)), .int (iI (M 0 2)), .ref (ad 1), .ref (ad 2), .ref (ad 3), .int (iI (M 0 6)), .ref (ad 4), .ref (ad 5), .ref (ad 6), .ref (ad 7), .ref (ad 8), .ref (ad 9), .ref (ad 10), .ref (ad 11), .ref (ad 12), .ref (ad 13), .ref (ad 14), .ref (ad 15), .ref (ad 16), .ref (ad 17), .ref (ad 18), .ref (ad 19), .ref (ad 20)]
abbrev mAr (cy : Nat → ClassId) (M : Sg) (p : Nat) : va_E := .inl (cy 0, mLen p, .inl (fun q => iI (M p q)))
def mE (ad : Nat → Nat) (cy : Nat → ClassId) (M : Sg) (p : Nat) : va_E := if p = 0 then .inr (3, mOb ad M) else mAr cy M p
def mW (ad : Nat → Nat) (cy : Nat → ClassId) (M : Sg) : va_W := (List.range 21).map (fun j => (ad j, mE ad cy M j))
def mA (ad : Nat → Nat) (sz : Nat) : Nat → Prop := fun q => (∃ j, j < 21 ∧ q = ad j) ∨ sz ≤ q
def mI (ad : Nat → Nat) : Prop := ∀ i j, i < 21 → j < 21 → ad i = ad j → i = j
theorem mW_at {ad : Nat → Nat} {cy : Nat → ClassId} {M : Sg} {j : Nat} (h : j < 21) : (mW ad cy M)[j]? = some (ad j, mE ad cy M j) := by
  simp [mW, List.getElem?_range h]
theorem mW_some {ad : Nat → Nat} {cy : Nat → ClassId} {M : Sg} {k : Nat} {q : Nat × va_E} (h : (mW ad cy M)[k]? = some q) : k < 21 ∧ q = (ad k, mE ad cy M k) := by
  by_cases hk : k < 21
  · rw [mW_at hk] at h
    exact ⟨hk, (Option.some.inj h).symm⟩
  · rw [List.getElem?_eq_none (by simp [mW]; omega)] at h
    cases h
theorem mE_0 {ad : Nat → Nat} {cy : Nat → ClassId} {M : Sg} : mE ad cy M 0 = .inr (3, mOb ad M) := rfl
theorem mE_a {ad : Nat → Nat} {cy : Nat → ClassId} {M : Sg} {p : Nat} (h : 0 < p) : mE ad cy M p = mAr cy M p := by
  have : p ≠ 0 := by omega
  simp only [mE, this, if_false]
theorem mW_0 {ad : Nat → Nat} {cy : Nat → ClassId} {M : Sg} : (mW ad cy M)[0]? = some (ad 0, .inr (3, mOb ad M)) := mW_at (by decide)
theorem mW_a {ad : Nat → Nat} {cy : Nat → ClassId} {M : Sg} {p : Nat} (h : 0 < p) (h2 : p < 21) : (mW ad cy M)[p]? = some (ad p, mAr cy M p) := by rw [mW_at h2, mE_a h]
theorem mD {ad : Nat → Nat} (hI : mI ad) {A : Nat → Prop} (hAc : ∀ j, j < 21 → A (ad j)) (cy : Nat → ClassId) (M : Sg) : va_D A (mW ad cy M) := by
  refine ⟨fun i j p q hp hq he => ?_, fun k q hk => ?_⟩
  · obtain ⟨h1, rfl⟩ := mW_some hp
    obtain ⟨h2, rfl⟩ := mW_some hq
    exact hI i j h1 h2 he
  · obtain ⟨h1, rfl⟩ := mW_some hk
    exact hAc k h1
theorem mE_up {ad : Nat → Nat} {cy : Nat → ClassId} {M : Sg} {j b : Nat} {v : Int} (k : Nat) (hne : k ≠ j) : mE ad cy (up M j b v) k = mE ad cy M k := by
  unfold mE
  split
  · rename_i h
    subst h
    simp [mOb, up_a hne]
  · simp [mAr, up_a hne]
theorem mW_set {ad : Nat → Nat} {cy : Nat → ClassId} {M : Sg} {j b : Nat} {v : Int} {x : va_E} (hj : j < 21) (hx : x = mE ad cy (up M j b v) j) : (mW ad cy M).set j (ad j, x) = mW ad cy (up M j b v) := by
  apply List.ext_getElem?
  intro k
  by_cases hk : k < 21
  · rw [mW_at hk, List.getElem?_set]
    by_cases e : j = k
    · subst e
      have hlen : j < (mW ad cy M).length := by simp [mW]; exact hk
      simp [hlen, hx]
    · simp only [e, if_false]
      rw [mW_at hk, mE_up k (fun h => e h.symm)]
  · rw [List.getElem?_eq_none (by simp [mW]; omega), List.getElem?_eq_none (by simp [mW]; omega)]
theorem mW_putO {ad : Nat → Nat} {cy : Nat → ClassId} {M : Sg} {b : Nat} {v : Int} (hb : b = 0 ∨ b = 1 ∨ b = 2 ∨ b = 6) : (mW ad cy M).set 0 (ad 0, .inr (3, (mOb ad M).set b (.int (iI v)))) = mW ad cy (up M 0 b v) := by
  refine mW_set (by omega) ?_
  rw [mE_0]
  rcases hb with rfl | rfl | rfl | rfl <;> simp [mOb, up]
theorem mW_putA {ad : Nat → Nat} {cy : Nat → ClassId} {M : Sg} {p b : Nat} {v : Int} (h : 0 < p) (h2 : p < 21) : (mW ad cy M).set p (ad p, .inl (cy 0, mLen p, .inl (upd (fun q => iI (M p q)) b (iI v)))) = mW ad cy (up M p b v) := by
  refine mW_set h2 ?_
  rw [mE_a h]
  have e : upd (fun q => iI (M p q)) b (iI v) = fun q => iI (up M p b v p q) := by
    funext q
    by_cases h : q = b <;> simp [upd, up, h]
  rw [e]
section KMW
variable {p : Program} {l : Launch} {e : Env} {R : Room} {s : State} {m : MethodId} {args : Array Value} {below : List Frame} {meth : Method} {c : Code} {H : Heap} {locs : List Loc} {cells slots : Nat} {Q : State → Prop} {cc : ByteArray} {pc : Nat} {ls : Array Slot} {rest : List Value}
variable {G : va_G} {ad : Nat → Nat} {cy : Nat → ClassId} {σ : Sg} {A : Nat → Prop} {H0 : Heap} {own : String} {index : Nat} {Ts : List Cond}
theorem k_mg (hx : p.tables.exec = Jvm.exec) (hb : c.code = cc) (hts : ∀ w ∈ Ts, w.before args s = true) (hown : s.vm.findClass own = some m.cls) (hin : ∀ w ∈ wsX30, w ∈ Ts) (hK : va_K G vwCl (cT cy) s) (hP : va_P G vwCl (mW ad cy σ) H) (b : Nat) (hbN : b < 24) (hlink : (Cond.fieldLink own index RX3 (TX3 b).2.1 (TX3 b).2.2.1).before args s = true) (hd : decode cc pc = .ok (.getfield index, 3)) (hs : (TX3 b).1 = RX3) {v : Value} (hv : (mOb ad σ)[b]? = some v) (kk : W p l e R s m args below meth c H locs cells slots Q (F0 m (pc + 3) ls (v :: rest))) : W p l e R s m args below meth c H locs cells slots Q (F0 m pc ls (.ref (ad 0) :: rest)) :=
  va_get (C := RX3) (T := TX3) (N := 24) (ci := 3) hx hb hts hin hown hK hP 0 mW_0 rfl b hbN hlink (fun x h => by rw [hs] at h; exact h) hv hd kk
theorem k_mp (hx : p.tables.exec = Jvm.exec) (hb : c.code = cc) (hts : ∀ w ∈ Ts, w.before args s = true) (hown : s.vm.findClass own = some m.cls) (hin : ∀ w ∈ wsX30, w ∈ Ts) (hI : mI ad) (hAc : ∀ j, j < 21 → A (ad j)) (hK : va_K G vwCl (cT cy) s) (hP : va_P G vwCl (mW ad cy σ) H) (hS : va_S A H0 H locs) (b : Nat) (hbx : b = 0 ∨ b = 1 ∨ b = 2 ∨ b = 6) (hbN : b < 24) (hlink : (Cond.fieldLink own index RX3 (TX3 b).2.1 (TX3 b).2.2.1).before args s = true) (hd : decode cc pc = .ok (.putfield index, 3)) (hs : (TX3 b).1 = RX3) (hf : (TX3 b).2.2.2 = false) (ht : parseFieldDescriptor (TX3 b).2.2.1 = some .int) {v : Int} (kk : ∀ (H : Heap) (locs : List Loc), va_P G vwCl (mW ad cy (up σ 0 b v)) H → va_S A H0 H locs → W p l e R s m args below meth c H locs cells slots Q (F0 m (pc + 3) ls rest)) : W p l e R s m args below meth c H locs cells slots Q (F0 m pc ls (.int (iI v) :: .ref (ad 0) :: rest)) :=
  va_put (C := RX3) (T := TX3) (N := 24) (ci := 3) (ty := .int) hx hb hts hin tyX3 tyX3_ok nmX3 hown hK hP (mD hI hAc cy σ) hS 0 mW_0 rfl b hbN hlink (fun x h => by rw [hs] at h; exact h) hf ht rfl rfl (by simp [mOb]; omega) hd (fun H1 locs1 hP1 _ hS1 => kk H1 locs1 (by rw [← mW_putO hbx]; exact hP1) hS1)
theorem k_mld {q N : Nat} (hx : p.tables.exec = Jvm.exec) (hb : c.code = cc) (hK : va_K G vwCl (cT cy) s) (hP : va_P G vwCl (mW ad cy σ) H) (hq : 0 < q ∧ q < 21) (hN : mLen q = N) {x : Int} (h0 : 0 ≤ x) (h1 : x < (N : Int)) (hN2 : N ≤ 40) (hd : decode cc pc = .ok (.iaload, 1)) (kk : W p l e R s m args below meth c H locs cells slots Q (F0 m (pc + 1) ls (.int (iI (σ q x.toNat)) :: rest))) : W p l e R s m args below meth c H locs cells slots Q (F0 m pc ls (.int (iI x) :: .ref (ad q) :: rest)) :=
  va_iald hx hb hK hP q 0 (mW_a hq.1 hq.2) rfl (by rw [hN]; exact iI_in h0 h1 (by omega)) hd (by rw [iI_cl ⟨by omega, by omega⟩]; exact kk)
theorem k_mst {q N : Nat} (hx : p.tables.exec = Jvm.exec) (hb : c.code = cc) (hI : mI ad) (hAc : ∀ j, j < 21 → A (ad j)) (hK : va_K G vwCl (cT cy) s) (hP : va_P G vwCl (mW ad cy σ) H) (hS : va_S A H0 H locs) (hq : 0 < q ∧ q < 21) (hN : mLen q = N) {x v : Int} (h0 : 0 ≤ x) (h1 : x < (N : Int)) (hN2 : N ≤ 40) (hd : decode cc pc = .ok (.iastore, 1)) (kk : ∀ (H : Heap) (locs : List Loc), va_P G vwCl (mW ad cy (up σ q x.toNat v)) H → va_S A H0 H locs → W p l e R s m args below meth c H locs cells slots Q (F0 m (pc + 1) ls rest)) : W p l e R s m args below meth c H locs cells slots Q (F0 m pc ls (.int (iI v) :: .int (iI x) :: .ref (ad q) :: rest)) :=
  va_iast hx hb hK hP (mD hI hAc cy σ) hS q 0 (mW_a hq.1 hq.2) rfl (by rw [hN]; exact iI_in h0 h1 (by omega)) hd (fun H1 locs1 hP1 _ hS1 => kk H1 locs1 (by rw [← mW_putA hq.1 hq.2, ← iI_cl (x := x) ⟨by omega, by omega⟩]; exact hP1) hS1)
abbrev mPre (G : va_G) (ad : Nat → Nat) (cy : Nat → ClassId) (as : List Value) (σ : Sg) (sz : Nat) : Array Value → State → Prop := va_Pc as (fun U => U.heap.size = sz ∧ va_P G vwCl (mW ad cy σ) U.heap ∧ va_K G vwCl (cT cy) U)
abbrev mB (G : va_G) (ad : Nat → Nat) (cy : Nat → ClassId) : Sg → State → Prop := fun u t => va_P G vwCl (mW ad cy u) t.heap ∧ va_K G vwCl (cT cy) t
abbrev mMv (l : Launch) (y : MethodName) (ws : List Cond) (rm : Room) (G : va_G) (ad : Nat → Nat) (cy : Nat → ClassId) (as : List Value) (σ σ' : Sg) : Prop := ∀ sz, Met l y ws rm (mPre G ad cy as σ sz) (va_Qv (fun u : Sg => u = σ') (mB G ad cy) (mA ad sz)) 0 0 (mA ad sz)
abbrev mMi (l : Launch) (y : MethodName) (ws : List Cond) (rm : Room) (G : va_G) (ad : Nat → Nat) (cy : Nat → ClassId) (as : List Value) (σ : Sg) (r : Int) (σ' : Sg) : Prop := ∀ sz, Met l y ws rm (mPre G ad cy as σ sz) (va_Qi (fun (v : Int32) (u : Sg) => v = iI r ∧ u = σ') (mB G ad cy) (mA ad sz)) 0 0 (mA ad sz)
theorem mPre_blind {as : List Value} {sz : Nat} : FrameBlind (mPre G ad cy as σ sz) := fun a U g mk q => ⟨q.1, q.2.1, q.2.2.1, va_K.moved (u := U) (U := U.calling g mk a) (Vm.Alike.refl U.vm) q.2.2.2⟩
theorem mA_to {sz : Nat} (hAc : ∀ j, j < 21 → A (ad j)) (hA : ∀ q, H0.size ≤ q → A q) (hS : va_S A H0 H locs) (hsz : sz = H.size) : ∀ q, mA ad sz q → A q := fun q h => by
  rcases h with ⟨j, hj, rfl⟩ | h
  · exact hAc j hj
  · exact hA q (by have := hS.1; omega)
theorem mRecv (hK : va_K G vwCl (cT cy) s) (hP : va_P G vwCl (mW ad cy σ) H) : ∃ cell : Cell, H[ad 0]? = some cell ∧ cell.vm.isStatics = false ∧ s.vm.findClass RX3 = some cell.cls := va_recv hK hP (ci := 3) (q := (RX3, TX3, 24)) rfl mW_0
variable {y : MethodName} {bytes : ByteArray} {maxL nL n : Nat} {ret : Option FieldType} {ws : List Cond} {rm : Room} {C : String} {b : Addr} {As st0 : List Value} {σ' : Sg} {r : Int}
theorem k_mcv (S : CallFix p m c cc nL s args Ts own) (hM : mMv l y ws rm G ad cy (.ref b :: As) σ σ') (cw : CallW R s args own C index y bytes maxL ret ws rm 0 0 n) (hr : ∃ cell : Cell, H[b]? = some cell ∧ cell.vm.isStatics = false ∧ s.vm.findClass C = some cell.cls) (hAc : ∀ j, j < 21 → A (ad j)) (hA : ∀ q, H0.size ≤ q → A q) (hK : va_K G vwCl (cT cy) s) (hP : va_P G vwCl (mW ad cy σ) H) (hS : va_S A H0 H locs) (hn : As.length = n) (hsize : ls.size = nL) (hst : st0 = As.reverse ++ .ref b :: rest) (hW : (rest.map fun v => v.category).sum ≤ 8) (hd : decode cc pc = .ok (.invokevirtual index, 3)) (hf : cells ≤ R.cells ∧ slots ≤ R.slots) (kk : ∀ (H : Heap) (locs : List Loc), va_P G vwCl (mW ad cy σ') H → va_S A H0 H locs → W p l e R s m args below meth c H locs cells slots Q (F0 m (pc + 3) ls rest)) : W p l e R s m args below meth c H locs cells slots Q (F0 m pc ls st0) :=
  va_callv (va_runV S (hM H.size) cw ⟨mPre_blind, hr, fun U hU hW => ⟨rfl, by rw [hU], by rw [hU]; exact hP, va_K.moved hW.alike hK⟩⟩ rfl hn hsize hst (by simpa [JFrame.monitorRoom] using hW) hd hf) hS (fun q _ h => mA_to hAc hA hS rfl q h) (mA_to hAc hA hS rfl) (fun u t H1 locs1 ht hvm hw hB _ _ hS1 => by
    subst hw
    subst ht
    exact kk _ _ hB.1 hS1)
theorem k_mci (S : CallFix p m c cc nL s args Ts own) (hM : mMi l y ws rm G ad cy (.ref b :: As) σ r σ') (cw : CallW R s args own C index y bytes maxL ret ws rm 0 0 n) (hr : ∃ cell : Cell, H[b]? = some cell ∧ cell.vm.isStatics = false ∧ s.vm.findClass C = some cell.cls) (hAc : ∀ j, j < 21 → A (ad j)) (hA : ∀ q, H0.size ≤ q → A q) (hK : va_K G vwCl (cT cy) s) (hP : va_P G vwCl (mW ad cy σ) H) (hS : va_S A H0 H locs) (hn : As.length = n) (hsize : ls.size = nL) (hst : st0 = As.reverse ++ .ref b :: rest) (hW : (rest.map fun v => v.category).sum ≤ 8) (hd : decode cc pc = .ok (.invokevirtual index, 3)) (hf : cells ≤ R.cells ∧ slots ≤ R.slots) (kk : ∀ (H : Heap) (locs : List Loc), va_P G vwCl (mW ad cy σ') H → va_S A H0 H locs → W p l e R s m args below meth c H locs cells slots Q (F0 m (pc + 3) ls (.int (iI r) :: rest))) : W p l e R s m args below meth c H locs cells slots Q (F0 m pc ls st0) :=
  va_calli (va_runV S (hM H.size) cw ⟨mPre_blind, hr, fun U hU hW => ⟨rfl, by rw [hU], by rw [hU]; exact hP, va_K.moved hW.alike hK⟩⟩ rfl hn hsize hst (by simpa [JFrame.monitorRoom] using hW) hd hf) hS (fun q _ h => mA_to hAc hA hS rfl q h) (mA_to hAc hA hS rfl) (fun r1 u t H1 locs1 ht hvm hw hB _ _ hS1 => by
    obtain ⟨rfl, rfl⟩ := hw
    subst ht
    exact kk _ _ hB.1 hS1)
theorem k_msi (S : CallFix p m c cc nL s args Ts own) (hM : mMi l y ws rm G ad cy As σ r σ') (cw : CallB R s args own index y bytes maxL ret ws rm 0 0 n ∧ (Cond.static y).before args s = true) (hAc : ∀ j, j < 21 → A (ad j)) (hA : ∀ q, H0.size ≤ q → A q) (hK : va_K G vwCl (cT cy) s) (hP : va_P G vwCl (mW ad cy σ) H) (hS : va_S A H0 H locs) (hn : As.length = n) (hsize : ls.size = nL) (hst : st0 = As.reverse ++ rest) (hW : (rest.map fun v => v.category).sum ≤ 8) (hd : decode cc pc = .ok (.invokestatic index, 3)) (hf : cells ≤ R.cells ∧ slots ≤ R.slots) (kk : ∀ (H : Heap) (locs : List Loc), va_P G vwCl (mW ad cy σ') H → va_S A H0 H locs → W p l e R s m args below meth c H locs cells slots Q (F0 m (pc + 3) ls (.int (iI r) :: rest))) : W p l e R s m args below meth c H locs cells slots Q (F0 m pc ls st0) :=
  va_calli (va_runS S (hM H.size) cw ⟨mPre_blind, fun U hU hW => ⟨rfl, by rw [hU], by rw [hU]; exact hP, va_K.moved hW.alike hK⟩⟩ rfl hn hsize hst (by simpa [JFrame.monitorRoom] using hW) hd hf) hS (fun q _ h => mA_to hAc hA hS rfl q h) (mA_to hAc hA hS rfl) (fun r1 u t H1 locs1 ht hvm hw hB _ _ hS1 => by
    obtain ⟨rfl, rfl⟩ := hw
    subst ht
    exact kk _ _ hB.1 hS1)
end KMW
