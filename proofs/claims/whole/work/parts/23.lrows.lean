/-! the law's rows: both worlds, the row of one, the script -/
def LwS (ad adM : Nat → Nat) (ao : Nat) (A : Nat → Prop) : Prop := (cI ad ∧ mI adM) ∧ (∀ j, j < 33 → ao ≠ ad j) ∧ (∀ j, j < 21 → ao ≠ adM j) ∧ (∀ i, i < 33 → ∀ j, j < 21 → ad i ≠ adM j) ∧ (∀ j, j < 33 → A (ad j)) ∧ (∀ j, j < 21 → A (adM j)) ∧ A ao
def LW (G : va_G) (ad : Nat → Nat) (cy : Nat → ClassId) (adM : Nat → Nat) (ao : Nat) (σ M : Sg) (fo : Nat → Int64) (H : Heap) : Prop := va_P G vwCl (cW ad cy σ) H ∧ va_P G vwCl (mW adM cy M) H ∧ va_P G vwCl [(ao, oE cy fo)] H
theorem keepP {D : va_G} {cl : List vw_C} {ws : va_W} {H H1 : Heap} {F : Nat → Prop} (h : va_P D cl ws H) (hF : ∀ (k : Nat) (q : Nat × va_E), ws[k]? = some q → q.1 < H.size → ¬ F q.1) (hk : ∀ q : Nat, q < H.size → ¬ F q → H1[q]? = H[q]?) : va_P D cl ws H1 := h.kept (fun k q hq => hk _ (vx_lt h hq) (hF k q hq (vx_lt h hq)))
theorem one_at {ao : Nat} {x : va_E} {k : Nat} {q : Nat × va_E} (h : ([(ao, x)] : va_W)[k]? = some q) : q.1 = ao := by
  cases k with
  | zero => rw [← (Option.some.inj h)]
  | succ k => simp at h
theorem hRes_0 {mm k : Nat} (hk : k ≤ 3) (hm : mm = 1 ∨ mm = 2 ∨ mm = 3) (h : iI (hRes mm k) = 0) : k = 0 := by
  have hk' : k = 0 ∨ k = 1 ∨ k = 2 ∨ k = 3 := by omega
  rcases hk' with rfl | rfl | rfl | rfl <;> rcases hm with rfl | rfl | rfl <;> first | rfl | exact absurd h (by decide)
section KLW
variable {p : Program} {l : Launch} {e : Env} {R : Room} {s : State} {m : MethodId} {args : Array Value} {below : List Frame} {meth : Method} {c : Code} {H : Heap} {locs : List Loc} {cells slots : Nat} {Q : State → Prop} {cc : ByteArray} {pc : Nat} {ls : Array Slot} {rest : List Value}
variable {G : va_G} {ad adM : Nat → Nat} {ao : Nat} {cy : Nat → ClassId} {σ M : Sg} {fo : Nat → Int64} {A : Nat → Prop} {own : String} {index : Nat} {Ts : List Cond}
variable {y : MethodName} {bytes : ByteArray} {maxL nL n k mm : Nat} {ret : Option FieldType} {hh : List (Nat × Nat × Nat × Nat)} {ws : List Cond} {rm : Room} {As st0 : List Value} {σ' M' : Sg} {r : Int} {code : Nat}
theorem oA_to (hL : LwS ad adM ao A) (hA : ∀ q, s.heap.size ≤ q → A q) (hS : va_S A s.heap H locs) : ∀ q, oA ad ao H.size q → A q := fun q h => by
  rcases h with ⟨j, hj, rfl⟩ | rfl | h
  · exact hL.2.2.2.2.1 j hj
  · exact hL.2.2.2.2.2.2
  · exact hA q (by have := hS.1; omega)
theorem k_lh (S : CallFix p m c cc nL s args Ts own) (hM : lM l y ws rm G ad cy ao fo As σ code mm r σ' k) (cw : vx_CSW R s args own index y bytes maxL ret hh ws rm k (6 * k) n) (hA : ∀ q, s.heap.size ≤ q → A q) (hL : LwS ad adM ao A) (hK : va_K G vwCl (cT cy) s) (hX : xE A s s.heap) (hN3 : lN3 s) (hW : LW G ad cy adM ao σ M fo H) (hS : va_S A s.heap H locs) (hn : As.length = n) (hsize : ls.size = nL) (hst : st0 = As.reverse ++ rest) (hWt : (rest.map fun v => v.category).sum ≤ 8) (hd : decode cc pc = .ok (.invokestatic index, 3)) (hf : cells + k ≤ R.cells ∧ slots + 6 * k ≤ R.slots)
    (kk : ∀ (H : Heap) (locs : List Loc) (fo : Nat → Int64), (code = 0 → fo 0 = (iI r).toInt64) → LW G ad cy adM ao (hSt code σ σ') M fo H → va_S A s.heap H locs → W p l e R s m args below meth c H locs (cells + k) (slots + 6 * k) Q (F0 m (pc + 3) ls (.int (iI (hRes mm code)) :: rest))) : W p l e R s m args below meth c H locs cells slots Q (F0 m pc ls st0) :=
  va_calli (vx_runSW S (hM H.size) cw ⟨lPre_blind, fun U hU hWm => ⟨rfl, by rw [hU], by rw [hU]; exact hW.1, by rw [hU]; exact hW.2.2, va_K.moved hWm.alike hK, xE_to hX hS (oA_to hL hA hS) hU hWm, hN3.moved hWm.alike⟩⟩ rfl hn hsize hst (by simpa [JFrame.monitorRoom] using hWt) hd hf) hS (fun q _ h => oA_to hL hA hS q h) (oA_to hL hA hS) (fun r1 u t H1 locs1 ht hvm hw hB _ hk hS1 => by
    obtain ⟨u1, u2⟩ := u
    obtain ⟨rfl, h2, h3⟩ := hw
    dsimp only at h2 h3 hB
    subst h2
    subst ht
    refine kk _ _ u2 h3 ⟨hB.1, keepP hW.2.1 (fun k q hq hlt hF => ?_) hk, hB.2.1⟩ hS1
    obtain ⟨hj, rfl⟩ := mW_some hq
    rcases hF with ⟨i, hi, e⟩ | e | h
    · exact hL.2.2.2.1 i hi k hj e.symm
    · exact hL.2.2.1 k hj e.symm
    · exact absurd hlt (Nat.not_lt.mpr h))
theorem k_lm (S : CallFix p m c cc nL s args Ts own) (hM : mMi l y ws rm G adM cy (.ref (adM 0) :: As) M r M') (cw : CallW R s args own RX3 index y bytes maxL ret ws rm 0 0 n) (hA : ∀ q, s.heap.size ≤ q → A q) (hL : LwS ad adM ao A) (hK : va_K G vwCl (cT cy) s) (hW : LW G ad cy adM ao σ M fo H) (hS : va_S A s.heap H locs) (hn : As.length = n) (hsize : ls.size = nL) (hst : st0 = As.reverse ++ .ref (adM 0) :: rest) (hWt : (rest.map fun v => v.category).sum ≤ 8) (hd : decode cc pc = .ok (.invokevirtual index, 3)) (hf : cells ≤ R.cells ∧ slots ≤ R.slots)
    (kk : ∀ (H : Heap) (locs : List Loc), LW G ad cy adM ao σ M' fo H → va_S A s.heap H locs → W p l e R s m args below meth c H locs cells slots Q (F0 m (pc + 3) ls (.int (iI r) :: rest))) : W p l e R s m args below meth c H locs cells slots Q (F0 m pc ls st0) :=
  va_calli (va_runV S (hM H.size) cw ⟨mPre_blind, mRecv hK hW.2.1, fun U hU hWm => ⟨rfl, by rw [hU], by rw [hU]; exact hW.2.1, va_K.moved hWm.alike hK⟩⟩ rfl hn hsize hst (by simpa [JFrame.monitorRoom] using hWt) hd hf) hS (fun q _ h => mA_to hL.2.2.2.2.2.1 hA hS rfl q h) (mA_to hL.2.2.2.2.2.1 hA hS rfl) (fun r1 u t H1 locs1 ht hvm hw hB _ hk hS1 => by
    obtain ⟨rfl, rfl⟩ := hw
    subst ht
    refine kk _ _ ⟨keepP hW.1 (fun k q hq hlt hF => ?_) hk, hB.1, keepP hW.2.2 (fun k q hq hlt hF => ?_) hk⟩ hS1
    · obtain ⟨hj, rfl⟩ := cW_some hq
      rcases hF with ⟨i, hi, e⟩ | h
      · exact hL.2.2.2.1 k hj i hi e
      · exact absurd hlt (Nat.not_lt.mpr h)
    · rw [one_at hq] at hF hlt
      rcases hF with ⟨i, hi, e⟩ | h
      · exact hL.2.2.1 i hi e
      · exact absurd hlt (Nat.not_lt.mpr h))
theorem k_lc (S : CallFix p m c cc nL s args Ts own) (hM : cMi l y ws rm G ad cy (.ref (ad 0) :: As) σ r σ) (cw : CallW R s args own RX2 index y bytes maxL ret ws rm 0 0 n) (hA : ∀ q, s.heap.size ≤ q → A q) (hL : LwS ad adM ao A) (hK : va_K G vwCl (cT cy) s) (hW : LW G ad cy adM ao σ M fo H) (hS : va_S A s.heap H locs) (hn : As.length = n) (hsize : ls.size = nL) (hst : st0 = As.reverse ++ .ref (ad 0) :: rest) (hWt : (rest.map fun v => v.category).sum ≤ 8) (hd : decode cc pc = .ok (.invokevirtual index, 3)) (hf : cells ≤ R.cells ∧ slots ≤ R.slots)
    (kk : ∀ (H : Heap) (locs : List Loc), LW G ad cy adM ao σ M fo H → va_S A s.heap H locs → W p l e R s m args below meth c H locs cells slots Q (F0 m (pc + 3) ls (.int (iI r) :: rest))) : W p l e R s m args below meth c H locs cells slots Q (F0 m pc ls st0) :=
  va_calli (va_runV S (hM H.size) cw ⟨cPre_blind, cRecvH hK hW.1, fun U hU hWm => ⟨rfl, by rw [hU], by rw [hU]; exact hW.1, va_K.moved hWm.alike hK⟩⟩ rfl hn hsize hst (by simpa [JFrame.monitorRoom] using hWt) hd hf) hS (fun q _ h => cA_to hL.2.2.2.2.1 hA hS rfl q h) (cA_to hL.2.2.2.2.1 hA hS rfl) (fun r1 u t H1 locs1 ht hvm hw hB _ hk hS1 => by
    obtain ⟨rfl, rfl⟩ := hw
    subst ht
    refine kk _ _ ⟨hB.1, keepP hW.2.1 (fun k q hq hlt hF => ?_) hk, keepP hW.2.2 (fun k q hq hlt hF => ?_) hk⟩ hS1
    · obtain ⟨hj, rfl⟩ := mW_some hq
      rcases hF with ⟨i, hi, e⟩ | h
      · exact hL.2.2.2.1 i hi k hj e.symm
      · exact absurd hlt (Nat.not_lt.mpr h)
    · rw [one_at hq] at hF hlt
      rcases hF with ⟨i, hi, e⟩ | h
      · exact hL.2.1 i hi e
      · exact absurd hlt (Nat.not_lt.mpr h))
/-- the script's length, and a place of it -/
theorem k_slen {H0 : Heap} {b L : Nat} {xs : Nat → Int32} (hx : p.tables.exec = Jvm.exec) (hb : c.code = cc) (hX : va_X b L xs s H0) (hbl : b < H0.size) (hbA : ¬ A b) (hS : va_S A H0 H locs) (hd : decode cc pc = .ok (.arraylength, 1)) (kk : W p l e R s m args below meth c H locs cells slots Q (F0 m (pc + 1) ls (.int (iI (L : Int)) :: rest))) : W p l e R s m args below meth c H locs cells slots Q (F0 m pc ls (.ref b :: rest)) :=
  va_slen hx hb hX hbl hbA hS hd (by rw [show Int32.ofNat L = iI (L : Int) from Int32.ofInt_eq_ofNat.symm]; exact kk)
theorem k_sld {H0 : Heap} {b L : Nat} {xs : Nat → Int32} {x : Int} {v : Int32} (hx : p.tables.exec = Jvm.exec) (hb : c.code = cc) (hX : va_X b L xs s H0) (hbl : b < H0.size) (hbA : ¬ A b) (hS : va_S A H0 H locs) (h0 : 0 ≤ x) (h1 : x < (L : Int)) (hL : L ≤ 2048) (he : xs x.toNat = v) (hd : decode cc pc = .ok (.iaload, 1)) (kk : W p l e R s m args below meth c H locs cells slots Q (F0 m (pc + 1) ls (.int v :: rest))) : W p l e R s m args below meth c H locs cells slots Q (F0 m pc ls (.int (iI x) :: .ref b :: rest)) :=
  va_sld hx hb hX hbl hbA hS (iI_in h0 h1 (by omega)) hd (by rw [iI_cl ⟨by omega, by omega⟩, he]; exact kk)
/-- the row of one is read -/
theorem k_old (hx : p.tables.exec = Jvm.exec) (hb : c.code = cc) (hK : va_K G vwCl (cT cy) s) (hW : LW G ad cy adM ao σ M fo H) {v : Int64} (hv : fo 0 = v) (hd : decode cc pc = .ok (.laload, 1)) (kk : W p l e R s m args below meth c H locs cells slots Q (F0 m (pc + 1) ls (.long v :: rest))) : W p l e R s m args below meth c H locs cells slots Q (F0 m pc ls (.int (iI 0) :: .ref ao :: rest)) :=
  va_lald hx hb hK hW.2.2 0 1 rfl rfl (iI_in (n := 1) (by decide) (by decide) (by decide)) hd (by rw [iI_cl (by decide)]; show W p l e R s m args below meth c H locs cells slots Q (F0 m (pc + 1) ls (.long (fo 0) :: rest)); rw [hv]; exact kk)
end KLW
