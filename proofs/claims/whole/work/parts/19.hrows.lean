/-! the law's helpers: a call of the class, its answer into a row of one, its exceptions into numbers -/
def hRes (m k : Nat) : Int := if k = 3 then m else k
def hSt (code : Nat) (σ σ' : Sg) : Sg := if code = 0 then σ' else σ
def oA (ad : Nat → Nat) (ao sz : Nat) : Nat → Prop := fun q => (∃ j, j < 33 ∧ q = ad j) ∨ q = ao ∨ sz ≤ q
abbrev oE (cy : Nat → ClassId) (f : Nat → Int64) : va_E := .inl (cy 1, 1, .inr (.inl f))
def lN3 (U : State) : Prop := va_Nc nIA nIO U ∧ va_Nc nIS nIO U ∧ va_Nc nIS nIA U
theorem lN3.moved {u U : State} (hvm : u.vm.Alike U.vm) (h : lN3 u) : lN3 U := ⟨h.1.moved hvm, h.2.1.moved hvm, h.2.2.moved hvm⟩
section KH
variable {p : Program} {l : Launch} {e : Env} {R : Room} {s : State} {m : MethodId} {args : Array Value} {below : List Frame} {meth : Method} {c : Code} {H : Heap} {locs : List Loc} {cells slots : Nat} {Q : State → Prop} {cc : ByteArray} {pc : Nat} {ls : Array Slot} {rest : List Value}
variable {G : va_G} {ad : Nat → Nat} {cy : Nat → ClassId} {σ : Sg} {A : Nat → Prop} {own : String} {index : Nat} {Ts : List Cond}
abbrev lPre (G : va_G) (ad : Nat → Nat) (cy : Nat → ClassId) (ao : Nat) (fo : Nat → Int64) (as : List Value) (σ : Sg) (sz : Nat) : Array Value → State → Prop := va_Pc as (fun U => U.heap.size = sz ∧ va_P G vwCl (cW ad cy σ) U.heap ∧ va_P G vwCl [(ao, oE cy fo)] U.heap ∧ va_K G vwCl (cT cy) U ∧ xE (oA ad ao sz) U U.heap ∧ lN3 U)
abbrev loB (G : va_G) (ad : Nat → Nat) (cy : Nat → ClassId) (ao : Nat) : Sg × (Nat → Int64) → State → Prop := fun u t => va_P G vwCl (cW ad cy u.1) t.heap ∧ va_P G vwCl [(ao, oE cy u.2)] t.heap ∧ va_K G vwCl (cT cy) t
abbrev lQ (G : va_G) (ad : Nat → Nat) (cy : Nat → ClassId) (ao : Nat) (σ : Sg) (code mm : Nat) (r : Int) (σ' : Sg) (sz : Nat) := va_Qi (fun (v : Int32) (u : Sg × (Nat → Int64)) => v = iI (hRes mm code) ∧ u.1 = hSt code σ σ' ∧ (code = 0 → u.2 0 = (iI r).toInt64)) (loB G ad cy ao) (oA ad ao sz)
abbrev lM (l : Launch) (y : MethodName) (ws : List Cond) (rm : Room) (G : va_G) (ad : Nat → Nat) (cy : Nat → ClassId) (ao : Nat) (fo : Nat → Int64) (as : List Value) (σ : Sg) (code mm : Nat) (r : Int) (σ' : Sg) (n : Nat) : Prop := ∀ sz, Met l y ws rm (lPre G ad cy ao fo as σ sz) (lQ G ad cy ao σ code mm r σ' sz) n (6 * n) (oA ad ao sz)
theorem lPre_blind {ao : Nat} {fo : Nat → Int64} {as : List Value} {sz : Nat} : FrameBlind (lPre G ad cy ao fo as σ sz) := fun a U g mk q => ⟨q.1, q.2.1, q.2.2.1, q.2.2.2.1, va_K.moved (u := U) (U := U.calling g mk a) (Vm.Alike.refl U.vm) q.2.2.2.2.1, xE_blind q.2.2.2.2.2.1, lN3.moved (u := U) (U := U.calling g mk a) (Vm.Alike.refl U.vm) q.2.2.2.2.2.2⟩
theorem keep1 {ao : Nat} {x : va_E} {H1 : Heap} (hO : va_P G vwCl [(ao, x)] H) (hao : ∀ j, j < 33 → ao ≠ ad j) (hk : ∀ q : Nat, q < H.size → ¬ cA ad H.size q → H1[q]? = H[q]?) : va_P G vwCl [(ao, x)] H1 := hO.kept (fun k q h => by
  have hlt := vx_lt hO h
  have hq : q = (ao, x) := by
    cases k with
    | zero => exact (Option.some.inj h).symm
    | succ k => simp at h
  subst hq
  exact hk _ hlt (fun hc => by
    rcases hc with ⟨j, hj, e⟩ | h
    · exact hao j hj e
    · exact absurd hlt (by dsimp only; omega)))
variable {y : MethodName} {bytes : ByteArray} {maxL nL n k : Nat} {ret : Option FieldType} {ws : List Cond} {rm : Room} {C : String} {As st0 : List Value} {σ' : Sg} {r : Int} {code : Nat}
theorem k_hxi {ao : Nat} {x : va_E} (S : CallFix p m c cc nL s args Ts own) (hM : xMi l y ws rm G ad cy (.ref (ad 0) :: As) σ code r σ' k) (cw : CallW R s args own RX2 index y bytes maxL ret ws rm k (6 * k) n) (hAc : ∀ j, j < 33 → A (ad j)) (hA : ∀ q, s.heap.size ≤ q → A q) (hK : va_K G vwCl (cT cy) s) (hX : xE A s s.heap) (hao : ∀ j, j < 33 → ao ≠ ad j) (hP : va_P G vwCl (cW ad cy σ) H) (hO : va_P G vwCl [(ao, x)] H) (hS : va_S A s.heap H locs) (hn : As.length = n) (hsize : ls.size = nL) (hst : st0 = As.reverse ++ .ref (ad 0) :: rest) (hW : (rest.map fun v => v.category).sum ≤ 8) (hd : decode cc pc = .ok (.invokevirtual index, 3)) (hf : cells + k ≤ R.cells ∧ slots + 6 * k ≤ R.slots)
    (kx : ∀ (E : String) (ce : Cell) (q9 : Addr) (H : Heap) (locs : List Loc), xN code E → va_P G vwCl (cW ad cy σ) H → va_P G vwCl [(ao, x)] H → va_S A s.heap H locs → H[q9]? = some ce → ce.vm = .none → s.vm.findClass E = some ce.cls → vx_W p l e R s m args below meth c H locs (cells + k) (slots + 6 * k) Q (F0 m pc ls rest) q9)
    (kk : code = 0 → ∀ (H : Heap) (locs : List Loc), va_P G vwCl (cW ad cy σ') H → va_P G vwCl [(ao, x)] H → va_S A s.heap H locs → W p l e R s m args below meth c H locs (cells + k) (slots + 6 * k) Q (F0 m (pc + 3) ls (.int (iI r) :: rest))) : W p l e R s m args below meth c H locs cells slots Q (F0 m pc ls st0) :=
  vx_calli (vx_runV S (hM H.size) cw ⟨xPre_blind, cRecvH hK hP, fun U hU hW => ⟨rfl, by rw [hU], by rw [hU]; exact hP, va_K.moved hW.alike hK, xE_to hX hS (cA_to hAc hA hS rfl) hU hW⟩⟩ rfl hn hsize hst (by simpa [JFrame.monitorRoom] using hW) hd hf) hS (fun q _ h => cA_to hAc hA hS rfl q h) (cA_to hAc hA hS rfl) (fun q _ h => cA_to hAc hA hS rfl q h)
    (fun E ce q9 u t H1 locs1 ht hvm hw hB _ hk hS1 h1 h2 h3 => by
      subst hw; subst ht
      exact kx E ce q9 _ _ hB.1 hB.2.1 (keep1 hO hao hk) hS1 h1 h2 h3)
    (fun r1 u t H1 locs1 ht hvm hw hB _ hk hS1 => by
      obtain ⟨h0, rfl, rfl⟩ := hw; subst ht
      exact kk h0 _ _ hB.1 (keep1 hO hao hk) hS1)
/-- the answer into the row -/
theorem k_ost {ao : Nat} {fo : Nat → Int64} {x : Int64} (hx : p.tables.exec = Jvm.exec) (hb : c.code = cc) (hAo : A ao) (hao : ∀ j, j < 33 → ao ≠ ad j) (hK : va_K G vwCl (cT cy) s) (hP : va_P G vwCl (cW ad cy σ) H) (hO : va_P G vwCl [(ao, oE cy fo)] H) {H0 : Heap} (hS : va_S A H0 H locs) (hI : cI ad) (hAc : ∀ j, j < 33 → A (ad j)) (hd : decode cc pc = .ok (.lastore, 1)) (kk : ∀ (H : Heap) (locs : List Loc) (fo : Nat → Int64), fo 0 = x → va_P G vwCl (cW ad cy σ) H → va_P G vwCl [(ao, oE cy fo)] H → va_S A H0 H locs → W p l e R s m args below meth c H locs cells slots Q (F0 m (pc + 1) ls rest)) : W p l e R s m args below meth c H locs cells slots Q (F0 m pc ls (.long x :: .int (iI 0) :: .ref ao :: rest)) := by
  have hP2 : va_P G vwCl ([(ao, oE cy fo)] ++ cW ad cy σ) H := hO.app hP
  have hD2 : va_D A ([(ao, oE cy fo)] ++ cW ad cy σ) := va_D.app ⟨fun i j p q h1 h2 _ => by
      cases i with
      | zero =>
        cases j with
        | zero => rfl
        | succ j => simp at h2
      | succ i => simp at h1, fun k q h => by
      cases k with
      | zero => rw [← (Option.some.inj h)]; exact hAo
      | succ k => simp at h⟩ (cD hI hAc cy σ) (fun i j p q h1 h2 => by
      obtain ⟨hj, rfl⟩ := cW_some h2
      cases i with
      | zero => rw [← (Option.some.inj h1)]; exact hao j hj
      | succ i => simp at h1)
  refine va_last hx hb hK hP2 hD2 hS 0 1 rfl rfl (iI_in (n := 1) (by decide) (by decide) (by decide)) hd (fun H1 locs1 hP1 _ hS1 => ?_)
  have e : ([(ao, oE cy fo)] ++ cW ad cy σ).set 0 (ao, .inl (cy 1, 1, .inr (.inl (vp_updL fo (iI 0).toNatClampNeg x)))) = [(ao, oE cy (vp_updL fo (iI 0).toNatClampNeg x))] ++ cW ad cy σ := rfl
  rw [e] at hP1
  refine kk H1 locs1 (vp_updL fo (iI 0).toNatClampNeg x) (by rw [iI_cl (by decide)]; simp [vp_updL]) (hP1.by (fun k => k + 1) (fun k q h => ?_)) (hP1.by (fun k => k) (fun k q h => ?_)) hS1
  · simpa using h
  · cases k with
    | zero => simpa using h
    | succ k => simp at h
end KH
theorem cFarm_v (σ : Sg) (n : Int) : cFarm σ n = 0 ∨ cFarm σ n = 1 := by unfold cFarm; split <;> simp
theorem cCrop_v (n : Int) : cCrop n = 0 ∨ cCrop n = 1 := by unfold cCrop; split <;> simp
theorem cRange_v (v a b : Int) : cRange v a b = 0 ∨ cRange v a b = 2 := by unfold cRange; split <;> simp
theorem cSeq_ne {a b m : Nat} (h1 : a ≠ m) (h2 : b ≠ m) : cSeq a b ≠ m := by unfold cSeq; split <;> assumption
theorem cFarm_ne {σ : Sg} {n : Int} {m : Nat} (h0 : 0 ≠ m) (h1 : 1 ≠ m) : cFarm σ n ≠ m := by unfold cFarm; split <;> assumption
theorem cCrop_ne {n : Int} {m : Nat} (h0 : 0 ≠ m) (h1 : 1 ≠ m) : cCrop n ≠ m := by unfold cCrop; split <;> assumption
theorem cRange_ne {v a b : Int} {m : Nat} (h0 : 0 ≠ m) (h1 : 2 ≠ m) : cRange v a b ≠ m := by unfold cRange; split <;> assumption
theorem n_setNeed (c x v : Int) : kSetNeed c x v ≠ 3 := cSeq_ne (cCrop_ne (by decide) (by decide)) (cSeq_ne (by split <;> decide) (cRange_ne (by decide) (by decide)))
theorem n_setCrop (c x v : Int) : kSetCrop c x v ≠ 3 := cSeq_ne (cCrop_ne (by decide) (by decide)) (cSeq_ne (cRange_ne (by decide) (by decide)) (cRange_ne (by decide) (by decide)))
theorem n_add (σ : Sg) (g : Int) : kAdd σ g ≠ 2 := cSeq_ne (by split <;> decide) (by split <;> decide)
theorem n_next (σ : Sg) : kNext σ ≠ 1 ∧ kNext σ ≠ 2 := by unfold kNext; split <;> simp
theorem n_close (σ : Sg) : kClose σ ≠ 1 ∧ kClose σ ≠ 2 := by unfold kClose; split <;> simp
theorem n_farm (σ : Sg) (n : Int) : cFarm σ n ≠ 2 ∧ cFarm σ n ≠ 3 := ⟨cFarm_ne (by decide) (by decide), cFarm_ne (by decide) (by decide)⟩
theorem n_repaid (σ : Sg) (n x : Int) : kRepaid σ n x ≠ 3 := cSeq_ne (cFarm_ne (by decide) (by decide)) (cRange_ne (by decide) (by decide))
