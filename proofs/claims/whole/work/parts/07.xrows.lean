/-! exceptions over the class's world -/
def nIO : String := "java/lang/IndexOutOfBoundsException"
def nIA : String := "java/lang/IllegalArgumentException"
def nIS : String := "java/lang/IllegalStateException"
abbrev nUp : List String := ["java/lang/RuntimeException", "java/lang/Exception"]
/-- which exception a number stands for -/
def xN (k : Nat) (E : String) : Prop := (k = 1 ∧ E = nIO) ∨ (k = 2 ∧ E = nIA) ∨ (k = 3 ∧ E = nIS)
theorem xN_ne {k : Nat} {E : String} (h : xN k E) : k ≠ 0 := by rcases h with ⟨rfl, _⟩ | ⟨rfl, _⟩ | ⟨rfl, _⟩ <;> decide
/-- the words of a throw that a callee can't take out of its own list -/
def xB : List Cond := [.castable nIO nIO, .castable nIA nIA, .castable nIS nIS, .declares ⟨"java/lang/RuntimeException", "<init>", "()V"⟩, .declares ⟨"java/lang/RuntimeException", "<init>", "(Ljava/lang/String;)V"⟩, .declares ⟨"java/lang/Exception", "<init>", "()V"⟩, .declares ⟨"java/lang/Exception", "<init>", "(Ljava/lang/String;)V"⟩, .declares ⟨"java/lang/Throwable", "<init>", "()V"⟩, .declares ⟨"java/lang/Throwable", "<init>", "(Ljava/lang/String;)V"⟩]
def xSt : List (Nat × String) := [(173, "no such crop"), (39, "no such stage"), (177, "out of range"), (59, "no such group"), (182, "not allowed now"), (171, "no such farmer")]
def xE (A : Nat → Prop) (U : State) (H : Heap) : Prop := (vx_Zq Bundle.tN "UNASSIGNED_STACK" Bundle.steD A U H ∧ vx_Zq Bundle.tN "SUPPRESSED_SENTINEL" Bundle.listD A U H) ∧ (∀ w ∈ xB, va_Nw w U) ∧ ∀ q ∈ xSt, ∃ a, vk_R RX2 q.1 q.2 a U
theorem xB_warm {s U : State} (hW : s.WarmedH U.vm) (h : ∀ w ∈ xB, va_Nw w s) : ∀ w ∈ xB, va_Nw w U := by
  simp only [xB, List.forall_mem_cons] at h ⊢
  obtain ⟨h1, h2, h3, h4, h5, h6, h7, h8, h9, -⟩ := h
  exact ⟨va_Nw.warmC hW h1, va_Nw.warmC hW h2, va_Nw.warmC hW h3, va_Nw.warmD hW h4, va_Nw.warmD hW h5, va_Nw.warmD hW h6, va_Nw.warmD hW h7, va_Nw.warmD hW h8, va_Nw.warmD hW h9, fun _ h => absurd h List.not_mem_nil⟩
theorem xB_same {s U : State} (hv : s.vm = U.vm) (h : ∀ w ∈ xB, va_Nw w s) : ∀ w ∈ xB, va_Nw w U := by
  simp only [xB, List.forall_mem_cons] at h ⊢
  obtain ⟨h1, h2, h3, h4, h5, h6, h7, h8, h9, -⟩ := h
  exact ⟨va_Nw.same rfl hv h1, va_Nw.same rfl hv h2, va_Nw.same rfl hv h3, va_Nw.same rfl hv h4, va_Nw.same rfl hv h5, va_Nw.same rfl hv h6, va_Nw.same rfl hv h7, va_Nw.same rfl hv h8, va_Nw.same rfl hv h9, fun _ h => absurd h List.not_mem_nil⟩
theorem xB_use {s : State} {args : Array Value} (h : ∀ w ∈ xB, va_Nw w s) : ∀ w ∈ xB, w.before args s = true := by
  simp only [xB, List.forall_mem_cons] at h ⊢
  obtain ⟨h1, h2, h3, h4, h5, h6, h7, h8, h9, -⟩ := h
  exact ⟨va_Nw.use rfl h1, va_Nw.use rfl h2, va_Nw.use rfl h3, va_Nw.use rfl h4, va_Nw.use rfl h5, va_Nw.use rfl h6, va_Nw.use rfl h7, va_Nw.use rfl h8, va_Nw.use rfl h9, fun _ h => absurd h List.not_mem_nil⟩
theorem xE_to {A B : Nat → Prop} {s U : State} {H : Heap} {locs : List Loc} (h : xE A s s.heap) (hS : va_S A s.heap H locs) (hB : ∀ q, B q → A q) (hU : U.heap = H) (hW : s.WarmedH U.vm) : xE B U U.heap := by
  obtain ⟨⟨h1, h2⟩, h3, h4⟩ := h
  rw [hU]
  exact ⟨⟨((h1.kept hS.2.1).narrow hB).moved hW.alike, ((h2.kept hS.2.1).narrow hB).moved hW.alike⟩, xB_warm hW h3, fun q hq => by obtain ⟨a, ha⟩ := h4 q hq; exact ⟨a, ha.warm hW⟩⟩
theorem xE_blind {B : Nat → Prop} {U : State} {g : JFrame} {mk : MethodId} {a : Array Value} (h : xE B U U.heap) : xE B (U.calling g mk a) (U.calling g mk a).heap := by
  obtain ⟨⟨h1, h2⟩, h3, h4⟩ := h
  exact ⟨⟨h1.moved (U := U.calling g mk a) (Vm.Alike.refl U.vm), h2.moved (U := U.calling g mk a) (Vm.Alike.refl U.vm)⟩, xB_same (s := U) (U := U.calling g mk a) rfl h3, fun q hq => by obtain ⟨b, hb⟩ := h4 q hq; exact ⟨b, vk_R.same (u := U) (U := U.calling g mk a) rfl hb⟩⟩
def cSeq (a b : Nat) : Nat := if a = 0 then b else a
theorem cSeq_0 {a b : Nat} (h : a = 0) : cSeq a b = b := by simp [cSeq, h]
theorem cSeq_n {a b : Nat} (h : a ≠ 0) : cSeq a b = a := by simp [cSeq, h]
def cFarm (σ : Sg) (n : Int) : Nat := if n < 0 ∨ σ 0 2 ≤ n then 1 else 0
def cCrop (n : Int) : Nat := if n < 0 ∨ 3 ≤ n then 1 else 0
def cRange (v a b : Int) : Nat := if v < a ∨ b < v then 2 else 0
def cState (b : Int) : Nat := if b = 0 then 3 else 0
theorem cFarm_0 {σ : Sg} {n : Int} (h : cFarm σ n = 0) : 0 ≤ n ∧ n < σ 0 2 := by
  unfold cFarm at h
  split at h
  · cases h
  · omega
theorem cCrop_0 {n : Int} (h : cCrop n = 0) : 0 ≤ n ∧ n < 3 := by
  unfold cCrop at h
  split at h
  · cases h
  · omega
theorem cRange_0 {v a b : Int} (h : cRange v a b = 0) : a ≤ v ∧ v ≤ b := by
  unfold cRange at h
  split at h
  · cases h
  · omega
theorem cState_0 {b : Int} (h : cState b = 0) : b ≠ 0 := by
  unfold cState at h
  split at h
  · cases h
  · assumption
section KX
variable {p : Program} {l : Launch} {e : Env} {R : Room} {s : State} {m : MethodId} {args : Array Value} {below : List Frame} {meth : Method} {c : Code} {H : Heap} {locs : List Loc} {cells slots : Nat} {Q : State → Prop} {cc : ByteArray} {pc : Nat} {ls : Array Slot} {rest : List Value}
variable {G : va_G} {ad : Nat → Nat} {cy : Nat → ClassId} {σ : Sg} {A : Nat → Prop} {own : String} {index : Nat} {Ts : List Cond}
abbrev xPre (G : va_G) (ad : Nat → Nat) (cy : Nat → ClassId) (as : List Value) (σ : Sg) (sz : Nat) : Array Value → State → Prop := va_Pc as (fun U => U.heap.size = sz ∧ va_P G vwCl (cW ad cy σ) U.heap ∧ va_K G vwCl (cT cy) U ∧ xE (cA ad sz) U U.heap)
abbrev xX (G : va_G) (ad : Nat → Nat) (cy : Nat → ClassId) (code : Nat) (σ : Sg) (sz : Nat) : String → State → State → Prop := vx_X (fun u : Sg => u = σ) (fun E u t => xN code E ∧ cB G ad cy u t) (cA ad sz)
abbrev xQv (G : va_G) (ad : Nat → Nat) (cy : Nat → ClassId) (code : Nat) (σ' : Sg) (sz : Nat) := va_Qv (fun u : Sg => code = 0 ∧ u = σ') (cB G ad cy) (cA ad sz)
abbrev xQi (G : va_G) (ad : Nat → Nat) (cy : Nat → ClassId) (code : Nat) (r : Int) (σ' : Sg) (sz : Nat) := va_Qi (fun (v : Int32) (u : Sg) => code = 0 ∧ v = iI r ∧ u = σ') (cB G ad cy) (cA ad sz)
abbrev xQq (G : va_G) (ad : Nat → Nat) (cy : Nat → ClassId) (code : Nat) (r : Nat) (σ' : Sg) (sz : Nat) := va_Qq (fun (v : Option Nat) (u : Sg) => code = 0 ∧ v = some r ∧ u = σ') (cB G ad cy) (cA ad sz)
abbrev xMv (l : Launch) (y : MethodName) (ws : List Cond) (rm : Room) (G : va_G) (ad : Nat → Nat) (cy : Nat → ClassId) (as : List Value) (σ : Sg) (code : Nat) (σ' : Sg) (n : Nat) : Prop := ∀ sz, vx_Met l y ws rm (xPre G ad cy as σ sz) (xQv G ad cy code σ' sz) (xX G ad cy code σ sz) n (6 * n) (cA ad sz)
abbrev xMi (l : Launch) (y : MethodName) (ws : List Cond) (rm : Room) (G : va_G) (ad : Nat → Nat) (cy : Nat → ClassId) (as : List Value) (σ : Sg) (code : Nat) (r : Int) (σ' : Sg) (n : Nat) : Prop := ∀ sz, vx_Met l y ws rm (xPre G ad cy as σ sz) (xQi G ad cy code r σ' sz) (xX G ad cy code σ sz) n (6 * n) (cA ad sz)
abbrev xMq (l : Launch) (y : MethodName) (ws : List Cond) (rm : Room) (G : va_G) (ad : Nat → Nat) (cy : Nat → ClassId) (as : List Value) (σ : Sg) (code : Nat) (r : Nat) (σ' : Sg) (n : Nat) : Prop := ∀ sz, vx_Met l y ws rm (xPre G ad cy as σ sz) (xQq G ad cy code r σ' sz) (xX G ad cy code σ sz) n (6 * n) (cA ad sz)
theorem xPre_blind {as : List Value} {sz : Nat} : FrameBlind (xPre G ad cy as σ sz) := fun a U g mk q => ⟨q.1, q.2.1, q.2.2.1, va_K.moved (u := U) (U := U.calling g mk a) (Vm.Alike.refl U.vm) q.2.2.2.1, xE_blind q.2.2.2.2⟩
variable {y : MethodName} {bytes : ByteArray} {maxL nL n k : Nat} {ret : Option FieldType} {ws : List Cond} {rm : Room} {C : String} {b : Addr} {As st0 : List Value} {σ' : Sg} {r : Int} {code : Nat}
/-- a static call that returns or throws -/
theorem k_xsv (S : CallFix p m c cc nL s args Ts own) (hM : xMv l y ws rm G ad cy As σ code σ' k) (cw : CallB R s args own index y bytes maxL ret ws rm k (6 * k) n ∧ (Cond.static y).before args s = true) (hAc : ∀ j, j < 33 → A (ad j)) (hA : ∀ q, s.heap.size ≤ q → A q) (hK : va_K G vwCl (cT cy) s) (hX : xE A s s.heap) (hP : va_P G vwCl (cW ad cy σ) H) (hS : va_S A s.heap H locs) (hn : As.length = n) (hsize : ls.size = nL) (hst : st0 = As.reverse ++ rest) (hW : (rest.map fun v => v.category).sum ≤ 8) (hd : decode cc pc = .ok (.invokestatic index, 3)) (hf : cells + k ≤ R.cells ∧ slots + 6 * k ≤ R.slots)
    (kx : ∀ (E : String) (ce : Cell) (q9 : Addr) (H : Heap) (locs : List Loc), xN code E → va_P G vwCl (cW ad cy σ) H → va_S A s.heap H locs → H[q9]? = some ce → ce.vm = .none → s.vm.findClass E = some ce.cls → vx_W p l e R s m args below meth c H locs (cells + k) (slots + 6 * k) Q (F0 m pc ls rest) q9)
    (kk : code = 0 → ∀ (H : Heap) (locs : List Loc), va_P G vwCl (cW ad cy σ') H → va_S A s.heap H locs → W p l e R s m args below meth c H locs (cells + k) (slots + 6 * k) Q (F0 m (pc + 3) ls rest)) : W p l e R s m args below meth c H locs cells slots Q (F0 m pc ls st0) :=
  vx_callv (vx_runS S (hM H.size) cw ⟨xPre_blind, fun U hU hW => ⟨rfl, by rw [hU], by rw [hU]; exact hP, va_K.moved hW.alike hK, xE_to hX hS (cA_to hAc hA hS rfl) hU hW⟩⟩ rfl hn hsize hst (by simpa [JFrame.monitorRoom] using hW) hd hf) hS (fun q _ h => cA_to hAc hA hS rfl q h) (cA_to hAc hA hS rfl) (fun q _ h => cA_to hAc hA hS rfl q h)
    (fun E ce q9 u t H1 locs1 ht hvm hw hB _ _ hS1 h1 h2 h3 => by
      subst hw; subst ht
      exact kx E ce q9 _ _ hB.1 hB.2.1 hS1 h1 h2 h3)
    (fun u t H1 locs1 ht hvm hw hB _ _ hS1 => by
      obtain ⟨h0, rfl⟩ := hw; subst ht
      exact kk h0 _ _ hB.1 hS1)
theorem k_xv (S : CallFix p m c cc nL s args Ts own) (hM : xMv l y ws rm G ad cy (.ref b :: As) σ code σ' k) (cw : CallW R s args own C index y bytes maxL ret ws rm k (6 * k) n) (hr : ∃ cell : Cell, H[b]? = some cell ∧ cell.vm.isStatics = false ∧ s.vm.findClass C = some cell.cls) (hAc : ∀ j, j < 33 → A (ad j)) (hA : ∀ q, s.heap.size ≤ q → A q) (hK : va_K G vwCl (cT cy) s) (hX : xE A s s.heap) (hP : va_P G vwCl (cW ad cy σ) H) (hS : va_S A s.heap H locs) (hn : As.length = n) (hsize : ls.size = nL) (hst : st0 = As.reverse ++ .ref b :: rest) (hW : (rest.map fun v => v.category).sum ≤ 8) (hd : decode cc pc = .ok (.invokevirtual index, 3)) (hf : cells + k ≤ R.cells ∧ slots + 6 * k ≤ R.slots)
    (kx : ∀ (E : String) (ce : Cell) (q9 : Addr) (H : Heap) (locs : List Loc), xN code E → va_P G vwCl (cW ad cy σ) H → va_S A s.heap H locs → H[q9]? = some ce → ce.vm = .none → s.vm.findClass E = some ce.cls → vx_W p l e R s m args below meth c H locs (cells + k) (slots + 6 * k) Q (F0 m pc ls rest) q9)
    (kk : code = 0 → ∀ (H : Heap) (locs : List Loc), va_P G vwCl (cW ad cy σ') H → va_S A s.heap H locs → W p l e R s m args below meth c H locs (cells + k) (slots + 6 * k) Q (F0 m (pc + 3) ls rest)) : W p l e R s m args below meth c H locs cells slots Q (F0 m pc ls st0) :=
  vx_callv (vx_runV S (hM H.size) cw ⟨xPre_blind, hr, fun U hU hW => ⟨rfl, by rw [hU], by rw [hU]; exact hP, va_K.moved hW.alike hK, xE_to hX hS (cA_to hAc hA hS rfl) hU hW⟩⟩ rfl hn hsize hst (by simpa [JFrame.monitorRoom] using hW) hd hf) hS (fun q _ h => cA_to hAc hA hS rfl q h) (cA_to hAc hA hS rfl) (fun q _ h => cA_to hAc hA hS rfl q h)
    (fun E ce q9 u t H1 locs1 ht hvm hw hB _ _ hS1 h1 h2 h3 => by
      subst hw; subst ht
      exact kx E ce q9 _ _ hB.1 hB.2.1 hS1 h1 h2 h3)
    (fun u t H1 locs1 ht hvm hw hB _ _ hS1 => by
      obtain ⟨h0, rfl⟩ := hw; subst ht
      exact kk h0 _ _ hB.1 hS1)
theorem k_xi (S : CallFix p m c cc nL s args Ts own) (hM : xMi l y ws rm G ad cy (.ref b :: As) σ code r σ' k) (cw : CallW R s args own C index y bytes maxL ret ws rm k (6 * k) n) (hr : ∃ cell : Cell, H[b]? = some cell ∧ cell.vm.isStatics = false ∧ s.vm.findClass C = some cell.cls) (hAc : ∀ j, j < 33 → A (ad j)) (hA : ∀ q, s.heap.size ≤ q → A q) (hK : va_K G vwCl (cT cy) s) (hX : xE A s s.heap) (hP : va_P G vwCl (cW ad cy σ) H) (hS : va_S A s.heap H locs) (hn : As.length = n) (hsize : ls.size = nL) (hst : st0 = As.reverse ++ .ref b :: rest) (hW : (rest.map fun v => v.category).sum ≤ 8) (hd : decode cc pc = .ok (.invokevirtual index, 3)) (hf : cells + k ≤ R.cells ∧ slots + 6 * k ≤ R.slots)
    (kx : ∀ (E : String) (ce : Cell) (q9 : Addr) (H : Heap) (locs : List Loc), xN code E → va_P G vwCl (cW ad cy σ) H → va_S A s.heap H locs → H[q9]? = some ce → ce.vm = .none → s.vm.findClass E = some ce.cls → vx_W p l e R s m args below meth c H locs (cells + k) (slots + 6 * k) Q (F0 m pc ls rest) q9)
    (kk : code = 0 → ∀ (H : Heap) (locs : List Loc), va_P G vwCl (cW ad cy σ') H → va_S A s.heap H locs → W p l e R s m args below meth c H locs (cells + k) (slots + 6 * k) Q (F0 m (pc + 3) ls (.int (iI r) :: rest))) : W p l e R s m args below meth c H locs cells slots Q (F0 m pc ls st0) :=
  vx_calli (vx_runV S (hM H.size) cw ⟨xPre_blind, hr, fun U hU hW => ⟨rfl, by rw [hU], by rw [hU]; exact hP, va_K.moved hW.alike hK, xE_to hX hS (cA_to hAc hA hS rfl) hU hW⟩⟩ rfl hn hsize hst (by simpa [JFrame.monitorRoom] using hW) hd hf) hS (fun q _ h => cA_to hAc hA hS rfl q h) (cA_to hAc hA hS rfl) (fun q _ h => cA_to hAc hA hS rfl q h)
    (fun E ce q9 u t H1 locs1 ht hvm hw hB _ _ hS1 h1 h2 h3 => by
      subst hw; subst ht
      exact kx E ce q9 _ _ hB.1 hB.2.1 hS1 h1 h2 h3)
    (fun r1 u t H1 locs1 ht hvm hw hB _ _ hS1 => by
      obtain ⟨h0, rfl, rfl⟩ := hw; subst ht
      exact kk h0 _ _ hB.1 hS1)
theorem k_xq {rr : Nat} (S : CallFix p m c cc nL s args Ts own) (hM : xMq l y ws rm G ad cy (.ref b :: As) σ code rr σ' k) (cw : CallW R s args own C index y bytes maxL ret ws rm k (6 * k) n) (hr : ∃ cell : Cell, H[b]? = some cell ∧ cell.vm.isStatics = false ∧ s.vm.findClass C = some cell.cls) (hAc : ∀ j, j < 33 → A (ad j)) (hA : ∀ q, s.heap.size ≤ q → A q) (hK : va_K G vwCl (cT cy) s) (hX : xE A s s.heap) (hP : va_P G vwCl (cW ad cy σ) H) (hS : va_S A s.heap H locs) (hn : As.length = n) (hsize : ls.size = nL) (hst : st0 = As.reverse ++ .ref b :: rest) (hW : (rest.map fun v => v.category).sum ≤ 8) (hd : decode cc pc = .ok (.invokevirtual index, 3)) (hf : cells + k ≤ R.cells ∧ slots + 6 * k ≤ R.slots)
    (kx : ∀ (E : String) (ce : Cell) (q9 : Addr) (H : Heap) (locs : List Loc), xN code E → va_P G vwCl (cW ad cy σ) H → va_S A s.heap H locs → H[q9]? = some ce → ce.vm = .none → s.vm.findClass E = some ce.cls → vx_W p l e R s m args below meth c H locs (cells + k) (slots + 6 * k) Q (F0 m pc ls rest) q9)
    (kk : code = 0 → ∀ (H : Heap) (locs : List Loc), va_P G vwCl (cW ad cy σ') H → va_S A s.heap H locs → W p l e R s m args below meth c H locs (cells + k) (slots + 6 * k) Q (F0 m (pc + 3) ls (.ref rr :: rest))) : W p l e R s m args below meth c H locs cells slots Q (F0 m pc ls st0) := by
  intro T hT X
  have hr0 := vx_runV (locs := locs) (meth := meth) (below := below) (e := e) S (hM H.size) cw ⟨xPre_blind, hr, fun U hU hW => ⟨rfl, by rw [hU], by rw [hU]; exact hP, va_K.moved hW.alike hK, xE_to hX hS (cA_to hAc hA hS rfl) hU hW⟩⟩ (g := F0 m pc ls st0) rfl hn hsize hst (by simpa [JFrame.monitorRoom] using hW) hd hf
  have hAA : ∀ q, q < H.size → cA ad H.size q → A q := fun q _ h => cA_to hAc hA hS rfl q h
  have hff : ∀ q, cA ad H.size q → A q := cA_to hAc hA hS rfl
  rcases hr0 T hT X with ⟨v, st₀, t, T', L, h0, X', hL, e1, e2, ⟨⟨r, u, hv, hp, hb⟩, hF⟩, st⟩ | ⟨q, st₀, t, T', L, E, ce, h0, X', hL, e1, e2, ⟨u, hp, hb, hF⟩, hce, hcv, hcl, st⟩
  · cases hv
    obtain ⟨k0, rfl, rfl⟩ := hp
    obtain ⟨k1, k2, k3⟩ := vx_keep h0 e1 hS hAA hff hL hF
    obtain ⟨t2, a1, b1⟩ := kk k0 T'.heap (locs ++ L) (by rw [e1]; exact hb.1) k3 T' rfl X'
    exact ⟨t2, st t2 a1, b1⟩
  · subst hp
    obtain ⟨k1, k2, k3⟩ := vx_keep h0 e1 hS hAA hff hL hF
    obtain ⟨t2, a1, b1⟩ := kx E ce q T'.heap (locs ++ L) hb.1 (by rw [e1]; exact hb.2.1) k3 (by rw [e1]; exact hce) hcv hcl T' rfl X'
    exact ⟨t2, st.trans a1, b1⟩
/-- the ends of a method that may throw -/
theorem x_vret (hx : p.tables.exec = Jvm.exec) (hb : c.code = cc) (hr : meth.sig.returnType = none) (hlocks : meth.locks = false) (hK : va_K G vwCl (cT cy) s) (hP : va_P G vwCl (cW ad cy σ') H) (hS : va_S (cA ad s.heap.size) s.heap H locs) (h0 : code = 0) (hd : decode cc pc = .ok (.return_, 1)) (hc : cells ≤ k) (hs : slots ≤ 6 * k) : W p l e R s m args below meth c H locs cells slots (vx_MQ below (xQv G ad cy code σ' s.heap.size) (xX G ad cy code σ s.heap.size) args s k (6 * k) (cA ad s.heap.size)) (F0 m pc ls []) :=
  vx_ret (W.widen hc hs (W.vret hx hb hr (fun t ht hW => ⟨⟨_, rfl, ⟨h0, rfl⟩, by rw [ht]; exact hP, va_K.moved hW.alike hK⟩, hS.F ht⟩) hS.2.2 hd hlocks))
theorem x_iret (hx : p.tables.exec = Jvm.exec) (hb : c.code = cc) (hr : meth.sig.returnType = some .int) (hlocks : meth.locks = false) (hK : va_K G vwCl (cT cy) s) (hP : va_P G vwCl (cW ad cy σ') H) (hS : va_S (cA ad s.heap.size) s.heap H locs) (h0 : code = 0) {v : Int} (hv : v = r) (hd : decode cc pc = .ok (.ireturn, 1)) (hc : cells ≤ k) (hs : slots ≤ 6 * k) : W p l e R s m args below meth c H locs cells slots (vx_MQ below (xQi G ad cy code r σ' s.heap.size) (xX G ad cy code σ s.heap.size) args s k (6 * k) (cA ad s.heap.size)) (F0 m pc ls [.int (iI v)]) :=
  vx_ret (W.widen hc hs (W.iret hx hb hr (fun t ht hW => ⟨⟨_, _, rfl, ⟨h0, by rw [hv], rfl⟩, by rw [ht]; exact hP, va_K.moved hW.alike hK⟩, hS.F ht⟩) hS.2.2 hd hlocks))
theorem x_aret {n : String} {rr : Nat} (hx : p.tables.exec = Jvm.exec) (hb : c.code = cc) (hr : meth.sig.returnType = some (.object n)) (hlocks : meth.locks = false) (hK : va_K G vwCl (cT cy) s) (hP : va_P G vwCl (cW ad cy σ') H) (hS : va_S (cA ad s.heap.size) s.heap H locs) (h0 : code = 0) (hd : decode cc pc = .ok (.areturn, 1)) (hc : cells ≤ k) (hs : slots ≤ 6 * k) : W p l e R s m args below meth c H locs cells slots (vx_MQ below (xQq G ad cy code rr σ' s.heap.size) (xX G ad cy code σ s.heap.size) args s k (6 * k) (cA ad s.heap.size)) (F0 m pc ls [.ref rr]) :=
  vx_ret (W.widen hc hs (W.aret hx hb hr (Or.inl ⟨n, rfl⟩) (Or.inr ⟨rr, rfl⟩) (fun t ht hW => ⟨⟨some rr, _, rfl, ⟨h0, rfl, rfl⟩, by rw [ht]; exact hP, va_K.moved hW.alike hK⟩, hS.F ht⟩) hS.2.2 hd hlocks))
/-- a callee's exception goes on to the caller -/
theorem x_out {Qc : Array Value → State → Outcome → State → Prop} {E : String} {ce : Cell} {q9 : Addr} (hno : ∀ x ∈ c.exceptionTable.toList, False) (hlocks : meth.locks = false) (hK : va_K G vwCl (cT cy) s) (hP : va_P G vwCl (cW ad cy σ) H) (hS : va_S (cA ad s.heap.size) s.heap H locs) (h1 : H[q9]? = some ce) (h2 : ce.vm = .none) (h3 : s.vm.findClass E = some ce.cls) (hN : xN code E) (hc : cells ≤ k) (hs : slots ≤ 6 * k) : vx_W p l e R s m args below meth c H locs cells slots (vx_MQ below Qc (xX G ad cy code σ s.heap.size) args s k (6 * k) (cA ad s.heap.size)) (F0 m pc ls rest) q9 :=
  vx_out (fun x hx => (hno x hx).elim) hlocks h1 h2 h3 (fun t ht hvm => ⟨σ, rfl, ⟨hN, by rw [ht]; exact hP, va_K.moved hvm hK⟩, hS.F ht⟩) hS.2.2 hc hs
/-- its own exception: throw new E(text) -/
theorem x_thr {Qc : Array Value → State → Outcome → State → Prop} {cls text : String} {ik is ic : Nat} (hfl : l.stackTraces = false) (hx : p.tables.exec = Jvm.exec) (hb : c.code = cc) (hown : s.vm.findClass RX2 = some m.cls) (hcls : Bundle.fit cls = true) (hnames : ∀ n ∈ nUp, Bundle.fit n = true) (hk : (Cond.classLink RX2 ik cls).before args s = true) (hini : (Cond.initialized cls).before args s = true) (hst : (is, text) ∈ xSt)
    (h1 : ∀ w ∈ (vx_atS RX2 ic cls nUp).filter goodWord, w.before args s = true) (h2 : ∀ w ∈ (vx_atS RX2 ic cls nUp).filter (fun w => !goodWord w), w ∈ xB) (hgood : ∀ w ∈ Cond.classLink RX2 ik cls :: Cond.initialized cls :: vx_atS RX2 ic cls nUp, vx_ot w = true)
    (hno : ∀ x ∈ c.exceptionTable.toList, False) (hlocks : meth.locks = false) (hK : va_K G vwCl (cT cy) s) (hX : xE (cA ad s.heap.size) s s.heap) (hP : va_P G vwCl (cW ad cy σ) H) (hS : va_S (cA ad s.heap.size) s.heap H locs) (hsize : ls.size = c.maxLocals) (hN : xN code cls)
    (d0 : decode cc pc = .ok (.new ik, 3)) (d3 : decode cc (pc + 3) = .ok (.dup, 1)) (d4 : decode cc (pc + 4) = .ok (.ldc is, 2)) (d6 : decode cc (pc + 6) = .ok (.invokespecial ic, 3)) (d9 : decode cc (pc + 9) = .ok (.athrow, 1))
    (hRf : 5 < R.frames) (hRl : (rest.map fun v => v.category).sum + 82 ≤ R.locals) (hRc : cells + 1 ≤ R.cells) (hRs : slots + 6 ≤ R.slots) (hc : cells + 1 ≤ k) (hs : slots + 6 ≤ 6 * k) : W p l e R s m args below meth c H locs cells slots (vx_MQ below Qc (xX G ad cy code σ s.heap.size) args s k (6 * k) (cA ad s.heap.size)) (F0 m pc ls rest) := by
  obtain ⟨⟨hU, hN2⟩, hB, hstr⟩ := hX
  obtain ⟨sa, hsa⟩ := hstr _ hst
  exact vx_throwS hx hb hfl hown hcls hnames hk hini hsa (vx_hat h1 h2 (xB_use hB)) hgood hU hN2 hS hsize d0 d3 d4 d6 d9 (fun x hx => (hno x hx).elim) hRf hRl hRc hRs hlocks
    (fun t hvm hsz hkp => ⟨σ, rfl, ⟨hN, hP.kept (fun k q hk => hkp _ (vx_lt hP hk)), va_K.moved hvm hK⟩, ⟨Nat.le_trans hS.1 hsz, fun q h1 h2 => (hkp q (Nat.lt_of_lt_of_le h1 hS.1)).trans (hS.2.1 q h1 h2)⟩⟩) hS.2.2 hc hs
end KX
theorem nUp_fit : ∀ n ∈ nUp, Bundle.fit n = true := by decide +kernel
theorem fitIO : Bundle.fit nIO = true := by decide +kernel
theorem fitIA : Bundle.fit nIA = true := by decide +kernel
theorem fitIS : Bundle.fit nIS = true := by decide +kernel
theorem xbIO : ∀ w ∈ (vx_atS RX2 41 nIO nUp).filter (fun w => !goodWord w), w ∈ xB := by decide +kernel
theorem xbIA : ∀ w ∈ (vx_atS RX2 179 nIA nUp).filter (fun w => !goodWord w), w ∈ xB := by decide +kernel
theorem xbIS : ∀ w ∈ (vx_atS RX2 184 nIS nUp).filter (fun w => !goodWord w), w ∈ xB := by decide +kernel
theorem xgIO : ∀ w ∈ Cond.classLink RX2 37 nIO :: Cond.initialized nIO :: vx_atS RX2 41 nIO nUp, vx_ot w = true := by decide +kernel
theorem xgIA : ∀ w ∈ Cond.classLink RX2 175 nIA :: Cond.initialized nIA :: vx_atS RX2 179 nIA nUp, vx_ot w = true := by decide +kernel
theorem xgIS : ∀ w ∈ Cond.classLink RX2 180 nIS :: Cond.initialized nIS :: vx_atS RX2 184 nIS nUp, vx_ot w = true := by decide +kernel
theorem xN1 : xN 1 nIO := Or.inl ⟨rfl, rfl⟩
theorem xN2 : xN 2 nIA := Or.inr (Or.inl ⟨rfl, rfl⟩)
theorem xN3 : xN 3 nIS := Or.inr (Or.inr ⟨rfl, rfl⟩)
