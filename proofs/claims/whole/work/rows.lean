section
-- ===== PART A: goes FIRST, ahead of the names: the tables' words, and 'selects' of the private methods out of them =====
/-- a private method of a class that the tables say can be made, by its rows of tables_1 -/
def lw_okq (q : MethodName × Nat) : Prop := (q.1.cls ≠ "java/lang/invoke/MethodHandle" ∧ q.1.cls ≠ "java/lang/invoke/VarHandle") ∧ Cond.instantiable q.1.cls q.2 ∈ tables_1 ∧ Cond.privateMethod q.1 ∈ tables_1 ∧ Cond.instanceMethod q.1 ∈ tables_1
theorem lw_p0 : lw_okq (⟨"HarvestLender", "cropAt", "(I)LHarvestLender$Crop;"⟩, 5) := ⟨⟨by decide +kernel, by decide +kernel⟩, List.mem_of_getElem? (i := 13) (by decide +kernel), List.mem_of_getElem? (i := 157) (by decide +kernel), List.mem_of_getElem? (i := 158) (by decide +kernel)⟩
theorem lw_p1 : lw_okq (⟨"java/lang/Throwable", "fillInStackTrace", "(I)Ljava/lang/Throwable;"⟩, 6) := ⟨⟨by decide +kernel, by decide +kernel⟩, List.mem_of_getElem? (i := 199) (by decide +kernel), List.mem_of_getElem? (i := 197) (by decide +kernel), List.mem_of_getElem? (i := 198) (by decide +kernel)⟩
theorem lw_p2 : lw_okq (⟨"HarvestLender", "farmerAt", "(I)LHarvestLender$Farmer;"⟩, 5) := ⟨⟨by decide +kernel, by decide +kernel⟩, List.mem_of_getElem? (i := 13) (by decide +kernel), List.mem_of_getElem? (i := 292) (by decide +kernel), List.mem_of_getElem? (i := 293) (by decide +kernel)⟩
theorem lw_p3 : lw_okq (⟨"HarvestLender", "limitOf", "(LHarvestLender$Farmer;)I"⟩, 5) := ⟨⟨by decide +kernel, by decide +kernel⟩, List.mem_of_getElem? (i := 13) (by decide +kernel), List.mem_of_getElem? (i := 320) (by decide +kernel), List.mem_of_getElem? (i := 321) (by decide +kernel)⟩
theorem lw_p4 : lw_okq (⟨"HarvestLender", "harvestAll", "()V"⟩, 5) := ⟨⟨by decide +kernel, by decide +kernel⟩, List.mem_of_getElem? (i := 13) (by decide +kernel), List.mem_of_getElem? (i := 349) (by decide +kernel), List.mem_of_getElem? (i := 350) (by decide +kernel)⟩
theorem lw_p5 : lw_okq (⟨"HarvestLender", "settleRest", "(LHarvestLender$Farmer;)V"⟩, 5) := ⟨⟨by decide +kernel, by decide +kernel⟩, List.mem_of_getElem? (i := 13) (by decide +kernel), List.mem_of_getElem? (i := 431) (by decide +kernel), List.mem_of_getElem? (i := 432) (by decide +kernel)⟩
theorem lw_p6 : lw_okq (⟨"HarvestLender", "collectFromGroup", "(LHarvestLender$Farmer;)V"⟩, 5) := ⟨⟨by decide +kernel, by decide +kernel⟩, List.mem_of_getElem? (i := 13) (by decide +kernel), List.mem_of_getElem? (i := 445) (by decide +kernel), List.mem_of_getElem? (i := 446) (by decide +kernel)⟩
theorem lw_p7 : lw_okq (⟨"HarvestLenderModel", "refused", "(I)Z"⟩, 24) := ⟨⟨by decide +kernel, by decide +kernel⟩, List.mem_of_getElem? (i := 525) (by decide +kernel), List.mem_of_getElem? (i := 619) (by decide +kernel), List.mem_of_getElem? (i := 620) (by decide +kernel)⟩
theorem lw_p8 : lw_okq (⟨"HarvestLenderModel", "clear", "(I)V"⟩, 24) := ⟨⟨by decide +kernel, by decide +kernel⟩, List.mem_of_getElem? (i := 525) (by decide +kernel), List.mem_of_getElem? (i := 631) (by decide +kernel), List.mem_of_getElem? (i := 632) (by decide +kernel)⟩
theorem lw_p9 : lw_okq (⟨"HarvestLenderModel", "fine", "(I)I"⟩, 24) := ⟨⟨by decide +kernel, by decide +kernel⟩, List.mem_of_getElem? (i := 525) (by decide +kernel), List.mem_of_getElem? (i := 639) (by decide +kernel), List.mem_of_getElem? (i := 640) (by decide +kernel)⟩
theorem lw_p10 : lw_okq (⟨"HarvestLenderModel", "isFarmer", "(I)Z"⟩, 24) := ⟨⟨by decide +kernel, by decide +kernel⟩, List.mem_of_getElem? (i := 525) (by decide +kernel), List.mem_of_getElem? (i := 647) (by decide +kernel), List.mem_of_getElem? (i := 648) (by decide +kernel)⟩
theorem lw_p11 : lw_okq (⟨"HarvestLenderModel", "limitOf", "(I)I"⟩, 24) := ⟨⟨by decide +kernel, by decide +kernel⟩, List.mem_of_getElem? (i := 525) (by decide +kernel), List.mem_of_getElem? (i := 651) (by decide +kernel), List.mem_of_getElem? (i := 652) (by decide +kernel)⟩
theorem lw_p12 : lw_okq (⟨"HarvestLenderModel", "charge", "(II)V"⟩, 24) := ⟨⟨by decide +kernel, by decide +kernel⟩, List.mem_of_getElem? (i := 525) (by decide +kernel), List.mem_of_getElem? (i := 664) (by decide +kernel), List.mem_of_getElem? (i := 665) (by decide +kernel)⟩
theorem lw_p13 : lw_okq (⟨"HarvestLenderModel", "harvest", "(I)V"⟩, 24) := ⟨⟨by decide +kernel, by decide +kernel⟩, List.mem_of_getElem? (i := 525) (by decide +kernel), List.mem_of_getElem? (i := 678) (by decide +kernel), List.mem_of_getElem? (i := 679) (by decide +kernel)⟩
theorem lw_p14 : lw_okq (⟨"HarvestLenderModel", "come", "(III)V"⟩, 24) := ⟨⟨by decide +kernel, by decide +kernel⟩, List.mem_of_getElem? (i := 525) (by decide +kernel), List.mem_of_getElem? (i := 682) (by decide +kernel), List.mem_of_getElem? (i := 683) (by decide +kernel)⟩
theorem lw_p15 : lw_okq (⟨"HarvestLenderModel", "lower", "(III)V"⟩, 24) := ⟨⟨by decide +kernel, by decide +kernel⟩, List.mem_of_getElem? (i := 525) (by decide +kernel), List.mem_of_getElem? (i := 686) (by decide +kernel), List.mem_of_getElem? (i := 687) (by decide +kernel)⟩
def lw_privs_1 : List (MethodName × Nat) := [(⟨"HarvestLender", "cropAt", "(I)LHarvestLender$Crop;"⟩, 5), (⟨"java/lang/Throwable", "fillInStackTrace", "(I)Ljava/lang/Throwable;"⟩, 6), (⟨"HarvestLender", "farmerAt", "(I)LHarvestLender$Farmer;"⟩, 5), (⟨"HarvestLender", "limitOf", "(LHarvestLender$Farmer;)I"⟩, 5), (⟨"HarvestLender", "harvestAll", "()V"⟩, 5), (⟨"HarvestLender", "settleRest", "(LHarvestLender$Farmer;)V"⟩, 5), (⟨"HarvestLender", "collectFromGroup", "(LHarvestLender$Farmer;)V"⟩, 5), (⟨"HarvestLenderModel", "refused", "(I)Z"⟩, 24), (⟨"HarvestLenderModel", "clear", "(I)V"⟩, 24), (⟨"HarvestLenderModel", "fine", "(I)I"⟩, 24), (⟨"HarvestLenderModel", "isFarmer", "(I)Z"⟩, 24), (⟨"HarvestLenderModel", "limitOf", "(I)I"⟩, 24), (⟨"HarvestLenderModel", "charge", "(II)V"⟩, 24), (⟨"HarvestLenderModel", "harvest", "(I)V"⟩, 24), (⟨"HarvestLenderModel", "come", "(III)V"⟩, 24), (⟨"HarvestLenderModel", "lower", "(III)V"⟩, 24)]
theorem lw_r1 : ∀ q ∈ lw_privs_1, lw_okq q := List.forall_mem_cons.mpr ⟨lw_p0, List.forall_mem_cons.mpr ⟨lw_p1, List.forall_mem_cons.mpr ⟨lw_p2, List.forall_mem_cons.mpr ⟨lw_p3, List.forall_mem_cons.mpr ⟨lw_p4, List.forall_mem_cons.mpr ⟨lw_p5, List.forall_mem_cons.mpr ⟨lw_p6, List.forall_mem_cons.mpr ⟨lw_p7, List.forall_mem_cons.mpr ⟨lw_p8, List.forall_mem_cons.mpr ⟨lw_p9, List.forall_mem_cons.mpr ⟨lw_p10, List.forall_mem_cons.mpr ⟨lw_p11, List.forall_mem_cons.mpr ⟨lw_p12, List.forall_mem_cons.mpr ⟨lw_p13, List.forall_mem_cons.mpr ⟨lw_p14, List.forall_mem_cons.mpr ⟨lw_p15, fun _ h => absurd h List.not_mem_nil⟩⟩⟩⟩⟩⟩⟩⟩⟩⟩⟩⟩⟩⟩⟩⟩
theorem lw_p16 : lw_okq (⟨"HarvestLenderModel", "settle", "(I)V"⟩, 24) := ⟨⟨by decide +kernel, by decide +kernel⟩, List.mem_of_getElem? (i := 525) (by decide +kernel), List.mem_of_getElem? (i := 708) (by decide +kernel), List.mem_of_getElem? (i := 709) (by decide +kernel)⟩
theorem lw_p17 : lw_okq (⟨"HarvestLenderModel", "roll", "(I)V"⟩, 24) := ⟨⟨by decide +kernel, by decide +kernel⟩, List.mem_of_getElem? (i := 525) (by decide +kernel), List.mem_of_getElem? (i := 712) (by decide +kernel), List.mem_of_getElem? (i := 713) (by decide +kernel)⟩
theorem lw_p18 : lw_okq (⟨"HarvestLenderModel", "call", "(I)V"⟩, 24) := ⟨⟨by decide +kernel, by decide +kernel⟩, List.mem_of_getElem? (i := 525) (by decide +kernel), List.mem_of_getElem? (i := 716) (by decide +kernel), List.mem_of_getElem? (i := 717) (by decide +kernel)⟩
theorem lw_p19 : lw_okq (⟨"HarvestLenderModel", "noFarmer", "(I)Z"⟩, 24) := ⟨⟨by decide +kernel, by decide +kernel⟩, List.mem_of_getElem? (i := 525) (by decide +kernel), List.mem_of_getElem? (i := 732) (by decide +kernel), List.mem_of_getElem? (i := 733) (by decide +kernel)⟩
def lw_privs_2 : List (MethodName × Nat) := [(⟨"HarvestLenderModel", "settle", "(I)V"⟩, 24), (⟨"HarvestLenderModel", "roll", "(I)V"⟩, 24), (⟨"HarvestLenderModel", "call", "(I)V"⟩, 24), (⟨"HarvestLenderModel", "noFarmer", "(I)Z"⟩, 24)]
theorem lw_r2 : ∀ q ∈ lw_privs_2, lw_okq q := List.forall_mem_cons.mpr ⟨lw_p16, List.forall_mem_cons.mpr ⟨lw_p17, List.forall_mem_cons.mpr ⟨lw_p18, List.forall_mem_cons.mpr ⟨lw_p19, fun _ h => absurd h List.not_mem_nil⟩⟩⟩⟩
def lw_privs : List (MethodName × Nat) := lw_privs_1 ++ (lw_privs_2)
def lw_tbl : List Cond := k2_sels lw_privs ++ tables_1
theorem lw_privs_ok : ∀ q ∈ lw_privs, lw_okq q := by
  show ∀ q ∈ lw_privs_1 ++ (lw_privs_2), lw_okq q
  exact List.forall_mem_append.mpr ⟨lw_r1, lw_r2⟩
end
section
/-! ===== BEGIN words of one list among another's, by their places ===== -/
theorem goodIn_r {big : List Cond} (ws : List Cond) (ps : List Nat) (hp : ws = ps.filterMap (fun i => big[i]?)) (h : ws.all goodWord = true) : GoodIn big ws := by
  intro w hw
  have h1 := List.all_eq_true.mp h w hw
  rw [hp] at hw
  obtain ⟨i, -, hi⟩ := List.mem_filterMap.mp hw
  have hm : w ∈ big := by first | exact List.mem_of_getElem? hi | exact List.getElem?_mem hi
  exact ⟨hm, good_of_word h1⟩
theorem goodIn_app {big a b : List Cond} (ha : GoodIn big a) (hb : GoodIn big b) : GoodIn big (a ++ b) := fun w h => (List.mem_append.mp h).elim (ha w) (hb w)
theorem goodIn_ca {big a b : List Cond} {c : Cond} (ha : GoodIn big (c :: a)) (hb : GoodIn big b) : GoodIn big (c :: (a ++ b)) := fun w h => (List.mem_cons.mp h).elim (fun e => ha w (List.mem_cons.mpr (Or.inl e))) (fun h => (List.mem_append.mp h).elim (fun h => ha w (List.mem_cons.mpr (Or.inr h))) (hb w))
theorem goodIn_sub {big ws : List Cond} (hm : ∀ w ∈ ws, w ∈ big) (h : ws.all goodWord = true) : GoodIn big ws := fun w hw => ⟨hm w hw, good_of_word (List.all_eq_true.mp h w hw)⟩
/-! ===== END ===== -/

/-! ===== BEGIN exceptions that leave a method, and their catching by the caller (launches without stack traces) ===== -/
section VXA
/-! The laws vx_back, vx_callV, vx_callS, vx_callSW, vx_throw0, vx_throwS follow proofs of the library, with one case more: JvmDerived/Free/Laws.lean (Back.of_free), Shelf42/LK1.lean (callV, callS), Shelf/KitTraced.lean (throwNew0V, throwNewS). -/
/-- where a method has thrown q: the class by its name, the cell, what was written, the world -/
def vx_T (XC : String → State → State → Prop) (st : State) (q : Addr) (t : State) (mc ms : Nat) (free : Addr → Prop) : Prop :=
  ∃ (E : String) (ce : Cell) (L : List Loc), XC E st t ∧ t.heap[q]? = some ce ∧ ce.vm = .none ∧ st.vm.findClass E = some ce.cls ∧ st.WarmedH t.vm ∧ st.sameButNew ({ t with vm := st.vm } : State) L mc ms ∧ ∀ z ∈ L, free z.base
def vx_Q (Qc : Array Value → State → Outcome → State → Prop) (XC : String → State → State → Prop) (mc ms : Nat) (free : Addr → Prop) : Array Value → State → Outcome → State → Prop := fun a st o t =>
  (Qc a st o t ∧ ∃ L, FrameEnd st o t L mc ms ∧ ∀ q ∈ L, free q.base) ∨ ∃ q, o = .threw q ∧ vx_T XC st q t mc ms free
/-- a callee that returns or throws -/
def vx_Met (l : Launch) (y : MethodName) (ws : List Cond) (rm : Room) (Pc : Array Value → State → Prop) (Qc : Array Value → State → Outcome → State → Prop) (XC : String → State → State → Prop) (mc ms : Nat) (free : Addr → Prop) : Prop :=
  MetFree l y (headSpec ws rm) Pc (fun _ _ _ _ _ => True) (vx_Q Qc XC mc ms free)
def vx_Post (XC : String → State → State → Prop) (mc ms : Nat) (free : Addr → Prop) : Pt → Array Value → Addr → Pt → Prop := fun A a q B =>
  ∃ (g : JFrame) (mk : MethodId) (t : State) (L : List Loc) (E : String) (ce : Cell), B.U.heap = t.heap ∧ B.U.vm = t.vm ∧ XC E (A.U.calling g mk a) t ∧ t.heap[q]? = some ce ∧ ce.vm = .none ∧ A.U.vm.findClass E = some ce.cls ∧ B.locs = A.locs ++ L ∧ (∀ z ∈ L, free z.base) ∧ B.cells = A.cells + mc ∧ B.slots = A.slots + ms
def vx_Back (l : Launch) (R : Room) (p : Program) (e : Env) (below : List Frame) (s : State) (sargs : Array Value) (y : MethodName) (len W9 : Nat)
    (Pre : Pt → Array Value → Prop) (Post : Pt → Array Value → Option Value → Pt → Prop) (PostX : Pt → Array Value → Addr → Pt → Prop) : Prop :=
  ∀ (m : MethodId) (meth : Method) (c : Code) (A : Pt) (g : JFrame) (ig : Instr) (mk : MethodId) (a : Array Value),
    Stand p l e R s m sargs below meth c A.U A.locs A.cells A.slots → g.method = m → g.locals.size = c.maxLocals → decode c.code g.pc = .ok (ig, len) →
    2 * g.monitorRoom + (g.stack.map fun v => v.category).sum ≤ W9 → A.U.methodNamed? y = some mk → Pre A a →
    (∃ (v : Option Value) (B : Pt), Stand p l e R s m sargs below meth c B.U B.locs B.cells B.slots ∧ Post A a v B ∧
      Steps p.tables e below (doInvoke e (A.U.setTop g) [] mk a).1 (B.U.setTop { g with pc := g.pc + len, stack := v.toList ++ g.stack })) ∨
    (∃ (q : Addr) (B : Pt), Stand p l e R s m sargs below meth c B.U B.locs B.cells B.slots ∧ PostX A a q B ∧
      Steps p.tables e below (doInvoke e (A.U.setTop g) [] mk a).1 ((B.U.setTop g).pushFrame (.throwing q)))
section Payer
variable {l : Launch} {R : Room} {p : Program} {e : Env} {below : List Frame} {s : State} {sargs : Array Value} {y : MethodName} {len W9 : Nat}
theorem vx_back {ws : List Cond} {rm : Room} {Pc : Array Value → State → Prop} {Qc : Array Value → State → Outcome → State → Prop} {XC : String → State → State → Prop} {mc ms : Nat} {free : Addr → Prop} {bytes : ByteArray} {maxL : Nat} {ret : Option FieldType}
    (hM : vx_Met l y ws rm Pc Qc XC mc ms free) (hblind : FrameBlind Pc) (hrc : rm.cells = mc) (hrs : rm.slots = ms)
    (hframes : rm.frames + 1 ≤ R.frames) (hlocals : W9 + (maxL + 11) + rm.locals ≤ R.locals)
    (hws : ∀ w ∈ ws, ∀ a' U, s.WarmedH U.vm → w.before a' U = true) (hcode : Cond.code y bytes maxL ret ∈ ws) (hinit : ∀ a' U, s.WarmedH U.vm → (Cond.initialized y.cls).before a' U = true) :
    vx_Back l R p e below s sargs y len W9 (PreOf R mc ms Pc) (PostOf Qc mc ms free) (vx_Post XC mc ms free) := by
  intro m meth c A g ig mk a X hg hsize hdg hW hn hp
  have h1 : (headSpec ws rm).pre.before a A.U = true := atoms_intro fun w hw => hws w hw _ _ X.warmed
  have h2 : (Cond.code y bytes maxL ret).before a A.U = true := hws _ hcode _ _ X.warmed
  have h3 : (Cond.initialized y.cls).before a A.U = true := hinit _ _ X.warmed
  have h4 : A.cells + (headSpec ws rm).room.cells ≤ R.cells := by rw [show (headSpec ws rm).room.cells = mc from hrc]; exact hp.1
  have h5 : A.slots + (headSpec ws rm).room.slots ≤ R.slots := by rw [show (headSpec ws rm).room.slots = ms from hrs]; exact hp.2.1
  have hPc : Pc a (A.U.calling g mk a) := hblind _ _ _ _ hp.2.2
  obtain ⟨U, Ls, c0, s0⟩ := A
  dsimp only [Pt.U, Pt.locs, Pt.cells, Pt.slots] at h1 h2 h3 h4 h5 X hn hPc ⊢
  obtain ⟨methY, cY, hmY, hcY, -, hlY, -, -, -, -⟩ := Cond.code_spec hn h2
  obtain ⟨kY, hkY, -⟩ := className_of_methodNamed hn
  have hinitY : kY.init = .initialized := Cond.initialized_spec (findClass_of_methodNamed hn) hkY h3
  have h : At U g.method c below := by rw [hg]; exact X.here
  have hlocals9 : W9 + (maxL + 11) + (headSpec ws rm).room.locals ≤ R.locals := hlocals
  have happ : (headSpec ws rm).appliesLoose y e.platform (U.calling g mk a) = true :=
    Spec.appliesLoose_calling (g := g) h hdg hn hkY hinitY
      (X.room_calling (g := g) (R' := (headSpec ws rm).room) hsize hmY hcY hframes (by rw [hlY]; omega) h4 h5) h1
  obtain ⟨mid, hmid⟩ := h.above
  have hfr : (U.setTop g).frames = (.java g :: mid) ++ below := by rw [State.frames_setTop' g h.top, hmid]; rfl
  obtain ⟨o, s₂, hsteps, -, hend, hq⟩ := Steps.callFree hM p X.admits X.cas X.clock (acts := []) hfr happ hPc trivial
  have hq' : vx_Q Qc XC mc ms free a (U.calling g mk a) o s₂ := hq
  rw [State.frames_setTop' g h.top] at hend
  obtain ⟨g₀, hg0⟩ := Option.isSome_iff_exists.mp h.top
  obtain ⟨r, hr⟩ := State.topJava?_eq_some.mp hg0
  have hr' : (({ U with heap := s₂.heap, slotsUsed := s₂.slotsUsed } : State).setVm s₂.vm).frames = .java g₀ :: r := hr
  rcases hq' with ⟨hqc, L, hfe, hL⟩ | ⟨q, rfl, E, ce, L, hx, hce, hcv, hcl, hW₂, hsm, hL⟩
  · obtain ⟨⟨v, rfl⟩, hW₂, e2, q2, q3, q4, q5, q6⟩ := id hfe
    have e3 : s₂ = ({ (U.calling g mk a).setFrames s₂.frames with heap := s₂.heap, slotsUsed := s₂.slotsUsed } : State).setVm s₂.vm := by
      have : s₂ = ({ s₂ with vm := (U.calling g mk a).vm } : State).setVm s₂.vm := rfl
      rw [e2] at this
      exact this
    obtain ⟨c₂, i₂, len₂, hc₂, hd₂, hf₂⟩ := hend
    have hW' : U.WarmedH s₂.vm := hW₂
    have hcc : c₂ = c := by
      have h1 : s₂.code? g.method = U.code? g.method := by
        rw [State.code?_eq, State.code?_eq, hW'.alike.method?]
      exact Option.some.inj (hc₂.symm.trans (h1.trans h.code))
    subst hcc
    have hlen : len₂ = len := by rw [hdg] at hd₂; cases hd₂; rfl
    subst hlen
    have hs₂ : s₂ = (({ U with heap := s₂.heap, slotsUsed := s₂.slotsUsed } : State).setVm s₂.vm).setTop { g with pc := g.pc + len₂, stack := v.toList ++ g.stack } := by
      refine e3.trans ?_
      rw [hf₂, State.calling_eq h.top, State.setFrames_setFrames, State.setTop_of_frames _ hr', hr]
      rfl
    have hsame : U.sameButNew ({ U with heap := s₂.heap, slotsUsed := s₂.slotsUsed } : State) L mc ms := by
      refine ⟨?_, q2, q3, q4, q5, q6⟩
      obtain ⟨t, ht, -⟩ := State.frames_cons hr
      show ({ U with heap := s₂.heap, slotsUsed := s₂.slotsUsed } : State) = { U.setFrames U.frames with heap := s₂.heap, slotsUsed := s₂.slotsUsed }
      rw [State.setFrames_self ht]
    subst hg
    refine Or.inl ⟨v, ⟨(({ U with heap := s₂.heap, slotsUsed := s₂.slotsUsed } : State).setVm s₂.vm), Ls ++ L, c0 + mc, s0 + ms⟩,
      ⟨X.admits, X.cas, X.clock, X.frames, X.room, X.hears, X.method, X.code, (X.here.setHeapUsed s₂.heap s₂.slotsUsed).setVm hW'.alike, X.tail, State.WarmedH.trans X.warmed hW', X.limits, X.bytes, X.same.trans (hsame.setVm s.vm)⟩,
      ⟨g, mk, s₂, L, rfl, rfl, hqc, rfl, hL, rfl, rfl⟩, ?_⟩
    show Steps p.tables e below _ ((({ U with heap := s₂.heap, slotsUsed := s₂.slotsUsed } : State).setVm s₂.vm).setTop { g with pc := g.pc + len₂, stack := v.toList ++ g.stack })
    rw [← hs₂]
    exact hsteps
  · obtain ⟨e2, q2, q3, q4, q5, q6⟩ := id hsm
    have e3 : s₂ = ({ (U.calling g mk a).setFrames s₂.frames with heap := s₂.heap, slotsUsed := s₂.slotsUsed } : State).setVm s₂.vm := by
      have : s₂ = ({ s₂ with vm := (U.calling g mk a).vm } : State).setVm s₂.vm := rfl
      rw [e2] at this
      exact this
    have hf₂ : s₂.frames = .throwing q :: .java g :: U.frames.tail := hend
    have hW' : U.WarmedH s₂.vm := hW₂
    have hs₂ : s₂ = ((({ U with heap := s₂.heap, slotsUsed := s₂.slotsUsed } : State).setVm s₂.vm).setTop g).pushFrame (.throwing q) := by
      refine e3.trans ?_
      rw [hf₂, State.calling_eq h.top, State.setFrames_setFrames, State.pushFrame, State.frames_setTop _ hr', State.setTop_of_frames _ hr', State.setFrames_setFrames, hr]
      rfl
    have hsame : U.sameButNew ({ U with heap := s₂.heap, slotsUsed := s₂.slotsUsed } : State) L mc ms := by
      refine ⟨?_, q2, q3, q4, q5, q6⟩
      obtain ⟨t, ht, -⟩ := State.frames_cons hr
      show ({ U with heap := s₂.heap, slotsUsed := s₂.slotsUsed } : State) = { U.setFrames U.frames with heap := s₂.heap, slotsUsed := s₂.slotsUsed }
      rw [State.setFrames_self ht]
    subst hg
    refine Or.inr ⟨q, ⟨(({ U with heap := s₂.heap, slotsUsed := s₂.slotsUsed } : State).setVm s₂.vm), Ls ++ L, c0 + mc, s0 + ms⟩,
      ⟨X.admits, X.cas, X.clock, X.frames, X.room, X.hears, X.method, X.code, (X.here.setHeapUsed s₂.heap s₂.slotsUsed).setVm hW'.alike, X.tail, State.WarmedH.trans X.warmed hW', X.limits, X.bytes, X.same.trans (hsame.setVm s.vm)⟩,
      ⟨g, mk, s₂, L, E, ce, rfl, rfl, hx, hce, hcv, hcl, rfl, hL, rfl, rfl⟩, ?_⟩
    show Steps p.tables e below _ (((({ U with heap := s₂.heap, slotsUsed := s₂.slotsUsed } : State).setVm s₂.vm).setTop g).pushFrame (.throwing q))
    rw [← hs₂]
    exact hsteps
end Payer
section Calls
variable {p : Program} {l : Launch} {e : Env} {R : Room} {s : State} {m : MethodId} {args : Array Value} {below : List Frame} {meth : Method} {c : Code} {T : State} {locs : List Loc} {cells slots : Nat}
theorem vx_callV (X : Stand p l e R s m args below meth c T locs cells slots) (hexec : p.tables.exec = Jvm.exec) {own C : String} {index : Nat} {y : MethodName} {bytes : ByteArray} {maxL : Nat} {ret : Option FieldType}
    (hown : s.vm.findClass own = some m.cls) (hlink : (Cond.methodLink own index y).before args s = true) (hinst : (Cond.instanceMethod y).before args s = true) (hsel : (Cond.selects C y y).before args s = true)
    (hcode : (Cond.code y bytes maxL ret).before args s = true) (hy : y.cls ≠ "java/lang/invoke/MethodHandle" ∧ y.cls ≠ "java/lang/invoke/VarHandle")
    {W9 : Nat} {Pre : Pt → Array Value → Prop} {Post : Pt → Array Value → Option Value → Pt → Prop} {PostX : Pt → Array Value → Addr → Pt → Prop} (hK : vx_Back l R p e below s args y 3 W9 Pre Post PostX)
    {b : Addr} {cellB : Cell} (hcell : T.heap[b]? = some cellB) (hobj : cellB.vm.isStatics = false) (hcls : s.vm.findClass C = some cellB.cls)
    {g : JFrame} (hg : g.method = m) (hsize : g.locals.size = c.maxLocals) {argsL rest : List Value} (hlen : ∀ sig, parseMethodDescriptor y.desc = some sig → argsL.length = sig.parameters.length)
    (hstack : g.stack = argsL.reverse ++ .ref b :: rest) (hW : 2 * g.monitorRoom + (rest.map fun v => v.category).sum ≤ W9) (hdg : decode c.code g.pc = .ok (.invokevirtual index, 3))
    (hpre : ∀ vm₁, s.WarmedH vm₁ → Pre ⟨T.setVm vm₁, locs, cells, slots⟩ (Value.ref b :: argsL).toArray) :
    (∃ (v : Option Value) (vm₁ : Vm) (B : Pt), s.WarmedH vm₁ ∧ Stand p l e R s m args below meth c B.U B.locs B.cells B.slots ∧ Post ⟨T.setVm vm₁, locs, cells, slots⟩ (Value.ref b :: argsL).toArray v B ∧
      ∀ target, Steps p.tables e below (B.U.setTop { g with pc := g.pc + 3, stack := v.toList ++ rest }) target → Steps p.tables e below (T.setTop g) target) ∨
    (∃ (q : Addr) (vm₁ : Vm) (B : Pt), s.WarmedH vm₁ ∧ Stand p l e R s m args below meth c B.U B.locs B.cells B.slots ∧ PostX ⟨T.setVm vm₁, locs, cells, slots⟩ (Value.ref b :: argsL).toArray q B ∧
      Steps p.tables e below (T.setTop g) ((B.U.setTop { g with stack := rest }).pushFrame (.throwing q))) := by
  obtain ⟨mk, methM, hnamed, hmethM, hstM, habM⟩ := Cond.instanceMethod_spec hinst
  obtain ⟨methM', cM, hmethM', -, -, -, -, -, -, hsigM⟩ := Cond.code_spec hnamed hcode
  cases hmethM.symm.trans hmethM'
  obtain ⟨c2, r2, m2, q1, q2, q3, q4, kP, hkP, hkPi⟩ := Cond.selects_spec hsel
  cases hcls.symm.trans q1
  cases (State.methodFound?_of_named hnamed hy).symm.trans q2
  cases hnamed.symm.trans q3
  have hselP : selectMethod e.platform s.vm cellB.cls mk = .method mk := by rw [Launch.admits_selectMethod X.admits]; exact q4
  obtain ⟨vm₁, X₁, hstep₁⟩ := X.invokevirtual hexec hown hlink hnamed hmethM hstM hkP hkPi hy (a := b) (cell := cellB) hcell
    (fun z h => by rw [h] at hobj; cases hobj) hselP hmethM habM hkP hkPi (g := g) hg (argsL := argsL) (rest := rest) (hlen _ hsigM) hstack hdg
  rcases hK m meth c ⟨T.setVm vm₁, locs, cells, slots⟩ { g with stack := rest } (.invokevirtual index) mk (Value.ref b :: argsL).toArray X₁ hg hsize hdg hW (X₁.named hnamed) (hpre vm₁ X₁.warmed) with ⟨v, B, X', hpost, hsteps⟩ | ⟨q, B, X', hpost, hsteps⟩
  · exact Or.inl ⟨v, vm₁, B, X₁.warmed, X', hpost, fun target h => hstep₁ _ fun acts => by rw [doInvoke_state]; exact hsteps.trans h⟩
  · exact Or.inr ⟨q, vm₁, B, X₁.warmed, X', hpost, hstep₁ _ fun acts => by rw [doInvoke_state]; exact hsteps⟩
theorem vx_callS (X : Stand p l e R s m args below meth c T locs cells slots) (hexec : p.tables.exec = Jvm.exec) {own : String} {index : Nat} {y : MethodName} {bytes : ByteArray} {maxL : Nat} {ret : Option FieldType}
    (hown : s.vm.findClass own = some m.cls) (hlink : (Cond.methodLink own index y).before args s = true) (hstat : (Cond.static y).before args s = true) (hinit : (Cond.initialized y.cls).before args s = true)
    (hcode : (Cond.code y bytes maxL ret).before args s = true) (hy : y.cls ≠ "java/lang/invoke/MethodHandle" ∧ y.cls ≠ "java/lang/invoke/VarHandle")
    {W9 : Nat} {Pre : Pt → Array Value → Prop} {Post : Pt → Array Value → Option Value → Pt → Prop} {PostX : Pt → Array Value → Addr → Pt → Prop} (hK : vx_Back l R p e below s args y 3 W9 Pre Post PostX)
    {g : JFrame} (hg : g.method = m) (hsize : g.locals.size = c.maxLocals) {argsL rest : List Value} (hlen : ∀ sig, parseMethodDescriptor y.desc = some sig → argsL.length = sig.parameters.length)
    (hstack : g.stack = argsL.reverse ++ rest) (hW : 2 * g.monitorRoom + (rest.map fun v => v.category).sum ≤ W9) (hdg : decode c.code g.pc = .ok (.invokestatic index, 3))
    (hpre : ∀ vm₁, s.WarmedH vm₁ → Pre ⟨T.setVm vm₁, locs, cells, slots⟩ argsL.toArray) :
    (∃ (v : Option Value) (vm₁ : Vm) (B : Pt), s.WarmedH vm₁ ∧ Stand p l e R s m args below meth c B.U B.locs B.cells B.slots ∧ Post ⟨T.setVm vm₁, locs, cells, slots⟩ argsL.toArray v B ∧
      ∀ target, Steps p.tables e below (B.U.setTop { g with pc := g.pc + 3, stack := v.toList ++ rest }) target → Steps p.tables e below (T.setTop g) target) ∨
    (∃ (q : Addr) (vm₁ : Vm) (B : Pt), s.WarmedH vm₁ ∧ Stand p l e R s m args below meth c B.U B.locs B.cells B.slots ∧ PostX ⟨T.setVm vm₁, locs, cells, slots⟩ argsL.toArray q B ∧
      Steps p.tables e below (T.setTop g) ((B.U.setTop { g with stack := rest }).pushFrame (.throwing q))) := by
  obtain ⟨mk, hnamed⟩ := Cond.code_named hcode
  obtain ⟨methM, cM, hmethM, -, -, -, -, -, -, hsigM⟩ := Cond.code_spec hnamed hcode
  have hstatic : methM.isStatic = true := Cond.static_spec hnamed hmethM hstat
  obtain ⟨kP, hkP, -⟩ := className_of_methodNamed hnamed
  have hinitP : kP.init = .initialized := Cond.initialized_spec (findClass_of_methodNamed hnamed) hkP hinit
  obtain ⟨vm₁, X₁, hstep₁⟩ := X.invokestatic hexec hown hlink hnamed hmethM hstatic hkP hinitP hy (g := g) hg (argsL := argsL) (rest := rest) (hlen _ hsigM) hstack hdg
  rcases hK m meth c ⟨T.setVm vm₁, locs, cells, slots⟩ { g with stack := rest } (.invokestatic index) mk argsL.toArray X₁ hg hsize hdg hW (X₁.named hnamed) (hpre vm₁ X₁.warmed) with ⟨v, B, X', hpost, hsteps⟩ | ⟨q, B, X', hpost, hsteps⟩
  · exact Or.inl ⟨v, vm₁, B, X₁.warmed, X', hpost, fun target h => hstep₁ _ fun acts => by rw [doInvoke_state]; exact hsteps.trans h⟩
  · exact Or.inr ⟨q, vm₁, B, X₁.warmed, X', hpost, hstep₁ _ fun acts => by rw [doInvoke_state]; exact hsteps⟩
end Calls
theorem vx_cls {s : State} {T : State} {vm₁ : Vm} {E : String} {k : ClassId} (hW : s.WarmedH vm₁) (h : (T.setVm vm₁).vm.findClass E = some k) : s.vm.findClass E = some k := by
  have h1 : vm₁.findClass E = some k := h
  rw [hW.alike.findClass] at h1
  exact h1
/-- the method's frame g, with q thrown over it -/
def vx_W (p : Program) (l : Launch) (e : Env) (R : Room) (s : State) (m : MethodId) (args : Array Value) (below : List Frame) (meth : Method) (c : Code) (H : Heap) (locs : List Loc) (cells slots : Nat) (Q : State → Prop) (g : JFrame) (q : Addr) : Prop :=
  ∀ T : State, T.heap = H → Stand p l e R s m args below meth c T locs cells slots → ∃ t, Steps p.tables e below ((T.setTop g).pushFrame (.throwing q)) t ∧ Q t
def vx_Run (p : Program) (l : Launch) (e : Env) (R : Room) (s : State) (m : MethodId) (args : Array Value) (below : List Frame) (meth : Method) (c : Code) (H : Heap) (locs : List Loc) (cells slots mc ms : Nat) (g : JFrame) (rest : List Value) (Qa : State → Outcome → State → Prop) (XC : String → State → State → Prop) (free : Addr → Prop) : Prop :=
  ∀ T : State, T.heap = H → Stand p l e R s m args below meth c T locs cells slots →
    (∃ (v : Option Value) (st₀ t T' : State) (L : List Loc), st₀.heap = H ∧ Stand p l e R s m args below meth c T' (locs ++ L) (cells + mc) (slots + ms) ∧ (∀ q ∈ L, free q.base) ∧ T'.heap = t.heap ∧ T'.vm = t.vm ∧ Qa st₀ (.returned v) t ∧
      Goes p e below T g T' { g with pc := g.pc + 3, stack := v.toList ++ rest }) ∨
    (∃ (q : Addr) (st₀ t T' : State) (L : List Loc) (E : String) (ce : Cell), st₀.heap = H ∧ Stand p l e R s m args below meth c T' (locs ++ L) (cells + mc) (slots + ms) ∧ (∀ z ∈ L, free z.base) ∧ T'.heap = t.heap ∧ T'.vm = t.vm ∧ XC E st₀ t ∧ t.heap[q]? = some ce ∧ ce.vm = .none ∧ s.vm.findClass E = some ce.cls ∧
      Steps p.tables e below (T.setTop g) ((T'.setTop { g with stack := rest }).pushFrame (.throwing q)))
def vx_X {S : Type} (px : S → Prop) (B : String → S → State → Prop) (A : Nat → Prop) : String → State → State → Prop := fun E st t => ∃ u : S, px u ∧ B E u t ∧ va_F A st t
section Runs
variable {p : Program} {l : Launch} {e : Env} {R : Room} {s : State} {m : MethodId} {args : Array Value} {below : List Frame} {meth : Method} {c : Code} {H : Heap} {locs : List Loc} {cells slots : Nat}
variable {y : MethodName} {bytes cc : ByteArray} {maxL nL mc ms n index : Nat} {ret : Option FieldType} {ws : List Cond} {rm : Room} {Pc : Array Value → State → Prop} {Qc : Array Value → State → Outcome → State → Prop} {XC : String → State → State → Prop} {free : Addr → Prop} {Ts : List Cond} {own C : String} {b : Addr} {As rest : List Value} {g : JFrame}
theorem vx_callBack (cb : CallB R s args own index y bytes maxL ret ws rm mc ms n) (hM : vx_Met l y ws rm Pc Qc XC mc ms free) (hbl : FrameBlind Pc) : vx_Back l R p e below s args y 3 8 (PreOf R mc ms Pc) (PostOf Qc mc ms free) (vx_Post XC mc ms free) := by
  obtain ⟨hrc, hrs, hfr, hlo, hws, hcw, -, hini, -⟩ := cb
  exact vx_back (bytes := bytes) (maxL := maxL) (ret := ret) hM hbl hrc hrs hfr hlo hws hcw (fun a' U hW => word_at hW (Or.inl (by first | rfl | simp [Cond.onTables, Cond.keeps, Cond.steady])) hini)
theorem vx_runV (S : CallFix p m c cc nL s args Ts own) (hM : vx_Met l y ws rm Pc Qc XC mc ms free) (cw : CallW R s args own C index y bytes maxL ret ws rm mc ms n) (hp : PreV s H C b Pc As)
    (hg : g.method = m) (hn : As.length = n) (hsize : g.locals.size = nL) (hstack : g.stack = As.reverse ++ .ref b :: rest) (hW : 2 * g.monitorRoom + (rest.map fun v => v.category).sum ≤ 8) (hdg : decode cc g.pc = .ok (.invokevirtual index, 3)) (hf : cells + mc ≤ R.cells ∧ slots + ms ≤ R.slots) :
    vx_Run p l e R s m args below meth c H locs cells slots mc ms g rest (Qc (Value.ref b :: As).toArray) XC free := by
  have hK : vx_Back l R p e below s args y 3 8 (PreOf R mc ms Pc) (PostOf Qc mc ms free) (vx_Post XC mc ms free) := vx_callBack cw.1 hM hp.1
  obtain ⟨⟨-, -, -, -, -, -, hcode, -, hy, hlen, hl⟩, hin, hse⟩ := cw
  obtain ⟨hx, hb, hml, ho, -⟩ := S
  obtain ⟨-, ⟨cellB, hcB, hoB, hclB⟩, hPc⟩ := hp
  intro T hT X
  rcases vx_callV X hx (C := C) (bytes := bytes) (maxL := maxL) (ret := ret) ho hl hin hse hcode hy hK (by rw [hT]; exact hcB) hoB hclB hg (hsize.trans hml.symm) (argsL := As) (rest := rest) (fun sig h => hn.trans (hlen sig h)) hstack hW (by rw [hb]; exact hdg)
    (fun vm₁ hW₁ => ⟨hf.1, hf.2, hPc (T.setVm vm₁) hT hW₁⟩) with ⟨v, vm₁, ⟨U', l2, c2, s2⟩, hW₁, X', ⟨g', mk, t, L, e1, e2, hq, h1, hL, h2, h3⟩, st⟩ | ⟨q, vm₁, ⟨U', l2, c2, s2⟩, hW₁, X', ⟨g', mk, t, L, E, ce, e1, e2, hq, hce, hcv, hcl, h1, hL, h2, h3⟩, st⟩
  · dsimp only [Pt.U, Pt.locs, Pt.cells, Pt.slots] at X' e1 e2 h1 h2 h3 st
    subst h1; subst h2; subst h3
    exact Or.inl ⟨v, (T.setVm vm₁).calling g' mk (Value.ref b :: As).toArray, t, U', L, hT, X', hL, e1, e2, hq, st⟩
  · dsimp only [Pt.U, Pt.locs, Pt.cells, Pt.slots] at X' e1 e2 h1 h2 h3 st hcl
    subst h1; subst h2; subst h3
    exact Or.inr ⟨q, (T.setVm vm₁).calling g' mk (Value.ref b :: As).toArray, t, U', L, E, ce, hT, X', hL, e1, e2, hq, hce, hcv, vx_cls hW₁ hcl, st⟩
theorem vx_runS (S : CallFix p m c cc nL s args Ts own) (hM : vx_Met l y ws rm Pc Qc XC mc ms free) (cw : CallB R s args own index y bytes maxL ret ws rm mc ms n ∧ (Cond.static y).before args s = true) (hp : PreS s H Pc As)
    (hg : g.method = m) (hn : As.length = n) (hsize : g.locals.size = nL) (hstack : g.stack = As.reverse ++ rest) (hW : 2 * g.monitorRoom + (rest.map fun v => v.category).sum ≤ 8) (hdg : decode cc g.pc = .ok (.invokestatic index, 3)) (hf : cells + mc ≤ R.cells ∧ slots + ms ≤ R.slots) :
    vx_Run p l e R s m args below meth c H locs cells slots mc ms g rest (Qc As.toArray) XC free := by
  have hK : vx_Back l R p e below s args y 3 8 (PreOf R mc ms Pc) (PostOf Qc mc ms free) (vx_Post XC mc ms free) := vx_callBack cw.1 hM hp.1
  obtain ⟨⟨-, -, -, -, -, -, hcode, hini, hy, hlen, hl⟩, hstt⟩ := cw
  obtain ⟨hx, hb, hml, ho, -⟩ := S
  intro T hT X
  rcases vx_callS X hx (bytes := bytes) (maxL := maxL) (ret := ret) ho hl hstt hini hcode hy hK hg (hsize.trans hml.symm) (argsL := As) (rest := rest) (fun sig h => hn.trans (hlen sig h)) hstack hW (by rw [hb]; exact hdg)
    (fun vm₁ hW₁ => ⟨hf.1, hf.2, hp.2 (T.setVm vm₁) hT hW₁⟩) with ⟨v, vm₁, ⟨U', l2, c2, s2⟩, hW₁, X', ⟨g', mk, t, L, e1, e2, hq, h1, hL, h2, h3⟩, st⟩ | ⟨q, vm₁, ⟨U', l2, c2, s2⟩, hW₁, X', ⟨g', mk, t, L, E, ce, e1, e2, hq, hce, hcv, hcl, h1, hL, h2, h3⟩, st⟩
  · dsimp only [Pt.U, Pt.locs, Pt.cells, Pt.slots] at X' e1 e2 h1 h2 h3 st
    subst h1; subst h2; subst h3
    exact Or.inl ⟨v, (T.setVm vm₁).calling g' mk As.toArray, t, U', L, hT, X', hL, e1, e2, hq, st⟩
  · dsimp only [Pt.U, Pt.locs, Pt.cells, Pt.slots] at X' e1 e2 h1 h2 h3 st hcl
    subst h1; subst h2; subst h3
    exact Or.inr ⟨q, (T.setVm vm₁).calling g' mk As.toArray, t, U', L, E, ce, hT, X', hL, e1, e2, hq, hce, hcv, vx_cls hW₁ hcl, st⟩
end Runs
section Rows
variable {p : Program} {l : Launch} {e : Env} {R : Room} {s : State} {m : MethodId} {args : Array Value} {below : List Frame} {meth : Method} {c : Code} {H : Heap} {locs : List Loc} {cells slots : Nat} {Q : State → Prop}
variable {mc ms : Nat} {free : Addr → Prop} {A0 A1 : Nat → Prop} {H0 : Heap} {a : Array Value} {pc : Nat} {ls : Array Slot} {st0 rest : List Value}
theorem vx_keep {st₀ t T' : State} {L : List Loc} (h0 : st₀.heap = H) (e1 : T'.heap = t.heap) (hS : va_S A0 H0 H locs) (hA : ∀ q, q < H.size → A1 q → A0 q) (hf : ∀ q, free q → A0 q) (hL : ∀ q ∈ L, free q.base) (hF : va_F A1 st₀ t) :
    H.size ≤ T'.heap.size ∧ (∀ q : Nat, q < H.size → ¬ A1 q → T'.heap[q]? = H[q]?) ∧ va_S A0 H0 T'.heap (locs ++ L) := by
  obtain ⟨hz, hk⟩ := hF
  rw [h0] at hz hk
  exact ⟨by rw [e1]; exact hz, fun q h1 h2 => by rw [e1]; exact hk q h1 h2,
    ⟨Nat.le_trans hS.1 (by rw [e1]; exact hz), fun q h1 h2 => by rw [e1, hk q (Nat.lt_of_lt_of_le h1 hS.1) (fun z => h2 (hA q (Nat.lt_of_lt_of_le h1 hS.1) z))]; exact hS.2.1 q h1 h2, fun q hq => by
      rcases List.mem_append.mp hq with h | h
      · exact hS.2.2 q h
      · exact hf _ (hL q h)⟩⟩
theorem vx_calli {S SX : Type} {post : Int32 → S → Prop} {px : SX → Prop} {B : S → State → Prop} {BX : String → SX → State → Prop} {AX : Nat → Prop} (hr : vx_Run p l e R s m args below meth c H locs cells slots mc ms (F0 m pc ls st0) rest (va_Qi post B A1 a) (vx_X px BX AX) free) (hS : va_S A0 H0 H locs) (hA : ∀ q, q < H.size → A1 q → A0 q) (hf : ∀ q, free q → A0 q) (hAX : ∀ q, q < H.size → AX q → A0 q)
    (kx : ∀ (E : String) (ce : Cell) (q9 : Addr) (u : SX) (t : State) (H1 : Heap) (locs1 : List Loc), t.heap = H1 → s.vm.Alike t.vm → px u → BX E u t → H.size ≤ H1.size → (∀ q : Nat, q < H.size → ¬ AX q → H1[q]? = H[q]?) → va_S A0 H0 H1 locs1 → H1[q9]? = some ce → ce.vm = .none → s.vm.findClass E = some ce.cls → vx_W p l e R s m args below meth c H1 locs1 (cells + mc) (slots + ms) Q (F0 m pc ls rest) q9)
    (kk : ∀ (r : Int32) (u : S) (t : State) (H1 : Heap) (locs1 : List Loc), t.heap = H1 → s.vm.Alike t.vm → post r u → B u t → H.size ≤ H1.size → (∀ q : Nat, q < H.size → ¬ A1 q → H1[q]? = H[q]?) → va_S A0 H0 H1 locs1 → W p l e R s m args below meth c H1 locs1 (cells + mc) (slots + ms) Q (F0 m (pc + 3) ls (.int r :: rest))) : W p l e R s m args below meth c H locs cells slots Q (F0 m pc ls st0) := by
  intro T hT X
  rcases hr T hT X with ⟨v, st₀, t, T', L, h0, X', hL, e1, e2, ⟨⟨r, u, hv, hp, hb⟩, hF⟩, st⟩ | ⟨q, st₀, t, T', L, E, ce, h0, X', hL, e1, e2, ⟨u, hp, hb, hF⟩, hce, hcv, hcl, st⟩
  · cases hv
    obtain ⟨k1, k2, k3⟩ := vx_keep h0 e1 hS hA hf hL hF
    obtain ⟨t2, a1, b1⟩ := kk r u t T'.heap (locs ++ L) e1.symm (by rw [← e2]; exact X'.warmed.alike) hp hb k1 k2 k3 T' rfl X'
    exact ⟨t2, st t2 a1, b1⟩
  · obtain ⟨k1, k2, k3⟩ := vx_keep h0 e1 hS hAX hf hL hF
    obtain ⟨t2, a1, b1⟩ := kx E ce q u t T'.heap (locs ++ L) e1.symm (by rw [← e2]; exact X'.warmed.alike) hp hb k1 k2 k3 (by rw [e1]; exact hce) hcv hcl T' rfl X'
    exact ⟨t2, st.trans a1, b1⟩
theorem vx_calll {S SX : Type} {post : Int64 → S → Prop} {px : SX → Prop} {B : S → State → Prop} {BX : String → SX → State → Prop} {AX : Nat → Prop} (hr : vx_Run p l e R s m args below meth c H locs cells slots mc ms (F0 m pc ls st0) rest (va_Ql post B A1 a) (vx_X px BX AX) free) (hS : va_S A0 H0 H locs) (hA : ∀ q, q < H.size → A1 q → A0 q) (hf : ∀ q, free q → A0 q) (hAX : ∀ q, q < H.size → AX q → A0 q)
    (kx : ∀ (E : String) (ce : Cell) (q9 : Addr) (u : SX) (t : State) (H1 : Heap) (locs1 : List Loc), t.heap = H1 → s.vm.Alike t.vm → px u → BX E u t → H.size ≤ H1.size → (∀ q : Nat, q < H.size → ¬ AX q → H1[q]? = H[q]?) → va_S A0 H0 H1 locs1 → H1[q9]? = some ce → ce.vm = .none → s.vm.findClass E = some ce.cls → vx_W p l e R s m args below meth c H1 locs1 (cells + mc) (slots + ms) Q (F0 m pc ls rest) q9)
    (kk : ∀ (r : Int64) (u : S) (t : State) (H1 : Heap) (locs1 : List Loc), t.heap = H1 → s.vm.Alike t.vm → post r u → B u t → H.size ≤ H1.size → (∀ q : Nat, q < H.size → ¬ A1 q → H1[q]? = H[q]?) → va_S A0 H0 H1 locs1 → W p l e R s m args below meth c H1 locs1 (cells + mc) (slots + ms) Q (F0 m (pc + 3) ls (.long r :: rest))) : W p l e R s m args below meth c H locs cells slots Q (F0 m pc ls st0) := by
  intro T hT X
  rcases hr T hT X with ⟨v, st₀, t, T', L, h0, X', hL, e1, e2, ⟨⟨r, u, hv, hp, hb⟩, hF⟩, st⟩ | ⟨q, st₀, t, T', L, E, ce, h0, X', hL, e1, e2, ⟨u, hp, hb, hF⟩, hce, hcv, hcl, st⟩
  · cases hv
    obtain ⟨k1, k2, k3⟩ := vx_keep h0 e1 hS hA hf hL hF
    obtain ⟨t2, a1, b1⟩ := kk r u t T'.heap (locs ++ L) e1.symm (by rw [← e2]; exact X'.warmed.alike) hp hb k1 k2 k3 T' rfl X'
    exact ⟨t2, st t2 a1, b1⟩
  · obtain ⟨k1, k2, k3⟩ := vx_keep h0 e1 hS hAX hf hL hF
    obtain ⟨t2, a1, b1⟩ := kx E ce q u t T'.heap (locs ++ L) e1.symm (by rw [← e2]; exact X'.warmed.alike) hp hb k1 k2 k3 (by rw [e1]; exact hce) hcv hcl T' rfl X'
    exact ⟨t2, st.trans a1, b1⟩
theorem vx_callf {S SX : Type} {post : UInt32 → S → Prop} {px : SX → Prop} {B : S → State → Prop} {BX : String → SX → State → Prop} {AX : Nat → Prop} (hr : vx_Run p l e R s m args below meth c H locs cells slots mc ms (F0 m pc ls st0) rest (va_Qf post B A1 a) (vx_X px BX AX) free) (hS : va_S A0 H0 H locs) (hA : ∀ q, q < H.size → A1 q → A0 q) (hf : ∀ q, free q → A0 q) (hAX : ∀ q, q < H.size → AX q → A0 q)
    (kx : ∀ (E : String) (ce : Cell) (q9 : Addr) (u : SX) (t : State) (H1 : Heap) (locs1 : List Loc), t.heap = H1 → s.vm.Alike t.vm → px u → BX E u t → H.size ≤ H1.size → (∀ q : Nat, q < H.size → ¬ AX q → H1[q]? = H[q]?) → va_S A0 H0 H1 locs1 → H1[q9]? = some ce → ce.vm = .none → s.vm.findClass E = some ce.cls → vx_W p l e R s m args below meth c H1 locs1 (cells + mc) (slots + ms) Q (F0 m pc ls rest) q9)
    (kk : ∀ (r : UInt32) (u : S) (t : State) (H1 : Heap) (locs1 : List Loc), t.heap = H1 → s.vm.Alike t.vm → post r u → B u t → H.size ≤ H1.size → (∀ q : Nat, q < H.size → ¬ A1 q → H1[q]? = H[q]?) → va_S A0 H0 H1 locs1 → W p l e R s m args below meth c H1 locs1 (cells + mc) (slots + ms) Q (F0 m (pc + 3) ls (.float r :: rest))) : W p l e R s m args below meth c H locs cells slots Q (F0 m pc ls st0) := by
  intro T hT X
  rcases hr T hT X with ⟨v, st₀, t, T', L, h0, X', hL, e1, e2, ⟨⟨r, u, hv, hp, hb⟩, hF⟩, st⟩ | ⟨q, st₀, t, T', L, E, ce, h0, X', hL, e1, e2, ⟨u, hp, hb, hF⟩, hce, hcv, hcl, st⟩
  · cases hv
    obtain ⟨k1, k2, k3⟩ := vx_keep h0 e1 hS hA hf hL hF
    obtain ⟨t2, a1, b1⟩ := kk r u t T'.heap (locs ++ L) e1.symm (by rw [← e2]; exact X'.warmed.alike) hp hb k1 k2 k3 T' rfl X'
    exact ⟨t2, st t2 a1, b1⟩
  · obtain ⟨k1, k2, k3⟩ := vx_keep h0 e1 hS hAX hf hL hF
    obtain ⟨t2, a1, b1⟩ := kx E ce q u t T'.heap (locs ++ L) e1.symm (by rw [← e2]; exact X'.warmed.alike) hp hb k1 k2 k3 (by rw [e1]; exact hce) hcv hcl T' rfl X'
    exact ⟨t2, st.trans a1, b1⟩
theorem vx_calld {S SX : Type} {post : UInt64 → S → Prop} {px : SX → Prop} {B : S → State → Prop} {BX : String → SX → State → Prop} {AX : Nat → Prop} (hr : vx_Run p l e R s m args below meth c H locs cells slots mc ms (F0 m pc ls st0) rest (va_Qd post B A1 a) (vx_X px BX AX) free) (hS : va_S A0 H0 H locs) (hA : ∀ q, q < H.size → A1 q → A0 q) (hf : ∀ q, free q → A0 q) (hAX : ∀ q, q < H.size → AX q → A0 q)
    (kx : ∀ (E : String) (ce : Cell) (q9 : Addr) (u : SX) (t : State) (H1 : Heap) (locs1 : List Loc), t.heap = H1 → s.vm.Alike t.vm → px u → BX E u t → H.size ≤ H1.size → (∀ q : Nat, q < H.size → ¬ AX q → H1[q]? = H[q]?) → va_S A0 H0 H1 locs1 → H1[q9]? = some ce → ce.vm = .none → s.vm.findClass E = some ce.cls → vx_W p l e R s m args below meth c H1 locs1 (cells + mc) (slots + ms) Q (F0 m pc ls rest) q9)
    (kk : ∀ (r : UInt64) (u : S) (t : State) (H1 : Heap) (locs1 : List Loc), t.heap = H1 → s.vm.Alike t.vm → post r u → B u t → H.size ≤ H1.size → (∀ q : Nat, q < H.size → ¬ A1 q → H1[q]? = H[q]?) → va_S A0 H0 H1 locs1 → W p l e R s m args below meth c H1 locs1 (cells + mc) (slots + ms) Q (F0 m (pc + 3) ls (.double r :: rest))) : W p l e R s m args below meth c H locs cells slots Q (F0 m pc ls st0) := by
  intro T hT X
  rcases hr T hT X with ⟨v, st₀, t, T', L, h0, X', hL, e1, e2, ⟨⟨r, u, hv, hp, hb⟩, hF⟩, st⟩ | ⟨q, st₀, t, T', L, E, ce, h0, X', hL, e1, e2, ⟨u, hp, hb, hF⟩, hce, hcv, hcl, st⟩
  · cases hv
    obtain ⟨k1, k2, k3⟩ := vx_keep h0 e1 hS hA hf hL hF
    obtain ⟨t2, a1, b1⟩ := kk r u t T'.heap (locs ++ L) e1.symm (by rw [← e2]; exact X'.warmed.alike) hp hb k1 k2 k3 T' rfl X'
    exact ⟨t2, st t2 a1, b1⟩
  · obtain ⟨k1, k2, k3⟩ := vx_keep h0 e1 hS hAX hf hL hF
    obtain ⟨t2, a1, b1⟩ := kx E ce q u t T'.heap (locs ++ L) e1.symm (by rw [← e2]; exact X'.warmed.alike) hp hb k1 k2 k3 (by rw [e1]; exact hce) hcv hcl T' rfl X'
    exact ⟨t2, st.trans a1, b1⟩
theorem vx_callv {S SX : Type} {post : S → Prop} {px : SX → Prop} {B : S → State → Prop} {BX : String → SX → State → Prop} {AX : Nat → Prop} (hr : vx_Run p l e R s m args below meth c H locs cells slots mc ms (F0 m pc ls st0) rest (va_Qv post B A1 a) (vx_X px BX AX) free) (hS : va_S A0 H0 H locs) (hA : ∀ q, q < H.size → A1 q → A0 q) (hf : ∀ q, free q → A0 q) (hAX : ∀ q, q < H.size → AX q → A0 q)
    (kx : ∀ (E : String) (ce : Cell) (q9 : Addr) (u : SX) (t : State) (H1 : Heap) (locs1 : List Loc), t.heap = H1 → s.vm.Alike t.vm → px u → BX E u t → H.size ≤ H1.size → (∀ q : Nat, q < H.size → ¬ AX q → H1[q]? = H[q]?) → va_S A0 H0 H1 locs1 → H1[q9]? = some ce → ce.vm = .none → s.vm.findClass E = some ce.cls → vx_W p l e R s m args below meth c H1 locs1 (cells + mc) (slots + ms) Q (F0 m pc ls rest) q9)
    (kk : ∀ (u : S) (t : State) (H1 : Heap) (locs1 : List Loc), t.heap = H1 → s.vm.Alike t.vm → post u → B u t → H.size ≤ H1.size → (∀ q : Nat, q < H.size → ¬ A1 q → H1[q]? = H[q]?) → va_S A0 H0 H1 locs1 → W p l e R s m args below meth c H1 locs1 (cells + mc) (slots + ms) Q (F0 m (pc + 3) ls (rest))) : W p l e R s m args below meth c H locs cells slots Q (F0 m pc ls st0) := by
  intro T hT X
  rcases hr T hT X with ⟨v, st₀, t, T', L, h0, X', hL, e1, e2, ⟨⟨u, hv, hp, hb⟩, hF⟩, st⟩ | ⟨q, st₀, t, T', L, E, ce, h0, X', hL, e1, e2, ⟨u, hp, hb, hF⟩, hce, hcv, hcl, st⟩
  · cases hv
    obtain ⟨k1, k2, k3⟩ := vx_keep h0 e1 hS hA hf hL hF
    obtain ⟨t2, a1, b1⟩ := kk u t T'.heap (locs ++ L) e1.symm (by rw [← e2]; exact X'.warmed.alike) hp hb k1 k2 k3 T' rfl X'
    exact ⟨t2, st t2 a1, b1⟩
  · obtain ⟨k1, k2, k3⟩ := vx_keep h0 e1 hS hAX hf hL hF
    obtain ⟨t2, a1, b1⟩ := kx E ce q u t T'.heap (locs ++ L) e1.symm (by rw [← e2]; exact X'.warmed.alike) hp hb k1 k2 k3 (by rw [e1]; exact hce) hcv hcl T' rfl X'
    exact ⟨t2, st.trans a1, b1⟩
/-- caught by the row x of this method's table; the rows ahead don't take it -/
theorem vx_catch {own name : String} {E : String} {ce : Cell} {q : Addr} (hown : s.vm.findClass own = some m.cls) (pre : List ExceptionTableEntry) (x : ExceptionTableEntry) (suf : List ExceptionTableEntry) (hsplit : c.exceptionTable.toList = pre ++ x :: suf)
    (hpass : ∀ z ∈ pre, covers z pc = false ∨ (z.catchType ≠ 0 ∧ ∃ nm : String, (Cond.classLink own z.catchType nm).before args s = true ∧ va_Nc E nm s)) (hx : covers x pc = true) (h0 : x.catchType ≠ 0)
    (hlink : (Cond.classLink own x.catchType name).before args s = true) (hcast : (Cond.castable E name).before args s = true) (hcell : H[q]? = some ce) (hv : ce.vm = .none) (hcl : s.vm.findClass E = some ce.cls)
    (kk : W p l e R s m args below meth c H locs cells slots Q (F0 m x.handlerPc ls [.ref q])) : vx_W p l e R s m args below meth c H locs cells slots Q (F0 m pc ls rest) q := by
  intro T hT X
  have hpl : e.platform.magicAccessors = ({} : Platform).magicAccessors := by rw [X.admits.platform]
  obtain ⟨c3, c4, hc3, hc4, hasg⟩ := Cond.castable_spec hcast
  cases Option.some.inj (hc3.symm.trans hcl)
  obtain ⟨c5, hc5, hcl5⟩ := Cond.classLink_spec hown hlink e.platform hpl
  cases Option.some.inj (hc4.symm.trans hc5)
  obtain ⟨vm', X', st⟩ := X.thenCaughtThrough q (g := F0 m pc ls rest) rfl (Steps.refl _) (by rw [hT]; exact hcell) (by rw [hv]; rfl) (by obtain ⟨k9, h9, -⟩ := Vm.findClass_spec hcl; exact ⟨k9, h9⟩) pre x suf hsplit
    (fun z hz => by
      rcases hpass z hz with h | ⟨hz0, nm, hl1, hn1⟩
      · exact Or.inl h
      · obtain ⟨c6, hc6, hcl6⟩ := Cond.classLink_spec hown hl1 e.platform hpl
        obtain ⟨a8, b8, h1, h2, h3⟩ := hn1
        cases Option.some.inj (h1.symm.trans hcl)
        cases Option.some.inj (h2.symm.trans hc6)
        exact Or.inr ⟨hz0, _, hcl6, h3⟩) hx (Or.inr ⟨h0, c4, hcl5, hasg⟩)
  obtain ⟨t, a1, b1⟩ := kk (T.setVm vm') hT X'
  exact ⟨t, st.trans a1, b1⟩
end Rows
section Ends
variable {p : Program} {l : Launch} {e : Env} {R : Room} {s : State} {m : MethodId} {args : Array Value} {below : List Frame} {meth : Method} {c : Code} {H : Heap} {locs : List Loc} {cells slots : Nat} {Q : State → Prop}
variable {mc ms : Nat} {free : Addr → Prop} {A0 A1 : Nat → Prop} {H0 : Heap} {a : Array Value} {ls : Array Slot} {st0 rest : List Value}
variable {Qc : Array Value → State → Outcome → State → Prop} {XC : String → State → State → Prop}
/-- what a body that may throw owes at its end -/
def vx_MQ (below : List Frame) (Qc : Array Value → State → Outcome → State → Prop) (XC : String → State → State → Prop) (a : Array Value) (s : State) (mc ms : Nat) (free : Addr → Prop) : State → Prop := fun t =>
  ∃ o, t.status = .running ∧ Ended t below o ∧ vx_Q Qc XC mc ms free a s o t
theorem vx_ret {g : JFrame} {mc ms : Nat} (k : W p l e R s m args below meth c H locs cells slots (MQ below Qc args s mc ms free) g) : W p l e R s m args below meth c H locs cells slots (vx_MQ below Qc XC args s mc ms free) g := by
  intro T hT X
  obtain ⟨t, a1, o, b1, b2, b3, b4⟩ := k T hT X
  exact ⟨t, a1, o, b1, b2, Or.inl ⟨b3, b4⟩⟩
/-- not caught here: it goes on to the caller -/
theorem vx_widen {g : JFrame} {q : Addr} {k n : Nat} (h1 : cells ≤ k) (h2 : slots ≤ n) (kk : vx_W p l e R s m args below meth c H locs k n Q g q) : vx_W p l e R s m args below meth c H locs cells slots Q g q := fun T hT X => kk T hT (stand_widen X h1 h2)
theorem vx_out {pc : Nat} {E : String} {ce : Cell} {q : Addr} {mc ms : Nat} (hout : ∀ x ∈ c.exceptionTable.toList, covers x pc = false) (hlocks : meth.locks = false) (hcell : H[q]? = some ce) (hv : ce.vm = .none) (hcl : s.vm.findClass E = some ce.cls)
    (hx : ∀ t : State, t.heap = H → s.vm.Alike t.vm → XC E s t) (hf : ∀ z ∈ locs, free z.base) (hc : cells ≤ mc) (hs : slots ≤ ms) :
    vx_W p l e R s m args below meth c H locs cells slots (vx_MQ below Qc XC args s mc ms free) (F0 m pc ls rest) q := by
  intro T hT X
  obtain ⟨st1, hrun, hend, hW, hsm⟩ := X.leaveThrown q (g := F0 m pc ls rest) rfl rfl rfl hout hlocks
  have hcell9 : (T.setFrames (.throwing q :: below)).heap[q]? = some ce := by
    show T.heap[q]? = some ce
    rw [hT]; exact hcell
  exact ⟨_, st1, .threw q, hrun, hend, Or.inr ⟨q, rfl, E, ce, locs, hx _ hT hW.alike, hcell9, hv, hcl, hW, hsm.mono hc hs, hf⟩⟩
theorem vx_frame {U : State} {k n : Nat} (h : s.sameButNew ({ U with vm := s.vm } : State) locs k n) : s.heap.size ≤ U.heap.size ∧ ∀ q : Nat, q < s.heap.size → (∀ z ∈ locs, z.base ≠ q) → U.heap[q]? = s.heap[q]? := by
  obtain ⟨-, h2, -, -, -, h6⟩ := h
  refine ⟨h2, fun q hq hz => ?_⟩
  obtain ⟨c9, e1, e2, e3, e4⟩ := h6 q _ (Array.getElem?_eq_getElem hq)
  have hs : c9.slots = (s.heap[q]).slots := Array.ext_getElem? fun i => e4 i fun hm => hz _ hm rfl
  have h9 : c9 = s.heap[q] := by
    rw [hs] at e2
    exact e2
  have e5 : U.heap[q]? = some c9 := e1
  rw [e5, h9, Array.getElem?_eq_getElem hq]
/-- the words of a throw but the four that speak of the heap -/
def vx_no (w : Cond) : Bool := decide (w ≠ .isRef (.static Bundle.tN "UNASSIGNED_STACK" Bundle.steD)) && decide (w ≠ .isRef (.static Bundle.tN "SUPPRESSED_SENTINEL" Bundle.listD)) && decide (w ≠ .laysStatic Bundle.tN "UNASSIGNED_STACK" Bundle.steD) && decide (w ≠ .laysStatic Bundle.tN "SUPPRESSED_SENTINEL" Bundle.listD)
def vx_at0 (own : String) (ic : Nat) (X : String) (names : List String) : List Cond := (Bundle.ownAtoms0 own ic X names).filter vx_no
def vx_atS (own : String) (ic : Nat) (X : String) (names : List String) : List Cond := (Bundle.ownAtoms own ic X names).filter vx_no
/-- a word that the tables alone decide, or a good one -/
def vx_ot (w : Cond) : Bool := w.onTables || goodWord w
theorem vx_ot_at {args a' : Array Value} {s U : State} {w : Cond} (hW : s.WarmedH U.vm) (hvm : s.vm = U.vm) (hg : vx_ot w = true) (h : w.before args s = true) : w.before a' U = true := by
  simp only [vx_ot, Bool.or_eq_true] at hg
  rcases hg with hg | hg
  · exact va_tabs hg hvm h
  · exact word_at hW (good_of_word hg) h
/-- a list's words: the good ones out of the method's own list, the others by premises of their own -/
theorem vx_hat {args : Array Value} {s : State} {L B : List Cond} (h1 : ∀ w ∈ L.filter goodWord, w.before args s = true) (h2 : ∀ w ∈ L.filter (fun w => !goodWord w), w ∈ B) (h3 : ∀ w ∈ B, w.before args s = true) : ∀ w ∈ L, w.before args s = true := by
  intro w hw
  by_cases g : goodWord w = true
  · exact h1 w (List.mem_filter.mpr ⟨hw, g⟩)
  · refine h3 w (h2 w (List.mem_filter.mpr ⟨hw, ?_⟩))
    show (!goodWord w) = true
    cases hgw : goodWord w
    · rfl
    · exact absurd hgw g
theorem vx_c {args : Array Value} {s : State} {w : Cond} {B : List Cond} (h : w.before args s = true) (t : ∀ w ∈ B, w.before args s = true) : ∀ w' ∈ w :: B, w'.before args s = true := fun w' h' => (List.mem_cons.mp h').elim (fun e => by rw [e]; exact h) (t w')
theorem vx_n {args : Array Value} {s : State} : ∀ w ∈ ([] : List Cond), w.before args s = true := fun _ h => nomatch h
theorem vx_own {args : Array Value} {s : State} {L : List Cond} (h1 : ∀ w ∈ L.filter vx_no, w.before args s = true)
    (hU : (Cond.isRef (.static Bundle.tN "UNASSIGNED_STACK" Bundle.steD)).before args s = true) (hN : (Cond.isRef (.static Bundle.tN "SUPPRESSED_SENTINEL" Bundle.listD)).before args s = true)
    (lU : (Cond.laysStatic Bundle.tN "UNASSIGNED_STACK" Bundle.steD).before args s = true) (lN : (Cond.laysStatic Bundle.tN "SUPPRESSED_SENTINEL" Bundle.listD).before args s = true) : ∀ w ∈ L, w.before args s = true := by
  intro w hw
  by_cases e1 : w = .isRef (.static Bundle.tN "UNASSIGNED_STACK" Bundle.steD)
  · rw [e1]; exact hU
  · by_cases e2 : w = .isRef (.static Bundle.tN "SUPPRESSED_SENTINEL" Bundle.listD)
    · rw [e2]; exact hN
    · by_cases e3 : w = .laysStatic Bundle.tN "UNASSIGNED_STACK" Bundle.steD
      · rw [e3]; exact lU
      · by_cases e4 : w = .laysStatic Bundle.tN "SUPPRESSED_SENTINEL" Bundle.listD
        · rw [e4]; exact lN
        · exact h1 w (List.mem_filter.mpr ⟨hw, by unfold vx_no; rw [decide_eq_true e1, decide_eq_true e2, decide_eq_true e3, decide_eq_true e4]; rfl⟩)
/-- where a static field lies, its class's statics cell in H -/
def vx_L (C n d : String) (A : Nat → Prop) (U : State) (H : Heap) : Prop := ∃ (c : ClassId) (k : Class) (i : Nat) (f : Field) (a : Nat) (cell : Cell), U.vm.findClass C = some c ∧ U.fieldFound? C n d = some (c, k, i, f) ∧ f.isStatic = true ∧ k.statics = some a ∧ H[a]? = some cell ∧ cell.vm.isStatics = true ∧ cell.cls = c ∧ f.slot < cell.slots.size ∧ k.staticTypes[f.slot]? = some f.type ∧ ¬ A a
theorem vx_L.moved {C n d : String} {A : Nat → Prop} {u U : State} {H : Heap} (hvm : u.vm.Alike U.vm) (h : vx_L C n d A u H) : vx_L C n d A U H := by
  obtain ⟨c, k, i, f, a, cell, h1, h2, h3, h4, h5, h6, h7, h8, h9, h10⟩ := h
  obtain ⟨k', hi', he⟩ := State.fieldFound?_setVm hvm h2
  exact ⟨c, k', i, f, a, cell, by rw [hvm.findClass]; exact h1, hi', h3, by rw [he]; exact h4, h5, h6, h7, h8, by rw [he]; exact h9, h10⟩
theorem vx_L.kept {C n d : String} {A : Nat → Prop} {U : State} {H H1 : Heap} (h : vx_L C n d A U H) (hq : ∀ a : Nat, a < H.size → ¬ A a → H1[a]? = H[a]?) : vx_L C n d A U H1 := by
  obtain ⟨c, k, i, f, a, cell, h1, h2, h3, h4, h5, h6, h7, h8, h9, h10⟩ := h
  exact ⟨c, k, i, f, a, cell, h1, h2, h3, h4, by rw [hq a (Array.getElem?_eq_some_iff.mp h5).1 h10]; exact h5, h6, h7, h8, h9, h10⟩
theorem vx_L.narrow {C n d : String} {A B : Nat → Prop} {U : State} {H : Heap} (h : vx_L C n d A U H) (hAB : ∀ q, B q → A q) : vx_L C n d B U H := by
  obtain ⟨c, k, i, f, a, cell, h1, h2, h3, h4, h5, h6, h7, h8, h9, h10⟩ := h
  exact ⟨c, k, i, f, a, cell, h1, h2, h3, h4, h5, h6, h7, h8, h9, fun z => h10 (hAB _ z)⟩
theorem vx_L.word {C n d : String} {A : Nat → Prop} {s : State} {args : Array Value} (h : vx_L C n d A s s.heap) : (Cond.laysStatic C n d).before args s = true := by
  obtain ⟨c, k, i, f, a, cell, h1, h2, h3, h4, h5, h6, h7, h8, h9, -⟩ := h
  show (Cond.laysStatic C n d).holds args s none s [] = true
  exact Cond.laysStatic_of h1 h2 h3 h4 h5 h6 h7 h8 h9
/-- .. and what it holds: null or some reference -/
def vx_Zq (C n d : String) (A : Nat → Prop) (U : State) (H : Heap) : Prop := va_Zq C n d A U H ∧ vx_L C n d A U H
theorem vx_Zq.moved {C n d : String} {A : Nat → Prop} {u U : State} {H : Heap} (hvm : u.vm.Alike U.vm) (h : vx_Zq C n d A u H) : vx_Zq C n d A U H := ⟨va_Zq.moved hvm h.1, vx_L.moved hvm h.2⟩
theorem vx_Zq.kept {C n d : String} {A : Nat → Prop} {U : State} {H H1 : Heap} (h : vx_Zq C n d A U H) (hq : ∀ a : Nat, a < H.size → ¬ A a → H1[a]? = H[a]?) : vx_Zq C n d A U H1 := ⟨va_Zq.kept h.1 hq, vx_L.kept h.2 hq⟩
theorem vx_Zq.narrow {C n d : String} {A B : Nat → Prop} {U : State} {H : Heap} (h : vx_Zq C n d A U H) (hAB : ∀ q, B q → A q) : vx_Zq C n d B U H := ⟨va_Zq.narrow h.1 hAB, vx_L.narrow h.2 hAB⟩
theorem vx_Zqof {args : Array Value} {s : State} {C n d : String} {A : Nat → Prop} (hl : (Cond.laysStatic C n d).before args s = true) (hini : (Cond.initialized C).before args s = true) (h : (Cond.isRef (.static C n d)).before args s = true) (hA : ∀ a : Nat, a < s.heap.size → ¬ A a) : vx_Zq C n d A s s.heap := by
  refine ⟨va_Zqof hl hini h hA, ?_⟩
  obtain ⟨c, k, i, f, a, cell, h1, h2, h3, h4, h5, h6, h7, h8, h9⟩ := Cond.laysStatic_spec hl
  exact ⟨c, k, i, f, a, cell, h1, h2, h3, h4, h5, h6, h7, h8, h9, hA a (Array.getElem?_eq_some_iff.mp h5).1⟩
theorem vx_isRef {C n d : String} {v : Value} {A : Nat → Prop} {s : State} {args : Array Value} (h : va_Z C n d v A s s.heap) (hv : v.isRef = true) : (Cond.isRef (.static C n d)).before args s = true := by
  obtain ⟨cf, kf, fi, f, a, cell, h1, h2, h3, h4, h5, h6, h7, -⟩ := h
  have he : (Term.static C n d).eval args s none [] s = some v := by
    simp [Term.eval, State.fieldNamed?, h1, h2, h4, h5, h6, h7]
  simp only [Cond.before, Cond.holds, Cond.value, he]
  cases v <;> simp_all [Value.isRef]
theorem vx_isRefq {C n d : String} {A : Nat → Prop} {s : State} {args : Array Value} (h : va_Zq C n d A s s.heap) : (Cond.isRef (.static C n d)).before args s = true := by
  rcases h with h | ⟨t, h⟩
  · exact vx_isRef h rfl
  · exact vx_isRef h rfl
/-- the same frame, seen from here: as if the method were called anew in this heap -/
theorem vx_rebase {T : State} (X : Stand p l e R s m args below meth c T locs cells slots) {R' : Room} (hf : R'.frames ≤ R.frames) (hl : R'.locals ≤ R.locals) (hc : cells + R'.cells ≤ R.cells) (hs : slots + R'.slots ≤ R.slots) :
    Stand p l e R' ((T.setVm s.vm).setFrames (.invoking m args :: below)) m args below meth c T [] 0 0 := by
  have htop : (T.setVm s.vm).topJava?.isSome := X.here.top
  have hF : ((T.setVm s.vm).setFrames (.invoking m args :: below)).frames = .invoking m args :: below := State.frames_setFrames _ (State.cur_lt_of_top htop)
  obtain ⟨g₀, hg0⟩ := Option.isSome_iff_exists.mp htop
  obtain ⟨r, hr⟩ := State.topJava?_eq_some.mp hg0
  have hl9 : e.platform.stackLimits (T.setVm s.vm).me = e.platform.stackLimits s.me := X.limits
  have hb9 : (T.setVm s.vm).me.stackBytes = s.me.stackBytes := X.bytes
  refine ⟨X.admits, X.cas, X.clock, hF, ?_, X.hears, X.method, X.code, X.here, X.tail, X.warmed, ?_, ?_, ?_⟩
  · have h := X.room
    have hU : ((T.setVm s.vm).setFrames (.invoking m args :: below)).localsInUse = s.localsInUse := by
      rw [State.localsInUse_invoking hF (meth := meth) (c := c) X.method X.code, State.localsInUse_invoking X.frames X.method X.code]
    simp only [State.hasRoom, Bool.and_eq_true, decide_eq_true_eq] at h ⊢
    obtain ⟨⟨⟨⟨h1, h2, h3, h4, h5, h6⟩, h7⟩, h8⟩, h9⟩ := h
    rw [X.frames, List.length_cons] at h2 h3
    have q1 := X.heapSize
    have q2 := X.used
    simp only [hF, hU, List.length_cons, State.stackLimits_setFrames, State.stackBytes_setFrames, hl9, hb9]
    refine ⟨⟨⟨⟨by omega, by omega, by omega, by omega, by omega, h6⟩, ?_⟩, ?_⟩, X.book⟩
    · show T.heap.size + R'.cells ≤ e.platform.maxCells
      omega
    · show T.slotsUsed + R'.slots ≤ e.platform.maxSlots
      omega
  · rw [State.stackLimits_setFrames]; rfl
  · rw [State.stackBytes_setFrames]; rfl
  · refine ⟨?_, Nat.le_refl _, Nat.le_refl _, ?_, ?_, fun a c9 h9 => ⟨c9, h9, rfl, rfl, fun _ _ => rfl⟩⟩
    · obtain ⟨t, ht, -⟩ := State.frames_cons hr
      show T.setVm s.vm = { ((T.setVm s.vm).setFrames (.invoking m args :: below)).setFrames (T.setVm s.vm).frames with heap := T.heap, slotsUsed := T.slotsUsed }
      rw [State.setFrames_setFrames, State.setFrames_self ht]
      rfl
    · show T.slotsUsed = T.slotsUsed + ((T.heap.toList.drop T.heap.size).map (·.slots.size)).sum
      rw [List.drop_eq_nil_of_le (Nat.le_of_eq Array.length_toList)]
      rfl
    · show ((T.heap.toList.drop T.heap.size).map (·.slots.size)).sum ≤ 0
      rw [List.drop_eq_nil_of_le (Nat.le_of_eq Array.length_toList)]
      exact Nat.le_refl _
/-- 'throw new E()': new; dup; invokespecial; athrow -/
theorem vx_throw0 {cc : ByteArray} {pc : Nat} (hexec : p.tables.exec = Jvm.exec) (hb : c.code = cc) (hl : l.stackTraces = false) {own cls : String} {names : List String} {ik ic mc ms : Nat} {A : Nat → Prop}
    (hown : s.vm.findClass own = some m.cls) (hcls : Bundle.fit cls = true) (hnames : ∀ n ∈ names, Bundle.fit n = true)
    (hk : (Cond.classLink own ik cls).before args s = true) (hini : (Cond.initialized cls).before args s = true) (hat : ∀ w ∈ vx_at0 own ic cls names, w.before args s = true)
    (hgood : ∀ w ∈ Cond.classLink own ik cls :: Cond.initialized cls :: vx_at0 own ic cls names, vx_ot w = true)
    (hU : vx_Zq Bundle.tN "UNASSIGNED_STACK" Bundle.steD A s s.heap) (hN : vx_Zq Bundle.tN "SUPPRESSED_SENTINEL" Bundle.listD A s s.heap) (hS : va_S A s.heap H locs) (hsize : ls.size = c.maxLocals)
    (d0 : decode cc pc = .ok (.new ik, 3)) (d3 : decode cc (pc + 3) = .ok (.dup, 1)) (d4 : decode cc (pc + 4) = .ok (.invokespecial ic, 3)) (d7 : decode cc (pc + 7) = .ok (.athrow, 1))
    (hout : ∀ x ∈ c.exceptionTable.toList, covers x (pc + 7) = false)
    (hRframes : names.length + 3 < R.frames) (hRlocals : (rest.map fun v => v.category).sum + (13 * (names.length + 1) + 42) ≤ R.locals) (hRcells : cells + 1 ≤ R.cells) (hRslots : slots + 6 ≤ R.slots) (hlocks : meth.locks = false)
    (hx : ∀ t : State, s.vm.Alike t.vm → H.size ≤ t.heap.size → (∀ q : Nat, q < H.size → t.heap[q]? = H[q]?) → XC cls s t)
    (hf : ∀ z ∈ locs, free z.base) (hc : cells + 1 ≤ mc) (hs : slots + 6 ≤ ms) :
    W p l e R s m args below meth c H locs cells slots (vx_MQ below Qc XC args s mc ms free) (F0 m pc ls rest) := by
  intro T hT X
  have htr : e.platform.stackTraces = false := (show e.platform.stackTraces = l.stackTraces by rw [X.admits.platform]).trans hl
  have Y := vx_rebase X (R' := { frames := R.frames, locals := R.locals, cells := 1, slots := 6 }) (Nat.le_refl _) (Nat.le_refl _) hRcells hRslots
  obtain ⟨s', hA⟩ : ∃ z, z = (T.setVm s.vm).setFrames (.invoking m args :: below) := ⟨_, rfl⟩
  rw [← hA] at Y
  have hvm : s'.vm = s.vm := by rw [hA]; rfl
  have hhp : s'.heap = H := by rw [hA]; exact hT
  have hW0 : s.WarmedH s'.vm := by rw [hvm]; exact State.WarmedH.refl s
  have hat' : ∀ w ∈ vx_at0 own ic cls names, w.before args s' = true := fun w hw => vx_ot_at hW0 hvm.symm (hgood w (List.mem_cons_of_mem _ (List.mem_cons_of_mem _ hw))) (hat w hw)
  have hk' : (Cond.classLink own ik cls).before args s' = true := vx_ot_at hW0 hvm.symm (hgood _ List.mem_cons_self) hk
  have hini' : (Cond.initialized cls).before args s' = true := vx_ot_at hW0 hvm.symm (hgood _ (List.mem_cons_of_mem _ List.mem_cons_self)) hini
  have hU' : vx_Zq Bundle.tN "UNASSIGNED_STACK" Bundle.steD A s' s'.heap := by rw [hhp]; exact vx_Zq.moved hW0.alike (hU.kept hS.2.1)
  have hN' : vx_Zq Bundle.tN "SUPPRESSED_SENTINEL" Bundle.listD A s' s'.heap := by rw [hhp]; exact vx_Zq.moved hW0.alike (hN.kept hS.2.1)
  have h : ∀ w ∈ Bundle.ownAtoms0 own ic cls names, w.before args s' = true := vx_own hat' (vx_isRefq hU'.1) (vx_isRefq hN'.1) hU'.2.word hN'.2.word
  have hown' : s'.vm.findClass own = some m.cls := by rw [hvm]; exact hown
  have hins : (Cond.instantiable cls 6).before args s' = true := h _ (by simp [Bundle.ownAtoms0])
  obtain ⟨vm₁, cX, kX, hfX, hkX, -, -, X₁, st1⟩ := Y.newCold hexec (own := own) (C := cls) (index := ik) (n := 6) hown' hk' hins hini'
    (g := F0 m pc ls rest) rfl (by rw [hb]; exact d0) (Nat.le_refl _) (Nat.le_refl _)
  generalize hT1 : (T.setVm vm₁).pushCell { cls := cX, slots := kX.instanceTypes.map defaultValue, vm := .none } = T1 at X₁ st1
  have hcat : (Value.ref T.heap.size).category = 1 := rfl
  have hcellA : T1.heap[T.heap.size]? = some (freshCell cX kX) := by rw [← hT1]; exact State.heap_pushCell_size _ _
  have d3' : decode c.code (pc + 3) = .ok (.dup, 1) := by rw [hb]; exact d3
  obtain ⟨U, hsteps, hrun, hend, hW, hsame, ce, hce, hO⟩ := X₁.ctorThrow0 hexec htr (own := own) (cls := cls) (names := names) (ic := ic) hown' hcls hnames h (fun x hx => nomatch hx) hfX hkX hcellA (by rw [hhp, hT]; exact Nat.le_refl _)
    (g := { method := m, pc := pc + 4, locals := ls, stack := .ref T.heap.size :: .ref T.heap.size :: rest, locked := none }) rfl hsize rfl rfl (rest := rest) rfl
    (by rw [hb]; exact d4) (by rw [hb]; exact d7) hout hRframes (by simp only [List.map_cons, List.sum_cons, hcat]; omega) hlocks
  obtain ⟨f1, f2⟩ := vx_frame hsame
  rw [hhp] at f1 f2
  have hWs : s.WarmedH U.vm := State.WarmedH.trans hW0 hW
  have hcl : s.vm.findClass cls = some ce.cls := by
    have h9 := hO.cls
    rw [hvm] at h9
    exact h9
  have hall : s.sameButNew ({ U with vm := s.vm } : State) locs mc ms := by
    subst hA
    obtain ⟨e1, e2⟩ := hsame
    rw [State.setFrames_setFrames] at e1
    have h2 : (T.setVm s.vm).sameButNew ({ U with vm := s.vm } : State) [] (0 + 1) (0 + 6) := ⟨e1, e2⟩
    have h3 := X.same.trans h2
    rw [List.append_nil] at h3
    exact h3.mono hc hs
  refine ⟨U, ?_, .threw T.heap.size, hrun, hend, Or.inr ⟨T.heap.size, rfl, cls, ce, locs, hx U hWs.alike f1 (fun q hq => f2 q hq (fun z hz => nomatch hz)), hce, hO.vm, hcl, hWs, hall, hf⟩⟩
  refine st1 _ ?_
  show Steps p.tables e below (T1.setTop { method := m, pc := pc + 3, locals := ls, stack := .ref T.heap.size :: rest, locked := none }) _
  jvm_step X₁.here [X₁.here.top, hexec, d3', Value.category]
  exact hsteps
/-- 'throw new E("text")': new; dup; ldc; invokespecial; athrow -/
theorem vx_throwS {cc : ByteArray} {pc : Nat} (hexec : p.tables.exec = Jvm.exec) (hb : c.code = cc) (hl : l.stackTraces = false) {own cls text : String} {names : List String} {ik is ic mc ms sa : Nat} {A : Nat → Prop}
    (hown : s.vm.findClass own = some m.cls) (hcls : Bundle.fit cls = true) (hnames : ∀ n ∈ names, Bundle.fit n = true)
    (hk : (Cond.classLink own ik cls).before args s = true) (hini : (Cond.initialized cls).before args s = true) (hstr : vk_R own is text sa s) (hat : ∀ w ∈ vx_atS own ic cls names, w.before args s = true)
    (hgood : ∀ w ∈ Cond.classLink own ik cls :: Cond.initialized cls :: vx_atS own ic cls names, vx_ot w = true)
    (hU : vx_Zq Bundle.tN "UNASSIGNED_STACK" Bundle.steD A s s.heap) (hN : vx_Zq Bundle.tN "SUPPRESSED_SENTINEL" Bundle.listD A s s.heap) (hS : va_S A s.heap H locs) (hsize : ls.size = c.maxLocals)
    (d0 : decode cc pc = .ok (.new ik, 3)) (d3 : decode cc (pc + 3) = .ok (.dup, 1)) (d4 : decode cc (pc + 4) = .ok (.ldc is, 2)) (d6 : decode cc (pc + 6) = .ok (.invokespecial ic, 3)) (d9 : decode cc (pc + 9) = .ok (.athrow, 1))
    (hout : ∀ x ∈ c.exceptionTable.toList, covers x (pc + 9) = false)
    (hRframes : names.length + 3 < R.frames) (hRlocals : (rest.map fun v => v.category).sum + (13 * (names.length + 1) + 43) ≤ R.locals) (hRcells : cells + 1 ≤ R.cells) (hRslots : slots + 6 ≤ R.slots) (hlocks : meth.locks = false)
    (hx : ∀ t : State, s.vm.Alike t.vm → H.size ≤ t.heap.size → (∀ q : Nat, q < H.size → t.heap[q]? = H[q]?) → XC cls s t)
    (hf : ∀ z ∈ locs, free z.base) (hc : cells + 1 ≤ mc) (hs : slots + 6 ≤ ms) :
    W p l e R s m args below meth c H locs cells slots (vx_MQ below Qc XC args s mc ms free) (F0 m pc ls rest) := by
  intro T hT X
  have htr : e.platform.stackTraces = false := (show e.platform.stackTraces = l.stackTraces by rw [X.admits.platform]).trans hl
  have Y := vx_rebase X (R' := { frames := R.frames, locals := R.locals, cells := 1, slots := 6 }) (Nat.le_refl _) (Nat.le_refl _) hRcells hRslots
  obtain ⟨s', hA⟩ : ∃ z, z = (T.setVm s.vm).setFrames (.invoking m args :: below) := ⟨_, rfl⟩
  rw [← hA] at Y
  have hvm : s'.vm = s.vm := by rw [hA]; rfl
  have hhp : s'.heap = H := by rw [hA]; exact hT
  have hW0 : s.WarmedH s'.vm := by rw [hvm]; exact State.WarmedH.refl s
  have hat' : ∀ w ∈ vx_atS own ic cls names, w.before args s' = true := fun w hw => vx_ot_at hW0 hvm.symm (hgood w (List.mem_cons_of_mem _ (List.mem_cons_of_mem _ hw))) (hat w hw)
  have hk' : (Cond.classLink own ik cls).before args s' = true := vx_ot_at hW0 hvm.symm (hgood _ List.mem_cons_self) hk
  have hini' : (Cond.initialized cls).before args s' = true := vx_ot_at hW0 hvm.symm (hgood _ (List.mem_cons_of_mem _ List.mem_cons_self)) hini
  have hU' : vx_Zq Bundle.tN "UNASSIGNED_STACK" Bundle.steD A s' s'.heap := by rw [hhp]; exact vx_Zq.moved hW0.alike (hU.kept hS.2.1)
  have hN' : vx_Zq Bundle.tN "SUPPRESSED_SENTINEL" Bundle.listD A s' s'.heap := by rw [hhp]; exact vx_Zq.moved hW0.alike (hN.kept hS.2.1)
  have h : ∀ w ∈ Bundle.ownAtoms own ic cls names, w.before args s' = true := vx_own hat' (vx_isRefq hU'.1) (vx_isRefq hN'.1) hU'.2.word hN'.2.word
  have hown' : s'.vm.findClass own = some m.cls := by rw [hvm]; exact hown
  have hins : (Cond.instantiable cls 6).before args s' = true := h _ (by simp [Bundle.ownAtoms])
  obtain ⟨vm₁, cX, kX, hfX, hkX, -, -, X₁, st1⟩ := Y.newCold hexec (own := own) (C := cls) (index := ik) (n := 6) hown' hk' hins hini'
    (g := F0 m pc ls rest) rfl (by rw [hb]; exact d0) (Nat.le_refl _) (Nat.le_refl _)
  generalize hT1 : (T.setVm vm₁).pushCell { cls := cX, slots := kX.instanceTypes.map defaultValue, vm := .none } = T1 at X₁ st1
  have hcat : (Value.ref T.heap.size).category = 1 := rfl
  have hcellA : T1.heap[T.heap.size]? = some (freshCell cX kX) := by rw [← hT1]; exact State.heap_pushCell_size _ _
  have d3' : decode c.code (pc + 3) = .ok (.dup, 1) := by rw [hb]; exact d3
  have d4' : decode c.code (pc + 4) = .ok (.ldc is, 2) := by rw [hb]; exact d4
  have hstr' : vk_R own is text sa s' := vk_R.warm hW0 hstr
  obtain ⟨U, hsteps, hrun, hend, hW, hsame, ce, hce, hO⟩ := X₁.ctorThrowS hexec htr (own := own) (cls := cls) (names := names) (ic := ic) hown' hcls hnames h (fun x hx => nomatch hx) hfX hkX hcellA (by rw [hhp, hT]; exact Nat.le_refl _) (msg := .ref sa) rfl
    (g := { method := m, pc := pc + 6, locals := ls, stack := .ref sa :: .ref T.heap.size :: .ref T.heap.size :: rest, locked := none }) rfl hsize rfl rfl (rest := rest) rfl
    (by rw [hb]; exact d6) (by rw [hb]; exact d9) hout hRframes (by simp only [List.map_cons, List.sum_cons, hcat]; omega) hlocks
  obtain ⟨f1, f2⟩ := vx_frame hsame
  rw [hhp] at f1 f2
  have hWs : s.WarmedH U.vm := State.WarmedH.trans hW0 hW
  have hcl : s.vm.findClass cls = some ce.cls := by
    have h9 := hO.cls
    rw [hvm] at h9
    exact h9
  have hall : s.sameButNew ({ U with vm := s.vm } : State) locs mc ms := by
    subst hA
    obtain ⟨e1, e2⟩ := hsame
    rw [State.setFrames_setFrames] at e1
    have h2 : (T.setVm s.vm).sameButNew ({ U with vm := s.vm } : State) [] (0 + 1) (0 + 6) := ⟨e1, e2⟩
    have h3 := X.same.trans h2
    rw [List.append_nil] at h3
    exact h3.mono hc hs
  refine ⟨U, ?_, .threw T.heap.size, hrun, hend, Or.inr ⟨T.heap.size, rfl, cls, ce, locs, hx U hWs.alike f1 (fun q hq => f2 q hq (fun z hz => nomatch hz)), hce, hO.vm, hcl, hWs, hall, hf⟩⟩
  refine st1 _ ?_
  show Steps p.tables e below (T1.setTop { method := m, pc := pc + 3, locals := ls, stack := .ref T.heap.size :: rest, locked := none }) _
  jvm_step X₁.here [X₁.here.top, hexec, d3', Value.category]
  exact X₁.ldcString hexec (own := own) (text := text) (index := is) (a := sa) hown' hstr'.1 hstr'.2
    (g := { method := m, pc := pc + 4, locals := ls, stack := .ref T.heap.size :: .ref T.heap.size :: rest, locked := none }) rfl d4' _ hsteps
/-- 'throw new E("text")', the text by a wide index -/
theorem vx_throwSW {cc : ByteArray} {pc : Nat} (hexec : p.tables.exec = Jvm.exec) (hb : c.code = cc) (hl : l.stackTraces = false) {own cls text : String} {names : List String} {ik is ic mc ms sa : Nat} {A : Nat → Prop}
    (hown : s.vm.findClass own = some m.cls) (hcls : Bundle.fit cls = true) (hnames : ∀ n ∈ names, Bundle.fit n = true)
    (hk : (Cond.classLink own ik cls).before args s = true) (hini : (Cond.initialized cls).before args s = true) (hstr : vk_R own is text sa s) (hat : ∀ w ∈ vx_atS own ic cls names, w.before args s = true)
    (hgood : ∀ w ∈ Cond.classLink own ik cls :: Cond.initialized cls :: vx_atS own ic cls names, vx_ot w = true)
    (hU : vx_Zq Bundle.tN "UNASSIGNED_STACK" Bundle.steD A s s.heap) (hN : vx_Zq Bundle.tN "SUPPRESSED_SENTINEL" Bundle.listD A s s.heap) (hS : va_S A s.heap H locs) (hsize : ls.size = c.maxLocals)
    (d0 : decode cc pc = .ok (.new ik, 3)) (d3 : decode cc (pc + 3) = .ok (.dup, 1)) (d4 : decode cc (pc + 4) = .ok (.ldc_w is, 3)) (d7 : decode cc (pc + 7) = .ok (.invokespecial ic, 3)) (d10 : decode cc (pc + 10) = .ok (.athrow, 1))
    (hout : ∀ x ∈ c.exceptionTable.toList, covers x (pc + 10) = false)
    (hRframes : names.length + 3 < R.frames) (hRlocals : (rest.map fun v => v.category).sum + (13 * (names.length + 1) + 43) ≤ R.locals) (hRcells : cells + 1 ≤ R.cells) (hRslots : slots + 6 ≤ R.slots) (hlocks : meth.locks = false)
    (hx : ∀ t : State, s.vm.Alike t.vm → H.size ≤ t.heap.size → (∀ q : Nat, q < H.size → t.heap[q]? = H[q]?) → XC cls s t)
    (hf : ∀ z ∈ locs, free z.base) (hc : cells + 1 ≤ mc) (hs : slots + 6 ≤ ms) :
    W p l e R s m args below meth c H locs cells slots (vx_MQ below Qc XC args s mc ms free) (F0 m pc ls rest) := by
  intro T hT X
  have htr : e.platform.stackTraces = false := (show e.platform.stackTraces = l.stackTraces by rw [X.admits.platform]).trans hl
  have Y := vx_rebase X (R' := { frames := R.frames, locals := R.locals, cells := 1, slots := 6 }) (Nat.le_refl _) (Nat.le_refl _) hRcells hRslots
  obtain ⟨s', hA⟩ : ∃ z, z = (T.setVm s.vm).setFrames (.invoking m args :: below) := ⟨_, rfl⟩
  rw [← hA] at Y
  have hvm : s'.vm = s.vm := by rw [hA]; rfl
  have hhp : s'.heap = H := by rw [hA]; exact hT
  have hW0 : s.WarmedH s'.vm := by rw [hvm]; exact State.WarmedH.refl s
  have hat' : ∀ w ∈ vx_atS own ic cls names, w.before args s' = true := fun w hw => vx_ot_at hW0 hvm.symm (hgood w (List.mem_cons_of_mem _ (List.mem_cons_of_mem _ hw))) (hat w hw)
  have hk' : (Cond.classLink own ik cls).before args s' = true := vx_ot_at hW0 hvm.symm (hgood _ List.mem_cons_self) hk
  have hini' : (Cond.initialized cls).before args s' = true := vx_ot_at hW0 hvm.symm (hgood _ (List.mem_cons_of_mem _ List.mem_cons_self)) hini
  have hU' : vx_Zq Bundle.tN "UNASSIGNED_STACK" Bundle.steD A s' s'.heap := by rw [hhp]; exact vx_Zq.moved hW0.alike (hU.kept hS.2.1)
  have hN' : vx_Zq Bundle.tN "SUPPRESSED_SENTINEL" Bundle.listD A s' s'.heap := by rw [hhp]; exact vx_Zq.moved hW0.alike (hN.kept hS.2.1)
  have h : ∀ w ∈ Bundle.ownAtoms own ic cls names, w.before args s' = true := vx_own hat' (vx_isRefq hU'.1) (vx_isRefq hN'.1) hU'.2.word hN'.2.word
  have hown' : s'.vm.findClass own = some m.cls := by rw [hvm]; exact hown
  have hins : (Cond.instantiable cls 6).before args s' = true := h _ (by simp [Bundle.ownAtoms])
  obtain ⟨vm₁, cX, kX, hfX, hkX, -, -, X₁, st1⟩ := Y.newCold hexec (own := own) (C := cls) (index := ik) (n := 6) hown' hk' hins hini'
    (g := F0 m pc ls rest) rfl (by rw [hb]; exact d0) (Nat.le_refl _) (Nat.le_refl _)
  generalize hT1 : (T.setVm vm₁).pushCell { cls := cX, slots := kX.instanceTypes.map defaultValue, vm := .none } = T1 at X₁ st1
  have hcat : (Value.ref T.heap.size).category = 1 := rfl
  have hcellA : T1.heap[T.heap.size]? = some (freshCell cX kX) := by rw [← hT1]; exact State.heap_pushCell_size _ _
  have d3' : decode c.code (pc + 3) = .ok (.dup, 1) := by rw [hb]; exact d3
  have d4' : decode c.code (pc + 4) = .ok (.ldc_w is, 3) := by rw [hb]; exact d4
  have hstr' : vk_R own is text sa s' := vk_R.warm hW0 hstr
  obtain ⟨U, hsteps, hrun, hend, hW, hsame, ce, hce, hO⟩ := X₁.ctorThrowS hexec htr (own := own) (cls := cls) (names := names) (ic := ic) hown' hcls hnames h (fun x hx => nomatch hx) hfX hkX hcellA (by rw [hhp, hT]; exact Nat.le_refl _) (msg := .ref sa) rfl
    (g := { method := m, pc := pc + 7, locals := ls, stack := .ref sa :: .ref T.heap.size :: .ref T.heap.size :: rest, locked := none }) rfl hsize rfl rfl (rest := rest) rfl
    (by rw [hb]; exact d7) (by rw [hb]; exact d10) hout hRframes (by simp only [List.map_cons, List.sum_cons, hcat]; omega) hlocks
  obtain ⟨f1, f2⟩ := vx_frame hsame
  rw [hhp] at f1 f2
  have hWs : s.WarmedH U.vm := State.WarmedH.trans hW0 hW
  have hcl : s.vm.findClass cls = some ce.cls := by
    have h9 := hO.cls
    rw [hvm] at h9
    exact h9
  have hall : s.sameButNew ({ U with vm := s.vm } : State) locs mc ms := by
    subst hA
    obtain ⟨e1, e2⟩ := hsame
    rw [State.setFrames_setFrames] at e1
    have h2 : (T.setVm s.vm).sameButNew ({ U with vm := s.vm } : State) [] (0 + 1) (0 + 6) := ⟨e1, e2⟩
    have h3 := X.same.trans h2
    rw [List.append_nil] at h3
    exact h3.mono hc hs
  refine ⟨U, ?_, .threw T.heap.size, hrun, hend, Or.inr ⟨T.heap.size, rfl, cls, ce, locs, hx U hWs.alike f1 (fun q hq => f2 q hq (fun z hz => nomatch hz)), hce, hO.vm, hcl, hWs, hall, hf⟩⟩
  refine st1 _ ?_
  show Steps p.tables e below (T1.setTop { method := m, pc := pc + 3, locals := ls, stack := .ref T.heap.size :: rest, locked := none }) _
  jvm_step X₁.here [X₁.here.top, hexec, d3', Value.category]
  exact X₁.ldcStringW hexec (own := own) (text := text) (index := is) (a := sa) hown' hstr'.1 hstr'.2
    (g := { method := m, pc := pc + 4, locals := ls, stack := .ref T.heap.size :: .ref T.heap.size :: rest, locked := none }) rfl d4' _ hsteps
end Ends
section Bodies
variable {l : Launch}
theorem vx_ofW {y : MethodName} {ws ws' : List Cond} {rm : Room} {Pc : Array Value → State → Prop} {Qc : Array Value → State → Outcome → State → Prop} {XC : String → State → State → Prop} {mc ms : Nat} {free : Addr → Prop} {cc : ByteArray} {maxL : Nat} {ret : Option FieldType}
    (hy : plainName y.cls = true) (hw : ws = Cond.code y cc maxL ret :: ws')
    (body : ∀ p e s m args below meth c s₁, BodyLoose p l y (headSpec ws rm) cc maxL ret e s m args below meth c s₁ → c.maxLocals = maxL → (∀ x ∈ c.exceptionTable.toList, False) → Pc args s →
      W p l e (headSpec ws rm).room s m args below meth c s.heap [] 0 0 (vx_MQ below Qc XC args s mc ms free) (entryFrame m args maxL)) : vx_Met l y ws rm Pc Qc XC mc ms free := by
  refine MetFree.of_bodyS (code := cc) (maxLocals := maxL) (ret := ret) hy ?_ ?_
  · intro args s m h hn
    obtain ⟨meth, c, h1, h2, h3, h4, h5, h6, -, -⟩ := Cond.code_spec hn (atoms_spec (ws := ws) h _ (by rw [hw]; exact List.mem_cons_self))
    exact ⟨meth, c, h1, h2, h3, h4, h5, h6⟩
  · intro p e s m args below meth c s₁ B hml hP _
    have hh0 : s₁.heap = s.heap := by rw [B.state]; rfl
    have ht : ∀ x ∈ c.exceptionTable.toList, False := by
      obtain ⟨meth9, c9, h1, h2, -, -, -, -, h7, -⟩ := Cond.code_spec B.named (atoms_spec (ws := ws) B.pre _ (by rw [hw]; exact List.mem_cons_self))
      cases Option.some.inj (h1.symm.trans B.method)
      cases Option.some.inj (h2.symm.trans (Stand.of_body B).code)
      intro x hx
      rw [Array.isEmpty_iff.mp h7] at hx
      cases hx
    obtain ⟨t, a1, o, b1, b2, b3⟩ := body p e s m args below meth c s₁ B hml ht hP s₁ hh0 (Stand.of_body B)
    exact ⟨t, o, a1, b1, b2, b3⟩
/-- the table of a body with handlers -/
theorem vx_table {p : Program} {x y : MethodName} {S : Spec} {cc bytes : ByteArray} {maxL maxL' : Nat} {ret ret' : Option FieldType} {e : Env} {s s₁ : State} {m : MethodId} {args : Array Value} {below : List Frame} {meth : Method} {c : Code} {hh : List (Nat × Nat × Nat × Nat)}
    (B : BodyLoose p l y S cc maxL ret e s m args below meth c s₁) (h : (Cond.codeWith y bytes maxL' ret' hh).before args s = true) : c.exceptionTable.toList = tableOf hh := by
  obtain ⟨m9, meth9, c9, hn9, h1, h2, -, -, h6, -⟩ := Cond.codeWith_spec h
  cases Option.some.inj (hn9.symm.trans B.named)
  cases Option.some.inj (h1.symm.trans B.method)
  cases Option.some.inj (h2.symm.trans (Stand.of_body B).code)
  rw [← h6, table_eq]
end Bodies
end VXA
/-! ===== END ===== -/
/-! ===== BEGIN a static call of a method with an exception table ===== -/
section VXS
variable {p : Program} {l : Launch} {e : Env} {R : Room} {s : State} {m : MethodId} {args : Array Value} {below : List Frame} {meth : Method} {c : Code} {T : State} {H : Heap} {locs : List Loc} {cells slots : Nat}
abbrev vx_CSW (R : Room) (s : State) (args : Array Value) (own : String) (index : Nat) (y : MethodName) (bytes : ByteArray) (maxL : Nat) (ret : Option FieldType) (hh : List (Nat × Nat × Nat × Nat)) (ws : List Cond) (rm : Room) (mc ms n : Nat) : Prop :=
  (rm.cells = mc ∧ rm.slots = ms ∧ rm.frames + 1 ≤ R.frames ∧ 8 + (maxL + 11) + rm.locals ≤ R.locals ∧ (∀ w ∈ ws, ∀ (a' : Array Value) (U : State), s.WarmedH U.vm → w.before a' U = true) ∧ Cond.codeWith y bytes maxL ret hh ∈ ws) ∧
  (Cond.codeWith y bytes maxL ret hh).before args s = true ∧ (Cond.initialized y.cls).before args s = true ∧ (y.cls ≠ "java/lang/invoke/MethodHandle" ∧ y.cls ≠ "java/lang/invoke/VarHandle") ∧
  (∀ sig, parseMethodDescriptor y.desc = some sig → n = sig.parameters.length) ∧ (Cond.methodLink own index y).before args s = true ∧ (Cond.static y).before args s = true
theorem vx_cwSW {own : String} {index maxL mc ms : Nat} {y : MethodName} {bytes : ByteArray} {ret : Option FieldType} {hh : List (Nat × Nat × Nat × Nat)} {Ts ws ws' : List Cond} {rm : Room} (n : Nat) (ht : ∀ w ∈ Ts, w.before args s = true) (hT : GoodIn Ts (va_wsS own index y ws)) (hw : ws = Cond.codeWith y bytes maxL ret hh :: ws') (hrc : rm.cells = mc) (hrs : rm.slots = ms)
    (hd : y.cls ≠ "java/lang/invoke/MethodHandle" ∧ y.cls ≠ "java/lang/invoke/VarHandle" ∧ (parseMethodDescriptor y.desc).map (fun d => d.parameters.length) = some n) (hR : rm.frames + 1 ≤ R.frames ∧ 8 + (maxL + 11) + rm.locals ≤ R.locals) :
    vx_CSW R s args own index y bytes maxL ret hh ws rm mc ms n := by
  have ok : ∀ w ∈ va_wsS own index y ws, w.before args s = true := fun w h => ht w (hT w h).1
  have hG : GoodIn Ts ws := fun w h => hT w (by unfold va_wsS; exact List.mem_append_right _ h)
  have hc : Cond.codeWith y bytes maxL ret hh ∈ ws := by rw [hw]; exact List.mem_cons_self
  refine ⟨⟨hrc, hrs, hR.1, hR.2, pay_in ht hG, hc⟩, ht _ (hG _ hc).1, ok _ (by simp [va_wsS]), ⟨hd.1, hd.2.1⟩, fun sig h => ?_, ok _ (by simp [va_wsS]), ok _ (by simp [va_wsS])⟩
  have h2 := hd.2.2
  rw [h] at h2
  exact (Option.some.inj h2).symm
theorem vx_callSW (X : Stand p l e R s m args below meth c T locs cells slots) (hexec : p.tables.exec = Jvm.exec) {own : String} {index : Nat} {y : MethodName} {bytes : ByteArray} {maxL : Nat} {ret : Option FieldType} {hh : List (Nat × Nat × Nat × Nat)}
    (hown : s.vm.findClass own = some m.cls) (hlink : (Cond.methodLink own index y).before args s = true) (hstat : (Cond.static y).before args s = true) (hinit : (Cond.initialized y.cls).before args s = true)
    (hcode : (Cond.codeWith y bytes maxL ret hh).before args s = true) (hy : y.cls ≠ "java/lang/invoke/MethodHandle" ∧ y.cls ≠ "java/lang/invoke/VarHandle")
    {W9 : Nat} {Pre : Pt → Array Value → Prop} {Post : Pt → Array Value → Option Value → Pt → Prop} (hK : Back l R p e below s args y 3 W9 Pre Post)
    {g : JFrame} (hg : g.method = m) (hsize : g.locals.size = c.maxLocals) {argsL rest : List Value} (hlen : ∀ sig, parseMethodDescriptor y.desc = some sig → argsL.length = sig.parameters.length)
    (hstack : g.stack = argsL.reverse ++ rest) (hW : 2 * g.monitorRoom + (rest.map fun v => v.category).sum ≤ W9) (hdg : decode c.code g.pc = .ok (.invokestatic index, 3))
    (hpre : ∀ vm₁, s.WarmedH vm₁ → Pre ⟨T.setVm vm₁, locs, cells, slots⟩ argsL.toArray) :
    ∃ (v : Option Value) (vm₁ : Vm) (B : Pt), s.WarmedH vm₁ ∧ Stand p l e R s m args below meth c B.U B.locs B.cells B.slots ∧ Post ⟨T.setVm vm₁, locs, cells, slots⟩ argsL.toArray v B ∧
      ∀ target, Steps p.tables e below (B.U.setTop { g with pc := g.pc + 3, stack := v.toList ++ rest }) target → Steps p.tables e below (T.setTop g) target := by
  obtain ⟨mk, methM, cM, hnamed, hmethM, -, -, -, -, -, -, hsigM⟩ := Cond.codeWith_spec hcode
  have hstatic : methM.isStatic = true := Cond.static_spec hnamed hmethM hstat
  obtain ⟨kP, hkP, -⟩ := className_of_methodNamed hnamed
  have hinitP : kP.init = .initialized := Cond.initialized_spec (findClass_of_methodNamed hnamed) hkP hinit
  obtain ⟨vm₁, X₁, hstep₁⟩ := X.invokestatic hexec hown hlink hnamed hmethM hstatic hkP hinitP hy (g := g) hg (argsL := argsL) (rest := rest) (hlen _ hsigM) hstack hdg
  obtain ⟨v, B, X', hpost, hsteps⟩ := hK m meth c ⟨T.setVm vm₁, locs, cells, slots⟩ { g with stack := rest } (.invokestatic index) mk argsL.toArray X₁ hg hsize hdg hW (X₁.named hnamed) (hpre vm₁ X₁.warmed)
  exact ⟨v, vm₁, B, X₁.warmed, X', hpost, fun target h => hstep₁ _ fun acts => by rw [doInvoke_state]; exact hsteps.trans h⟩
theorem vx_runSW {y : MethodName} {bytes cc : ByteArray} {maxL nL mc ms n index : Nat} {ret : Option FieldType} {hh : List (Nat × Nat × Nat × Nat)} {ws : List Cond} {rm : Room} {Pc : Array Value → State → Prop} {Qc : Array Value → State → Outcome → State → Prop} {free : Addr → Prop} {Ts : List Cond} {own : String} {As rest : List Value} {g : JFrame}
    (S : CallFix p m c cc nL s args Ts own) (hM : Met l y ws rm Pc Qc mc ms free) (cw : vx_CSW R s args own index y bytes maxL ret hh ws rm mc ms n) (hp : PreS s H Pc As)
    (hg : g.method = m) (hn : As.length = n) (hsize : g.locals.size = nL) (hstack : g.stack = As.reverse ++ rest) (hW : 2 * g.monitorRoom + (rest.map fun v => v.category).sum ≤ 8) (hdg : decode cc g.pc = .ok (.invokestatic index, 3)) (hf : cells + mc ≤ R.cells ∧ slots + ms ≤ R.slots) :
    va_Run p l e R s m args below meth c H locs cells slots mc ms g rest (Qc As.toArray) (free) := by
  obtain ⟨⟨hrc, hrs, hfr, hlo, hws, hcw⟩, hcode, hini, hy, hlen, hl, hstt⟩ := cw
  have hK : Back l R p e below s args y 3 8 (PreOf R mc ms Pc) (PostOf Qc mc ms free) := va_backW (hh := hh) (bytes := bytes) (maxL := maxL) (ret := ret) hM hp.1 hrc hrs hfr hlo hws hcw (fun a' U hW => word_at hW (Or.inl (by first | rfl | simp [Cond.onTables, Cond.keeps, Cond.steady])) hini)
  obtain ⟨hx, hb, hml, ho, -⟩ := S
  intro T hT X
  obtain ⟨v, vm₁, ⟨U', l2, c2, s2⟩, hW₁, X', ⟨g', mk, t, L, e1, e2, hq, h1, hL, h2, h3⟩, st⟩ := vx_callSW X hx (hh := hh) (bytes := bytes) (maxL := maxL) (ret := ret) ho hl hstt hini hcode hy hK hg (hsize.trans hml.symm) (argsL := As) (rest := rest) (fun sig h => hn.trans (hlen sig h)) hstack hW (by rw [hb]; exact hdg)
    (fun vm₁ hW₁ => ⟨hf.1, hf.2, hp.2 (T.setVm vm₁) hT hW₁⟩)
  dsimp only [Pt.U, Pt.locs, Pt.cells, Pt.slots] at X' e1 e2 h1 h2 h3 st
  subst h1; subst h2; subst h3
  exact ⟨v, (T.setVm vm₁).calling g' mk As.toArray, t, U', L, hT, X', hL, e1, e2, hq, st⟩
/-- not caught here, past rows that name other classes: it goes on to the caller -/
theorem vx_outP {p : Program} {l : Launch} {e : Env} {R : Room} {s : State} {m : MethodId} {args : Array Value} {below : List Frame} {meth : Method} {c : Code} {H : Heap} {locs : List Loc} {cells slots : Nat} {free : Addr → Prop} {ls : Array Slot} {rest : List Value} {Qc : Array Value → State → Outcome → State → Prop} {XC : String → State → State → Prop}
    {pc : Nat} {own E : String} {ce : Cell} {q : Addr} {mc ms : Nat} (hown : s.vm.findClass own = some m.cls) (hlocks : meth.locks = false)
    (hpass : ∀ z ∈ c.exceptionTable.toList, covers z pc = false ∨ (z.catchType ≠ 0 ∧ ∃ nm : String, (Cond.classLink own z.catchType nm).before args s = true ∧ va_Nc E nm s)) (hcell : H[q]? = some ce) (hv : ce.vm = .none) (hcl : s.vm.findClass E = some ce.cls)
    (hx : ∀ t : State, t.heap = H → s.vm.Alike t.vm → XC E s t) (hf : ∀ z ∈ locs, free z.base) (hc : cells ≤ mc) (hs : slots ≤ ms) :
    vx_W p l e R s m args below meth c H locs cells slots (vx_MQ below Qc XC args s mc ms free) (F0 m pc ls rest) q := by
  intro T hT X
  have hpl : e.platform.magicAccessors = ({} : Platform).magicAccessors := by rw [X.admits.platform]
  obtain ⟨vm', hW', X', st⟩ := X.outThrough hlocks q (g := F0 m pc ls rest) rfl rfl rfl (cell := ce) (by rw [hT]; exact hcell) (by rw [hv]; rfl)
    (by obtain ⟨k9, h9, -⟩ := Vm.findClass_spec hcl; exact ⟨k9, h9⟩) (fun z hz => by
      rcases hpass z hz with h | ⟨hz0, nm, hl1, hn1⟩
      · exact Or.inl h
      · obtain ⟨c6, hc6, hcl6⟩ := Cond.classLink_spec hown hl1 e.platform hpl
        obtain ⟨a8, b8, h1, h2, h3⟩ := hn1
        cases Option.some.inj (h1.symm.trans hcl)
        cases Option.some.inj (h2.symm.trans hc6)
        exact Or.inr ⟨hz0, _, hcl6, h3⟩)
  obtain ⟨g₀, hfr⟩ := X'.frames_eq
  have hcell9 : ((T.setVm vm').setFrames (.throwing q :: below)).heap[q]? = some ce := by
    show T.heap[q]? = some ce
    rw [hT]; exact hcell
  have hend : Ended ((T.setVm vm').setFrames (.throwing q :: below)) below (.threw q) := State.frames_setFrames _ (State.cur_lt_of_frames hfr)
  refine ⟨(T.setVm vm').setFrames (.throwing q :: below), ?_, .threw q, X'.here.running, hend, Or.inr ⟨q, rfl, E, ce, locs, hx _ hT (X'.ends _).1.alike, hcell9, hv, hcl, (X'.ends _).1, (X'.ends _).2.mono hc hs, hf⟩⟩
  rw [X.pushThrowing_eq]
  exact st
/-- a thing of a world lies in the heap -/
theorem vx_lt {D : va_G} {cl : List vw_C} {ws : va_W} {H1 : Heap} (h : va_P D cl ws H1) {k : Nat} {q : Nat × va_E} (hk : ws[k]? = some q) : q.1 < H1.size := (h k q hk).lt
end VXS
/-! ===== END ===== -/
/-! ===== BEGIN methods with a table of their own: called by a name, returning or throwing ===== -/
section VXH
/-! vx_backW, vx_callVX, vx_callSX, vx_callVW, vx_runVW, vx_runVX, vx_runSX, vx_ofWH follow the same proofs as their sisters above (Free/Laws.lean, Shelf42/LK1.lean); vx_outP calls Shelf42/NT130.lean (outThrough). -/
section
variable {l : Launch} {R : Room} {p : Program} {e : Env} {below : List Frame} {s : State} {sargs : Array Value} {y : MethodName} {len W9 : Nat}
theorem vx_backW {ws : List Cond} {rm : Room} {Pc : Array Value → State → Prop} {Qc : Array Value → State → Outcome → State → Prop} {XC : String → State → State → Prop} {mc ms : Nat} {free : Addr → Prop} {bytes : ByteArray} {maxL : Nat} {ret : Option FieldType} {hh : List (Nat × Nat × Nat × Nat)}
    (hM : vx_Met l y ws rm Pc Qc XC mc ms free) (hblind : FrameBlind Pc) (hrc : rm.cells = mc) (hrs : rm.slots = ms)
    (hframes : rm.frames + 1 ≤ R.frames) (hlocals : W9 + (maxL + 11) + rm.locals ≤ R.locals)
    (hws : ∀ w ∈ ws, ∀ a' U, s.WarmedH U.vm → w.before a' U = true) (hcode : Cond.codeWith y bytes maxL ret hh ∈ ws) (hinit : ∀ a' U, s.WarmedH U.vm → (Cond.initialized y.cls).before a' U = true) :
    vx_Back l R p e below s sargs y len W9 (PreOf R mc ms Pc) (PostOf Qc mc ms free) (vx_Post XC mc ms free) := by
  intro m meth c A g ig mk a X hg hsize hdg hW hn hp
  have h1 : (headSpec ws rm).pre.before a A.U = true := atoms_intro fun w hw => hws w hw _ _ X.warmed
  have h2 : (Cond.codeWith y bytes maxL ret hh).before a A.U = true := hws _ hcode _ _ X.warmed
  have h3 : (Cond.initialized y.cls).before a A.U = true := hinit _ _ X.warmed
  have h4 : A.cells + (headSpec ws rm).room.cells ≤ R.cells := by rw [show (headSpec ws rm).room.cells = mc from hrc]; exact hp.1
  have h5 : A.slots + (headSpec ws rm).room.slots ≤ R.slots := by rw [show (headSpec ws rm).room.slots = ms from hrs]; exact hp.2.1
  have hPc : Pc a (A.U.calling g mk a) := hblind _ _ _ _ hp.2.2
  obtain ⟨U, Ls, c0, s0⟩ := A
  dsimp only [Pt.U, Pt.locs, Pt.cells, Pt.slots] at h1 h2 h3 h4 h5 X hn hPc ⊢
  obtain ⟨m9, methY, cY, hn9, hmY, hcY, -, hlY, -⟩ := Cond.codeWith_spec h2
  cases Option.some.inj (hn9.symm.trans hn)
  obtain ⟨kY, hkY, -⟩ := className_of_methodNamed hn
  have hinitY : kY.init = .initialized := Cond.initialized_spec (findClass_of_methodNamed hn) hkY h3
  have h : At U g.method c below := by rw [hg]; exact X.here
  have hlocals9 : W9 + (maxL + 11) + (headSpec ws rm).room.locals ≤ R.locals := hlocals
  have happ : (headSpec ws rm).appliesLoose y e.platform (U.calling g mk a) = true :=
    Spec.appliesLoose_calling (g := g) h hdg hn hkY hinitY
      (X.room_calling (g := g) (R' := (headSpec ws rm).room) hsize hmY hcY hframes (by rw [hlY]; omega) h4 h5) h1
  obtain ⟨mid, hmid⟩ := h.above
  have hfr : (U.setTop g).frames = (.java g :: mid) ++ below := by rw [State.frames_setTop' g h.top, hmid]; rfl
  obtain ⟨o, s₂, hsteps, -, hend, hq⟩ := Steps.callFree hM p X.admits X.cas X.clock (acts := []) hfr happ hPc trivial
  have hq' : vx_Q Qc XC mc ms free a (U.calling g mk a) o s₂ := hq
  rw [State.frames_setTop' g h.top] at hend
  obtain ⟨g₀, hg0⟩ := Option.isSome_iff_exists.mp h.top
  obtain ⟨r, hr⟩ := State.topJava?_eq_some.mp hg0
  have hr' : (({ U with heap := s₂.heap, slotsUsed := s₂.slotsUsed } : State).setVm s₂.vm).frames = .java g₀ :: r := hr
  rcases hq' with ⟨hqc, L, hfe, hL⟩ | ⟨q, rfl, E, ce, L, hx, hce, hcv, hcl, hW₂, hsm, hL⟩
  · obtain ⟨⟨v, rfl⟩, hW₂, e2, q2, q3, q4, q5, q6⟩ := id hfe
    have e3 : s₂ = ({ (U.calling g mk a).setFrames s₂.frames with heap := s₂.heap, slotsUsed := s₂.slotsUsed } : State).setVm s₂.vm := by
      have : s₂ = ({ s₂ with vm := (U.calling g mk a).vm } : State).setVm s₂.vm := rfl
      rw [e2] at this
      exact this
    obtain ⟨c₂, i₂, len₂, hc₂, hd₂, hf₂⟩ := hend
    have hW' : U.WarmedH s₂.vm := hW₂
    have hcc : c₂ = c := by
      have h1 : s₂.code? g.method = U.code? g.method := by
        rw [State.code?_eq, State.code?_eq, hW'.alike.method?]
      exact Option.some.inj (hc₂.symm.trans (h1.trans h.code))
    subst hcc
    have hlen : len₂ = len := by rw [hdg] at hd₂; cases hd₂; rfl
    subst hlen
    have hs₂ : s₂ = (({ U with heap := s₂.heap, slotsUsed := s₂.slotsUsed } : State).setVm s₂.vm).setTop { g with pc := g.pc + len₂, stack := v.toList ++ g.stack } := by
      refine e3.trans ?_
      rw [hf₂, State.calling_eq h.top, State.setFrames_setFrames, State.setTop_of_frames _ hr', hr]
      rfl
    have hsame : U.sameButNew ({ U with heap := s₂.heap, slotsUsed := s₂.slotsUsed } : State) L mc ms := by
      refine ⟨?_, q2, q3, q4, q5, q6⟩
      obtain ⟨t, ht, -⟩ := State.frames_cons hr
      show ({ U with heap := s₂.heap, slotsUsed := s₂.slotsUsed } : State) = { U.setFrames U.frames with heap := s₂.heap, slotsUsed := s₂.slotsUsed }
      rw [State.setFrames_self ht]
    subst hg
    refine Or.inl ⟨v, ⟨(({ U with heap := s₂.heap, slotsUsed := s₂.slotsUsed } : State).setVm s₂.vm), Ls ++ L, c0 + mc, s0 + ms⟩,
      ⟨X.admits, X.cas, X.clock, X.frames, X.room, X.hears, X.method, X.code, (X.here.setHeapUsed s₂.heap s₂.slotsUsed).setVm hW'.alike, X.tail, State.WarmedH.trans X.warmed hW', X.limits, X.bytes, X.same.trans (hsame.setVm s.vm)⟩,
      ⟨g, mk, s₂, L, rfl, rfl, hqc, rfl, hL, rfl, rfl⟩, ?_⟩
    show Steps p.tables e below _ ((({ U with heap := s₂.heap, slotsUsed := s₂.slotsUsed } : State).setVm s₂.vm).setTop { g with pc := g.pc + len₂, stack := v.toList ++ g.stack })
    rw [← hs₂]
    exact hsteps
  · obtain ⟨e2, q2, q3, q4, q5, q6⟩ := id hsm
    have e3 : s₂ = ({ (U.calling g mk a).setFrames s₂.frames with heap := s₂.heap, slotsUsed := s₂.slotsUsed } : State).setVm s₂.vm := by
      have : s₂ = ({ s₂ with vm := (U.calling g mk a).vm } : State).setVm s₂.vm := rfl
      rw [e2] at this
      exact this
    have hf₂ : s₂.frames = .throwing q :: .java g :: U.frames.tail := hend
    have hW' : U.WarmedH s₂.vm := hW₂
    have hs₂ : s₂ = ((({ U with heap := s₂.heap, slotsUsed := s₂.slotsUsed } : State).setVm s₂.vm).setTop g).pushFrame (.throwing q) := by
      refine e3.trans ?_
      rw [hf₂, State.calling_eq h.top, State.setFrames_setFrames, State.pushFrame, State.frames_setTop _ hr', State.setTop_of_frames _ hr', State.setFrames_setFrames, hr]
      rfl
    have hsame : U.sameButNew ({ U with heap := s₂.heap, slotsUsed := s₂.slotsUsed } : State) L mc ms := by
      refine ⟨?_, q2, q3, q4, q5, q6⟩
      obtain ⟨t, ht, -⟩ := State.frames_cons hr
      show ({ U with heap := s₂.heap, slotsUsed := s₂.slotsUsed } : State) = { U.setFrames U.frames with heap := s₂.heap, slotsUsed := s₂.slotsUsed }
      rw [State.setFrames_self ht]
    subst hg
    refine Or.inr ⟨q, ⟨(({ U with heap := s₂.heap, slotsUsed := s₂.slotsUsed } : State).setVm s₂.vm), Ls ++ L, c0 + mc, s0 + ms⟩,
      ⟨X.admits, X.cas, X.clock, X.frames, X.room, X.hears, X.method, X.code, (X.here.setHeapUsed s₂.heap s₂.slotsUsed).setVm hW'.alike, X.tail, State.WarmedH.trans X.warmed hW', X.limits, X.bytes, X.same.trans (hsame.setVm s.vm)⟩,
      ⟨g, mk, s₂, L, E, ce, rfl, rfl, hx, hce, hcv, hcl, rfl, hL, rfl, rfl⟩, ?_⟩
    show Steps p.tables e below _ (((({ U with heap := s₂.heap, slotsUsed := s₂.slotsUsed } : State).setVm s₂.vm).setTop g).pushFrame (.throwing q))
    rw [← hs₂]
    exact hsteps
end
variable {p : Program} {l : Launch} {e : Env} {R : Room} {s : State} {m : MethodId} {args : Array Value} {below : List Frame} {meth : Method} {c : Code} {T : State} {H : Heap} {locs : List Loc} {cells slots : Nat}
theorem vx_callVX (X : Stand p l e R s m args below meth c T locs cells slots) (hexec : p.tables.exec = Jvm.exec) {own C : String} {index : Nat} {y : MethodName} {bytes : ByteArray} {maxL : Nat} {ret : Option FieldType} {hh : List (Nat × Nat × Nat × Nat)}
    (hown : s.vm.findClass own = some m.cls) (hlink : (Cond.methodLink own index y).before args s = true) (hinst : (Cond.instanceMethod y).before args s = true) (hsel : (Cond.selects C y y).before args s = true)
    (hcode : (Cond.codeWith y bytes maxL ret hh).before args s = true) (hy : y.cls ≠ "java/lang/invoke/MethodHandle" ∧ y.cls ≠ "java/lang/invoke/VarHandle")
    {W9 : Nat} {Pre : Pt → Array Value → Prop} {Post : Pt → Array Value → Option Value → Pt → Prop} {PostX : Pt → Array Value → Addr → Pt → Prop} (hK : vx_Back l R p e below s args y 3 W9 Pre Post PostX)
    {b : Addr} {cellB : Cell} (hcell : T.heap[b]? = some cellB) (hobj : cellB.vm.isStatics = false) (hcls : s.vm.findClass C = some cellB.cls)
    {g : JFrame} (hg : g.method = m) (hsize : g.locals.size = c.maxLocals) {argsL rest : List Value} (hlen : ∀ sig, parseMethodDescriptor y.desc = some sig → argsL.length = sig.parameters.length)
    (hstack : g.stack = argsL.reverse ++ .ref b :: rest) (hW : 2 * g.monitorRoom + (rest.map fun v => v.category).sum ≤ W9) (hdg : decode c.code g.pc = .ok (.invokevirtual index, 3))
    (hpre : ∀ vm₁, s.WarmedH vm₁ → Pre ⟨T.setVm vm₁, locs, cells, slots⟩ (Value.ref b :: argsL).toArray) :
    (∃ (v : Option Value) (vm₁ : Vm) (B : Pt), s.WarmedH vm₁ ∧ Stand p l e R s m args below meth c B.U B.locs B.cells B.slots ∧ Post ⟨T.setVm vm₁, locs, cells, slots⟩ (Value.ref b :: argsL).toArray v B ∧
      ∀ target, Steps p.tables e below (B.U.setTop { g with pc := g.pc + 3, stack := v.toList ++ rest }) target → Steps p.tables e below (T.setTop g) target) ∨
    (∃ (q : Addr) (vm₁ : Vm) (B : Pt), s.WarmedH vm₁ ∧ Stand p l e R s m args below meth c B.U B.locs B.cells B.slots ∧ PostX ⟨T.setVm vm₁, locs, cells, slots⟩ (Value.ref b :: argsL).toArray q B ∧
      Steps p.tables e below (T.setTop g) ((B.U.setTop { g with stack := rest }).pushFrame (.throwing q))) := by
  obtain ⟨mk, methM, hnamed, hmethM, hstM, habM⟩ := Cond.instanceMethod_spec hinst
  obtain ⟨m8, methM', cM, hn8, hmethM', -, -, -, -, -, -, hsigM⟩ := Cond.codeWith_spec hcode
  cases Option.some.inj (hn8.symm.trans hnamed)
  cases hmethM.symm.trans hmethM'
  obtain ⟨c2, r2, m2, q1, q2, q3, q4, kP, hkP, hkPi⟩ := Cond.selects_spec hsel
  cases hcls.symm.trans q1
  cases (State.methodFound?_of_named hnamed hy).symm.trans q2
  cases hnamed.symm.trans q3
  have hselP : selectMethod e.platform s.vm cellB.cls mk = .method mk := by rw [Launch.admits_selectMethod X.admits]; exact q4
  obtain ⟨vm₁, X₁, hstep₁⟩ := X.invokevirtual hexec hown hlink hnamed hmethM hstM hkP hkPi hy (a := b) (cell := cellB) hcell
    (fun z h => by rw [h] at hobj; cases hobj) hselP hmethM habM hkP hkPi (g := g) hg (argsL := argsL) (rest := rest) (hlen _ hsigM) hstack hdg
  rcases hK m meth c ⟨T.setVm vm₁, locs, cells, slots⟩ { g with stack := rest } (.invokevirtual index) mk (Value.ref b :: argsL).toArray X₁ hg hsize hdg hW (X₁.named hnamed) (hpre vm₁ X₁.warmed) with ⟨v, B, X', hpost, hsteps⟩ | ⟨q, B, X', hpost, hsteps⟩
  · exact Or.inl ⟨v, vm₁, B, X₁.warmed, X', hpost, fun target h => hstep₁ _ fun acts => by rw [doInvoke_state]; exact hsteps.trans h⟩
  · exact Or.inr ⟨q, vm₁, B, X₁.warmed, X', hpost, hstep₁ _ fun acts => by rw [doInvoke_state]; exact hsteps⟩
theorem vx_callSX (X : Stand p l e R s m args below meth c T locs cells slots) (hexec : p.tables.exec = Jvm.exec) {own : String} {index : Nat} {y : MethodName} {bytes : ByteArray} {maxL : Nat} {ret : Option FieldType} {hh : List (Nat × Nat × Nat × Nat)}
    (hown : s.vm.findClass own = some m.cls) (hlink : (Cond.methodLink own index y).before args s = true) (hstat : (Cond.static y).before args s = true) (hinit : (Cond.initialized y.cls).before args s = true)
    (hcode : (Cond.codeWith y bytes maxL ret hh).before args s = true) (hy : y.cls ≠ "java/lang/invoke/MethodHandle" ∧ y.cls ≠ "java/lang/invoke/VarHandle")
    {W9 : Nat} {Pre : Pt → Array Value → Prop} {Post : Pt → Array Value → Option Value → Pt → Prop} {PostX : Pt → Array Value → Addr → Pt → Prop} (hK : vx_Back l R p e below s args y 3 W9 Pre Post PostX)
    {g : JFrame} (hg : g.method = m) (hsize : g.locals.size = c.maxLocals) {argsL rest : List Value} (hlen : ∀ sig, parseMethodDescriptor y.desc = some sig → argsL.length = sig.parameters.length)
    (hstack : g.stack = argsL.reverse ++ rest) (hW : 2 * g.monitorRoom + (rest.map fun v => v.category).sum ≤ W9) (hdg : decode c.code g.pc = .ok (.invokestatic index, 3))
    (hpre : ∀ vm₁, s.WarmedH vm₁ → Pre ⟨T.setVm vm₁, locs, cells, slots⟩ argsL.toArray) :
    (∃ (v : Option Value) (vm₁ : Vm) (B : Pt), s.WarmedH vm₁ ∧ Stand p l e R s m args below meth c B.U B.locs B.cells B.slots ∧ Post ⟨T.setVm vm₁, locs, cells, slots⟩ argsL.toArray v B ∧
      ∀ target, Steps p.tables e below (B.U.setTop { g with pc := g.pc + 3, stack := v.toList ++ rest }) target → Steps p.tables e below (T.setTop g) target) ∨
    (∃ (q : Addr) (vm₁ : Vm) (B : Pt), s.WarmedH vm₁ ∧ Stand p l e R s m args below meth c B.U B.locs B.cells B.slots ∧ PostX ⟨T.setVm vm₁, locs, cells, slots⟩ argsL.toArray q B ∧
      Steps p.tables e below (T.setTop g) ((B.U.setTop { g with stack := rest }).pushFrame (.throwing q))) := by
  obtain ⟨mk, methM, cM, hnamed, hmethM, -, -, -, -, -, -, hsigM⟩ := Cond.codeWith_spec hcode
  have hstatic : methM.isStatic = true := Cond.static_spec hnamed hmethM hstat
  obtain ⟨kP, hkP, -⟩ := className_of_methodNamed hnamed
  have hinitP : kP.init = .initialized := Cond.initialized_spec (findClass_of_methodNamed hnamed) hkP hinit
  obtain ⟨vm₁, X₁, hstep₁⟩ := X.invokestatic hexec hown hlink hnamed hmethM hstatic hkP hinitP hy (g := g) hg (argsL := argsL) (rest := rest) (hlen _ hsigM) hstack hdg
  rcases hK m meth c ⟨T.setVm vm₁, locs, cells, slots⟩ { g with stack := rest } (.invokestatic index) mk argsL.toArray X₁ hg hsize hdg hW (X₁.named hnamed) (hpre vm₁ X₁.warmed) with ⟨v, B, X', hpost, hsteps⟩ | ⟨q, B, X', hpost, hsteps⟩
  · exact Or.inl ⟨v, vm₁, B, X₁.warmed, X', hpost, fun target h => hstep₁ _ fun acts => by rw [doInvoke_state]; exact hsteps.trans h⟩
  · exact Or.inr ⟨q, vm₁, B, X₁.warmed, X', hpost, hstep₁ _ fun acts => by rw [doInvoke_state]; exact hsteps⟩
theorem vx_callVW (X : Stand p l e R s m args below meth c T locs cells slots) (hexec : p.tables.exec = Jvm.exec) {own C : String} {index : Nat} {y : MethodName} {bytes : ByteArray} {maxL : Nat} {ret : Option FieldType} {hh : List (Nat × Nat × Nat × Nat)}
    (hown : s.vm.findClass own = some m.cls) (hlink : (Cond.methodLink own index y).before args s = true) (hinst : (Cond.instanceMethod y).before args s = true) (hsel : (Cond.selects C y y).before args s = true)
    (hcode : (Cond.codeWith y bytes maxL ret hh).before args s = true) (hy : y.cls ≠ "java/lang/invoke/MethodHandle" ∧ y.cls ≠ "java/lang/invoke/VarHandle")
    {W9 : Nat} {Pre : Pt → Array Value → Prop} {Post : Pt → Array Value → Option Value → Pt → Prop} (hK : Back l R p e below s args y 3 W9 Pre Post)
    {b : Addr} {cellB : Cell} (hcell : T.heap[b]? = some cellB) (hobj : cellB.vm.isStatics = false) (hcls : s.vm.findClass C = some cellB.cls)
    {g : JFrame} (hg : g.method = m) (hsize : g.locals.size = c.maxLocals) {argsL rest : List Value} (hlen : ∀ sig, parseMethodDescriptor y.desc = some sig → argsL.length = sig.parameters.length)
    (hstack : g.stack = argsL.reverse ++ .ref b :: rest) (hW : 2 * g.monitorRoom + (rest.map fun v => v.category).sum ≤ W9) (hdg : decode c.code g.pc = .ok (.invokevirtual index, 3))
    (hpre : ∀ vm₁, s.WarmedH vm₁ → Pre ⟨T.setVm vm₁, locs, cells, slots⟩ (Value.ref b :: argsL).toArray) :
    ∃ (v : Option Value) (vm₁ : Vm) (B : Pt), s.WarmedH vm₁ ∧ Stand p l e R s m args below meth c B.U B.locs B.cells B.slots ∧ Post ⟨T.setVm vm₁, locs, cells, slots⟩ (Value.ref b :: argsL).toArray v B ∧
      ∀ target, Steps p.tables e below (B.U.setTop { g with pc := g.pc + 3, stack := v.toList ++ rest }) target → Steps p.tables e below (T.setTop g) target := by
  obtain ⟨mk, methM, hnamed, hmethM, hstM, habM⟩ := Cond.instanceMethod_spec hinst
  obtain ⟨m8, methM', cM, hn8, hmethM', -, -, -, -, -, -, hsigM⟩ := Cond.codeWith_spec hcode
  cases Option.some.inj (hn8.symm.trans hnamed)
  cases hmethM.symm.trans hmethM'
  obtain ⟨c2, r2, m2, q1, q2, q3, q4, kP, hkP, hkPi⟩ := Cond.selects_spec hsel
  cases hcls.symm.trans q1
  cases (State.methodFound?_of_named hnamed hy).symm.trans q2
  cases hnamed.symm.trans q3
  have hselP : selectMethod e.platform s.vm cellB.cls mk = .method mk := by rw [Launch.admits_selectMethod X.admits]; exact q4
  obtain ⟨vm₁, X₁, hstep₁⟩ := X.invokevirtual hexec hown hlink hnamed hmethM hstM hkP hkPi hy (a := b) (cell := cellB) hcell
    (fun z h => by rw [h] at hobj; cases hobj) hselP hmethM habM hkP hkPi (g := g) hg (argsL := argsL) (rest := rest) (hlen _ hsigM) hstack hdg
  obtain ⟨v, B, X', hpost, hsteps⟩ := hK m meth c ⟨T.setVm vm₁, locs, cells, slots⟩ { g with stack := rest } (.invokevirtual index) mk (Value.ref b :: argsL).toArray X₁ hg hsize hdg hW (X₁.named hnamed) (hpre vm₁ X₁.warmed)
  exact ⟨v, vm₁, B, X₁.warmed, X', hpost, fun target h => hstep₁ _ fun acts => by rw [doInvoke_state]; exact hsteps.trans h⟩
abbrev vx_CVW (R : Room) (s : State) (args : Array Value) (own C : String) (index : Nat) (y : MethodName) (bytes : ByteArray) (maxL : Nat) (ret : Option FieldType) (hh : List (Nat × Nat × Nat × Nat)) (ws : List Cond) (rm : Room) (mc ms n : Nat) : Prop :=
  (rm.cells = mc ∧ rm.slots = ms ∧ rm.frames + 1 ≤ R.frames ∧ 8 + (maxL + 11) + rm.locals ≤ R.locals ∧ (∀ w ∈ ws, ∀ (a' : Array Value) (U : State), s.WarmedH U.vm → w.before a' U = true) ∧ Cond.codeWith y bytes maxL ret hh ∈ ws) ∧
  (Cond.codeWith y bytes maxL ret hh).before args s = true ∧ (Cond.initialized y.cls).before args s = true ∧ (y.cls ≠ "java/lang/invoke/MethodHandle" ∧ y.cls ≠ "java/lang/invoke/VarHandle") ∧
  (∀ sig, parseMethodDescriptor y.desc = some sig → n = sig.parameters.length) ∧ (Cond.methodLink own index y).before args s = true ∧ (Cond.instanceMethod y).before args s = true ∧ (Cond.selects C y y).before args s = true
theorem vx_cwVW {own C : String} {index maxL mc ms : Nat} {y : MethodName} {bytes : ByteArray} {ret : Option FieldType} {hh : List (Nat × Nat × Nat × Nat)} {Ts ws ws' : List Cond} {rm : Room} (n : Nat) (ht : ∀ w ∈ Ts, w.before args s = true) (hT : GoodIn Ts (wsV own index C y ws)) (hw : ws = Cond.codeWith y bytes maxL ret hh :: ws') (hrc : rm.cells = mc) (hrs : rm.slots = ms)
    (hd : y.cls = C ∧ y.cls ≠ "java/lang/invoke/MethodHandle" ∧ y.cls ≠ "java/lang/invoke/VarHandle" ∧ (parseMethodDescriptor y.desc).map (fun d => d.parameters.length) = some n) (hR : rm.frames + 1 ≤ R.frames ∧ 8 + (maxL + 11) + rm.locals ≤ R.locals) :
    vx_CVW R s args own C index y bytes maxL ret hh ws rm mc ms n := by
  obtain ⟨hC, hd⟩ := hd
  subst hC
  have ok : ∀ w ∈ wsV own index y.cls y ws, w.before args s = true := fun w h => ht w (hT w h).1
  have hG : GoodIn Ts ws := fun w h => hT w (by unfold wsV; exact List.mem_append_right _ h)
  have hc : Cond.codeWith y bytes maxL ret hh ∈ ws := by rw [hw]; exact List.mem_cons_self
  refine ⟨⟨hrc, hrs, hR.1, hR.2, pay_in ht hG, hc⟩, ht _ (hG _ hc).1, ok _ (by simp [wsV]), ⟨hd.1, hd.2.1⟩, fun sig h => ?_, ok _ (by simp [wsV]), ok _ (by simp [wsV]), ok _ (by simp [wsV])⟩
  have h2 := hd.2.2
  rw [h] at h2
  exact (Option.some.inj h2).symm
theorem vx_runVW {y : MethodName} {bytes cc : ByteArray} {maxL nL mc ms n index : Nat} {ret : Option FieldType} {hh : List (Nat × Nat × Nat × Nat)} {ws : List Cond} {rm : Room} {Pc : Array Value → State → Prop} {Qc : Array Value → State → Outcome → State → Prop} {free : Addr → Prop} {Ts : List Cond} {own C : String} {b : Addr} {As rest : List Value} {g : JFrame}
    (S : CallFix p m c cc nL s args Ts own) (hM : Met l y ws rm Pc Qc mc ms free) (cw : vx_CVW R s args own C index y bytes maxL ret hh ws rm mc ms n) (hp : PreV s H C b Pc As)
    (hg : g.method = m) (hn : As.length = n) (hsize : g.locals.size = nL) (hstack : g.stack = As.reverse ++ .ref b :: rest) (hW : 2 * g.monitorRoom + (rest.map fun v => v.category).sum ≤ 8) (hdg : decode cc g.pc = .ok (.invokevirtual index, 3)) (hf : cells + mc ≤ R.cells ∧ slots + ms ≤ R.slots) :
    va_Run p l e R s m args below meth c H locs cells slots mc ms g rest (Qc (Value.ref b :: As).toArray) free := by
  obtain ⟨⟨hrc, hrs, hfr, hlo, hws, hcw⟩, hcode, hini, hy, hlen, hl, hin, hse⟩ := cw
  have hK : Back l R p e below s args y 3 8 (PreOf R mc ms Pc) (PostOf Qc mc ms free) := va_backW (hh := hh) (bytes := bytes) (maxL := maxL) (ret := ret) hM hp.1 hrc hrs hfr hlo hws hcw (fun a' U hW => word_at hW (Or.inl (by first | rfl | simp [Cond.onTables, Cond.keeps, Cond.steady])) hini)
  obtain ⟨hx, hb, hml, ho, -⟩ := S
  obtain ⟨-, ⟨cellB, hcB, hoB, hclB⟩, hPc⟩ := hp
  intro T hT X
  obtain ⟨v, vm₁, ⟨U', l2, c2, s2⟩, hW₁, X', ⟨g', mk, t, L, e1, e2, hq, h1, hL, h2, h3⟩, st⟩ := vx_callVW X hx (C := C) (hh := hh) (bytes := bytes) (maxL := maxL) (ret := ret) ho hl hin hse hcode hy hK (by rw [hT]; exact hcB) hoB hclB hg (hsize.trans hml.symm) (argsL := As) (rest := rest) (fun sig h => hn.trans (hlen sig h)) hstack hW (by rw [hb]; exact hdg)
    (fun vm₁ hW₁ => ⟨hf.1, hf.2, hPc (T.setVm vm₁) hT hW₁⟩)
  dsimp only [Pt.U, Pt.locs, Pt.cells, Pt.slots] at X' e1 e2 h1 h2 h3 st
  subst h1; subst h2; subst h3
  exact ⟨v, (T.setVm vm₁).calling g' mk (Value.ref b :: As).toArray, t, U', L, hT, X', hL, e1, e2, hq, st⟩
section
variable {y : MethodName} {bytes cc : ByteArray} {maxL nL mc ms n index : Nat} {ret : Option FieldType} {ws : List Cond} {rm : Room} {Pc : Array Value → State → Prop} {Qc : Array Value → State → Outcome → State → Prop} {XC : String → State → State → Prop} {free : Addr → Prop} {Ts : List Cond} {own C : String} {b : Addr} {As rest : List Value} {g : JFrame}
theorem vx_runVX {hh : List (Nat × Nat × Nat × Nat)} (S : CallFix p m c cc nL s args Ts own) (hM : vx_Met l y ws rm Pc Qc XC mc ms free) (cw : vx_CVW R s args own C index y bytes maxL ret hh ws rm mc ms n) (hp : PreV s H C b Pc As)
    (hg : g.method = m) (hn : As.length = n) (hsize : g.locals.size = nL) (hstack : g.stack = As.reverse ++ .ref b :: rest) (hW : 2 * g.monitorRoom + (rest.map fun v => v.category).sum ≤ 8) (hdg : decode cc g.pc = .ok (.invokevirtual index, 3)) (hf : cells + mc ≤ R.cells ∧ slots + ms ≤ R.slots) :
    vx_Run p l e R s m args below meth c H locs cells slots mc ms g rest (Qc (Value.ref b :: As).toArray) XC free := by
  obtain ⟨⟨hrc, hrs, hfr, hlo, hws, hcw⟩, hcode, hini, hy, hlen, hl, hin, hse⟩ := cw
  have hK : vx_Back l R p e below s args y 3 8 (PreOf R mc ms Pc) (PostOf Qc mc ms free) (vx_Post XC mc ms free) := vx_backW (hh := hh) (bytes := bytes) (maxL := maxL) (ret := ret) hM hp.1 hrc hrs hfr hlo hws hcw (fun a' U hW => word_at hW (Or.inl (by first | rfl | simp [Cond.onTables, Cond.keeps, Cond.steady])) hini)
  obtain ⟨hx, hb, hml, ho, -⟩ := S
  obtain ⟨-, ⟨cellB, hcB, hoB, hclB⟩, hPc⟩ := hp
  intro T hT X
  rcases vx_callVX X hx (C := C) (hh := hh) (bytes := bytes) (maxL := maxL) (ret := ret) ho hl hin hse hcode hy hK (by rw [hT]; exact hcB) hoB hclB hg (hsize.trans hml.symm) (argsL := As) (rest := rest) (fun sig h => hn.trans (hlen sig h)) hstack hW (by rw [hb]; exact hdg)
    (fun vm₁ hW₁ => ⟨hf.1, hf.2, hPc (T.setVm vm₁) hT hW₁⟩) with ⟨v, vm₁, ⟨U', l2, c2, s2⟩, hW₁, X', ⟨g', mk, t, L, e1, e2, hq, h1, hL, h2, h3⟩, st⟩ | ⟨q, vm₁, ⟨U', l2, c2, s2⟩, hW₁, X', ⟨g', mk, t, L, E, ce, e1, e2, hq, hce, hcv, hcl, h1, hL, h2, h3⟩, st⟩
  · dsimp only [Pt.U, Pt.locs, Pt.cells, Pt.slots] at X' e1 e2 h1 h2 h3 st
    subst h1; subst h2; subst h3
    exact Or.inl ⟨v, (T.setVm vm₁).calling g' mk (Value.ref b :: As).toArray, t, U', L, hT, X', hL, e1, e2, hq, st⟩
  · dsimp only [Pt.U, Pt.locs, Pt.cells, Pt.slots] at X' e1 e2 h1 h2 h3 st hcl
    subst h1; subst h2; subst h3
    exact Or.inr ⟨q, (T.setVm vm₁).calling g' mk (Value.ref b :: As).toArray, t, U', L, E, ce, hT, X', hL, e1, e2, hq, hce, hcv, vx_cls hW₁ hcl, st⟩
theorem vx_runSX {hh : List (Nat × Nat × Nat × Nat)} (S : CallFix p m c cc nL s args Ts own) (hM : vx_Met l y ws rm Pc Qc XC mc ms free) (cw : vx_CSW R s args own index y bytes maxL ret hh ws rm mc ms n) (hp : PreS s H Pc As)
    (hg : g.method = m) (hn : As.length = n) (hsize : g.locals.size = nL) (hstack : g.stack = As.reverse ++ rest) (hW : 2 * g.monitorRoom + (rest.map fun v => v.category).sum ≤ 8) (hdg : decode cc g.pc = .ok (.invokestatic index, 3)) (hf : cells + mc ≤ R.cells ∧ slots + ms ≤ R.slots) :
    vx_Run p l e R s m args below meth c H locs cells slots mc ms g rest (Qc As.toArray) XC free := by
  obtain ⟨⟨hrc, hrs, hfr, hlo, hws, hcw⟩, hcode, hini, hy, hlen, hl, hstt⟩ := cw
  have hK : vx_Back l R p e below s args y 3 8 (PreOf R mc ms Pc) (PostOf Qc mc ms free) (vx_Post XC mc ms free) := vx_backW (hh := hh) (bytes := bytes) (maxL := maxL) (ret := ret) hM hp.1 hrc hrs hfr hlo hws hcw (fun a' U hW => word_at hW (Or.inl (by first | rfl | simp [Cond.onTables, Cond.keeps, Cond.steady])) hini)
  obtain ⟨hx, hb, hml, ho, -⟩ := S
  intro T hT X
  rcases vx_callSX X hx (hh := hh) (bytes := bytes) (maxL := maxL) (ret := ret) ho hl hstt hini hcode hy hK hg (hsize.trans hml.symm) (argsL := As) (rest := rest) (fun sig h => hn.trans (hlen sig h)) hstack hW (by rw [hb]; exact hdg)
    (fun vm₁ hW₁ => ⟨hf.1, hf.2, hp.2 (T.setVm vm₁) hT hW₁⟩) with ⟨v, vm₁, ⟨U', l2, c2, s2⟩, hW₁, X', ⟨g', mk, t, L, e1, e2, hq, h1, hL, h2, h3⟩, st⟩ | ⟨q, vm₁, ⟨U', l2, c2, s2⟩, hW₁, X', ⟨g', mk, t, L, E, ce, e1, e2, hq, hce, hcv, hcl, h1, hL, h2, h3⟩, st⟩
  · dsimp only [Pt.U, Pt.locs, Pt.cells, Pt.slots] at X' e1 e2 h1 h2 h3 st
    subst h1; subst h2; subst h3
    exact Or.inl ⟨v, (T.setVm vm₁).calling g' mk As.toArray, t, U', L, hT, X', hL, e1, e2, hq, st⟩
  · dsimp only [Pt.U, Pt.locs, Pt.cells, Pt.slots] at X' e1 e2 h1 h2 h3 st hcl
    subst h1; subst h2; subst h3
    exact Or.inr ⟨q, (T.setVm vm₁).calling g' mk As.toArray, t, U', L, E, ce, hT, X', hL, e1, e2, hq, hce, hcv, vx_cls hW₁ hcl, st⟩
end
end VXH
theorem vx_ofWH {l : Launch} {y : MethodName} {ws ws' : List Cond} {rm : Room} {Pc : Array Value → State → Prop} {Qc : Array Value → State → Outcome → State → Prop} {XC : String → State → State → Prop} {mc ms : Nat} {free : Addr → Prop} {cc : ByteArray} {maxL : Nat} {ret : Option FieldType} {hh : List (Nat × Nat × Nat × Nat)}
    (hy : plainName y.cls = true) (hw : ws = Cond.codeWith y cc maxL ret hh :: ws')
    (body : ∀ p e s m args below meth c s₁, BodyLoose p l y (headSpec ws rm) cc maxL ret e s m args below meth c s₁ → c.maxLocals = maxL → Pc args s →
      W p l e (headSpec ws rm).room s m args below meth c s.heap [] 0 0 (vx_MQ below Qc XC args s mc ms free) (entryFrame m args maxL)) : vx_Met l y ws rm Pc Qc XC mc ms free := by
  refine MetFree.of_bodyS (code := cc) (maxLocals := maxL) (ret := ret) hy ?_ ?_
  · intro args s m h hn
    obtain ⟨m9, meth, c, hn9, h1, h2, h3, h4, -, h5, h6, -⟩ := Cond.codeWith_spec (atoms_spec (ws := ws) h _ (by rw [hw]; exact List.mem_cons_self))
    cases hn.symm.trans hn9
    exact ⟨meth, c, h1, h2, h3, h4, h5, h6⟩
  · intro p e s m args below meth c s₁ B hml hP _
    have hh0 : s₁.heap = s.heap := by rw [B.state]; rfl
    obtain ⟨t, a1, o, b1, b2, b3⟩ := body p e s m args below meth c s₁ B hml hP s₁ hh0 (Stand.of_body B)
    exact ⟨t, o, a1, b1, b2, b3⟩
/-! ===== END ===== -/
end
section
def RX0 : String := "HarvestLender$Crop"
def TX0 : u_T := fun k => match k with
  | 0 => ("HarvestLender$Crop", "needs", "[I", true)
  | 1 => ("HarvestLender$Crop", "price", "I", false)
  | _ => ("HarvestLender$Crop", "normal", "I", false)
def tyX0 : Nat → FieldType := fun k => match k with
  | 0 => .array .int
  | 1 => .int
  | _ => .int
abbrev wsX00 : List Cond := u_ws RX0 TX0 3
theorem nmX0 : ∀ a, a < 3 → ∀ b, b < 3 → a ≠ b → (TX0 a).2.1 ≠ (TX0 b).2.1 := by decide +kernel
theorem tyX0_ok : ∀ k, k < 3 → parseFieldDescriptor (TX0 k).2.2.1 = some (tyX0 k) := by decide +kernel
abbrev cX0_init : ByteArray := prog_2_method_1_code
def yX0_init : MethodName := ⟨RX0, "<init>", "()V"⟩
abbrev cX0_needUpTo : ByteArray := prog_2_method_2_code
def yX0_needUpTo : MethodName := ⟨RX0, "needUpTo", "(I)I"⟩
def RX1 : String := "HarvestLender$Farmer"
def TX1 : u_T := fun k => match k with
  | 0 => ("HarvestLender$Farmer", "group", "I", false)
  | 1 => ("HarvestLender$Farmer", "purse", "J", false)
  | 2 => ("HarvestLender$Farmer", "debt", "J", false)
  | 3 => ("HarvestLender$Farmer", "pledgeDebt", "J", false)
  | 4 => ("HarvestLender$Farmer", "charged", "J", false)
  | 5 => ("HarvestLender$Farmer", "called", "J", false)
  | 6 => ("HarvestLender$Farmer", "repaid", "[J", true)
  | 7 => ("HarvestLender$Farmer", "instalments", "[J", true)
  | 8 => ("HarvestLender$Farmer", "instalmentsLeft", "I", false)
  | 9 => ("HarvestLender$Farmer", "grain", "I", false)
  | 10 => ("HarvestLender$Farmer", "pledgedGrain", "I", false)
  | 11 => ("HarvestLender$Farmer", "grainCrop", "I", false)
  | 12 => ("HarvestLender$Farmer", "plantedCrop", "I", false)
  | 13 => ("HarvestLender$Farmer", "hectares", "I", false)
  | 14 => ("HarvestLender$Farmer", "coverPercent", "I", false)
  | 15 => ("HarvestLender$Farmer", "yieldPercent", "I", false)
  | _ => ("HarvestLender$Farmer", "drawn", "I", false)
def tyX1 : Nat → FieldType := fun k => match k with
  | 0 => .int
  | 1 => .long
  | 2 => .long
  | 3 => .long
  | 4 => .long
  | 5 => .long
  | 6 => .array .long
  | 7 => .array .long
  | 8 => .int
  | 9 => .int
  | 10 => .int
  | 11 => .int
  | 12 => .int
  | 13 => .int
  | 14 => .int
  | 15 => .int
  | _ => .int
abbrev wsX10 : List Cond := u_ws RX1 TX1 17
theorem nmX1 : ∀ a, a < 17 → ∀ b, b < 17 → a ≠ b → (TX1 a).2.1 ≠ (TX1 b).2.1 := by decide +kernel
theorem tyX1_ok : ∀ k, k < 17 → parseFieldDescriptor (TX1 k).2.2.1 = some (tyX1 k) := by decide +kernel
abbrev cX1_init : ByteArray := prog_3_method_1_code
def yX1_init : MethodName := ⟨RX1, "<init>", "()V"⟩
abbrev cX1_hasPlanted : ByteArray := prog_3_method_2_code
def yX1_hasPlanted : MethodName := ⟨RX1, "hasPlanted", "()Z"⟩
abbrev cX1_freeGrain : ByteArray := prog_3_method_3_code
def yX1_freeGrain : MethodName := ⟨RX1, "freeGrain", "()I"⟩
abbrev cX1_charge : ByteArray := prog_3_method_4_code
def yX1_charge : MethodName := ⟨RX1, "charge", "(J)V"⟩
abbrev cX1_chargeInterest : ByteArray := prog_3_method_5_code
def yX1_chargeInterest : MethodName := ⟨RX1, "chargeInterest", "()V"⟩
abbrev cX1_lowerDebt : ByteArray := prog_3_method_6_code
def yX1_lowerDebt : MethodName := ⟨RX1, "lowerDebt", "(JI)V"⟩
abbrev cX1_receive : ByteArray := prog_3_method_7_code
def yX1_receive : MethodName := ⟨RX1, "receive", "(JI)V"⟩
abbrev cX1_repayFromPurse : ByteArray := prog_3_method_8_code
def yX1_repayFromPurse : MethodName := ⟨RX1, "repayFromPurse", "(J)V"⟩
abbrev cX1_harvest : ByteArray := prog_3_method_9_code
def yX1_harvest : MethodName := ⟨RX1, "harvest", "(LHarvestLender$Crop;)V"⟩
abbrev cX1_pledgeUnits : ByteArray := prog_3_method_10_code
def yX1_pledgeUnits : MethodName := ⟨RX1, "pledgeUnits", "(II)J"⟩
abbrev cX1_sellUnits : ByteArray := prog_3_method_11_code
def yX1_sellUnits : MethodName := ⟨RX1, "sellUnits", "(II)J"⟩
abbrev cX1_moveRestOfPledgeDebt : ByteArray := prog_3_method_12_code
def yX1_moveRestOfPledgeDebt : MethodName := ⟨RX1, "moveRestOfPledgeDebt", "()V"⟩
abbrev cX1_settleFromPurse : ByteArray := prog_3_method_13_code
def yX1_settleFromPurse : MethodName := ⟨RX1, "settleFromPurse", "()V"⟩
abbrev cX1_takeInstalment : ByteArray := prog_3_method_14_code
def yX1_takeInstalment : MethodName := ⟨RX1, "takeInstalment", "()J"⟩
abbrev cX1_instalmentSum : ByteArray := prog_3_method_15_code
def yX1_instalmentSum : MethodName := ⟨RX1, "instalmentSum", "()J"⟩
abbrev cX1_mayRoll : ByteArray := prog_3_method_16_code
def yX1_mayRoll : MethodName := ⟨RX1, "mayRoll", "()Z"⟩
abbrev cX1_rollDebt : ByteArray := prog_3_method_17_code
def yX1_rollDebt : MethodName := ⟨RX1, "rollDebt", "()V"⟩
abbrev cX1_payFor : ByteArray := prog_3_method_18_code
def yX1_payFor : MethodName := ⟨RX1, "payFor", "(LHarvestLender$Farmer;)V"⟩
abbrev cX1_forgetSeason : ByteArray := prog_3_method_19_code
def yX1_forgetSeason : MethodName := ⟨RX1, "forgetSeason", "()V"⟩
def RX2 : String := "HarvestLender"
def TX2 : u_T := fun k => match k with
  | 0 => ("HarvestLender", "crops", "[LHarvestLender$Crop;", true)
  | 1 => ("HarvestLender", "rows", "[LHarvestLender$Farmer;", true)
  | 2 => ("HarvestLender", "count", "I", false)
  | 3 => ("HarvestLender", "season", "I", false)
  | _ => ("HarvestLender", "stage", "I", false)
def tyX2 : Nat → FieldType := fun k => match k with
  | 0 => .array (.object "HarvestLender$Crop")
  | 1 => .array (.object "HarvestLender$Farmer")
  | 2 => .int
  | 3 => .int
  | _ => .int
abbrev wsX20 : List Cond := u_ws RX2 TX2 5
theorem nmX2 : ∀ a, a < 5 → ∀ b, b < 5 → a ≠ b → (TX2 a).2.1 ≠ (TX2 b).2.1 := by decide +kernel
theorem tyX2_ok : ∀ k, k < 5 → parseFieldDescriptor (TX2 k).2.2.1 = some (tyX2 k) := by decide +kernel
abbrev cX2_init : ByteArray := prog_1_method_1_code
def yX2_init : MethodName := ⟨RX2, "<init>", "()V"⟩
abbrev cX2_setNeed : ByteArray := prog_1_method_2_code
def yX2_setNeed : MethodName := ⟨RX2, "setNeed", "(III)I"⟩
abbrev cX2_setCrop : ByteArray := prog_1_method_3_code
def yX2_setCrop : MethodName := ⟨RX2, "setCrop", "(III)I"⟩
abbrev cX2_add : ByteArray := prog_1_method_4_code
def yX2_add : MethodName := ⟨RX2, "add", "(I)I"⟩
abbrev cX2_farmers : ByteArray := prog_1_method_5_code
def yX2_farmers : MethodName := ⟨RX2, "farmers", "()I"⟩
abbrev cX2_plant : ByteArray := prog_1_method_6_code
def yX2_plant : MethodName := ⟨RX2, "plant", "(III)I"⟩
abbrev cX2_cover : ByteArray := prog_1_method_7_code
def yX2_cover : MethodName := ⟨RX2, "cover", "(II)I"⟩
abbrev cX2_draw : ByteArray := prog_1_method_8_code
def yX2_draw : MethodName := ⟨RX2, "draw", "(II)I"⟩
abbrev cX2_setYield : ByteArray := prog_1_method_9_code
def yX2_setYield : MethodName := ⟨RX2, "setYield", "(II)I"⟩
abbrev cX2_next : ByteArray := prog_1_method_10_code
def yX2_next : MethodName := ⟨RX2, "next", "()I"⟩
abbrev cX2_pledge : ByteArray := prog_1_method_11_code
def yX2_pledge : MethodName := ⟨RX2, "pledge", "(II)I"⟩
abbrev cX2_sell : ByteArray := prog_1_method_12_code
def yX2_sell : MethodName := ⟨RX2, "sell", "(II)I"⟩
abbrev cX2_repay : ByteArray := prog_1_method_13_code
def yX2_repay : MethodName := ⟨RX2, "repay", "(II)I"⟩
abbrev cX2_close : ByteArray := prog_1_method_14_code
def yX2_close : MethodName := ⟨RX2, "close", "()I"⟩
abbrev cX2_season : ByteArray := prog_1_method_15_code
def yX2_season : MethodName := ⟨RX2, "season", "()I"⟩
abbrev cX2_stage : ByteArray := prog_1_method_16_code
def yX2_stage : MethodName := ⟨RX2, "stage", "()I"⟩
abbrev cX2_limit : ByteArray := prog_1_method_17_code
def yX2_limit : MethodName := ⟨RX2, "limit", "(I)I"⟩
abbrev cX2_debt : ByteArray := prog_1_method_18_code
def yX2_debt : MethodName := ⟨RX2, "debt", "(I)I"⟩
abbrev cX2_owes : ByteArray := prog_1_method_19_code
def yX2_owes : MethodName := ⟨RX2, "owes", "(I)I"⟩
abbrev cX2_instalments : ByteArray := prog_1_method_20_code
def yX2_instalments : MethodName := ⟨RX2, "instalments", "(I)I"⟩
abbrev cX2_purse : ByteArray := prog_1_method_21_code
def yX2_purse : MethodName := ⟨RX2, "purse", "(I)I"⟩
abbrev cX2_grain : ByteArray := prog_1_method_22_code
def yX2_grain : MethodName := ⟨RX2, "grain", "(IZ)I"⟩
abbrev cX2_called : ByteArray := prog_1_method_23_code
def yX2_called : MethodName := ⟨RX2, "called", "(I)I"⟩
abbrev cX2_repaid : ByteArray := prog_1_method_24_code
def yX2_repaid : MethodName := ⟨RX2, "repaid", "(II)I"⟩
abbrev cX2_charged : ByteArray := prog_1_method_25_code
def yX2_charged : MethodName := ⟨RX2, "charged", "(I)I"⟩
abbrev cX2_farmerAt : ByteArray := prog_1_method_26_code
def yX2_farmerAt : MethodName := ⟨RX2, "farmerAt", "(I)LHarvestLender$Farmer;"⟩
abbrev cX2_cropAt : ByteArray := prog_1_method_27_code
def yX2_cropAt : MethodName := ⟨RX2, "cropAt", "(I)LHarvestLender$Crop;"⟩
abbrev cX2_requireRange : ByteArray := prog_1_method_28_code
def yX2_requireRange : MethodName := ⟨RX2, "requireRange", "(III)V"⟩
abbrev cX2_requireState : ByteArray := prog_1_method_29_code
def yX2_requireState : MethodName := ⟨RX2, "requireState", "(Z)V"⟩
abbrev cX2_limitOf : ByteArray := prog_1_method_30_code
def yX2_limitOf : MethodName := ⟨RX2, "limitOf", "(LHarvestLender$Farmer;)I"⟩
abbrev cX2_harvestAll : ByteArray := prog_1_method_31_code
def yX2_harvestAll : MethodName := ⟨RX2, "harvestAll", "()V"⟩
abbrev cX2_settleRest : ByteArray := prog_1_method_32_code
def yX2_settleRest : MethodName := ⟨RX2, "settleRest", "(LHarvestLender$Farmer;)V"⟩
abbrev cX2_collectFromGroup : ByteArray := prog_1_method_33_code
def yX2_collectFromGroup : MethodName := ⟨RX2, "collectFromGroup", "(LHarvestLender$Farmer;)V"⟩
def RX3 : String := "HarvestLenderModel"
def TX3 : u_T := fun k => match k with
  | 0 => ("HarvestLenderModel", "refusal", "I", false)
  | 1 => ("HarvestLenderModel", "season", "I", false)
  | 2 => ("HarvestLenderModel", "stage", "I", false)
  | 3 => ("HarvestLenderModel", "needs", "[I", true)
  | 4 => ("HarvestLenderModel", "prices", "[I", true)
  | 5 => ("HarvestLenderModel", "normals", "[I", true)
  | 6 => ("HarvestLenderModel", "farmers", "I", false)
  | 7 => ("HarvestLenderModel", "groups", "[I", true)
  | 8 => ("HarvestLenderModel", "purses", "[I", true)
  | 9 => ("HarvestLenderModel", "debts", "[I", true)
  | 10 => ("HarvestLenderModel", "grainCrops", "[I", true)
  | 11 => ("HarvestLenderModel", "grains", "[I", true)
  | 12 => ("HarvestLenderModel", "pledged", "[I", true)
  | 13 => ("HarvestLenderModel", "pledgeDebts", "[I", true)
  | 14 => ("HarvestLenderModel", "rows", "[I", true)
  | 15 => ("HarvestLenderModel", "parts", "[I", true)
  | 16 => ("HarvestLenderModel", "crops", "[I", true)
  | 17 => ("HarvestLenderModel", "hectares", "[I", true)
  | 18 => ("HarvestLenderModel", "drawn", "[I", true)
  | 19 => ("HarvestLenderModel", "covers", "[I", true)
  | 20 => ("HarvestLenderModel", "yields", "[I", true)
  | 21 => ("HarvestLenderModel", "calls", "[I", true)
  | 22 => ("HarvestLenderModel", "repaidOf", "[I", true)
  | _ => ("HarvestLenderModel", "charges", "[I", true)
def tyX3 : Nat → FieldType := fun k => match k with
  | 0 => .int
  | 1 => .int
  | 2 => .int
  | 3 => .array .int
  | 4 => .array .int
  | 5 => .array .int
  | 6 => .int
  | 7 => .array .int
  | 8 => .array .int
  | 9 => .array .int
  | 10 => .array .int
  | 11 => .array .int
  | 12 => .array .int
  | 13 => .array .int
  | 14 => .array .int
  | 15 => .array .int
  | 16 => .array .int
  | 17 => .array .int
  | 18 => .array .int
  | 19 => .array .int
  | 20 => .array .int
  | 21 => .array .int
  | 22 => .array .int
  | _ => .array .int
abbrev wsX30 : List Cond := u_ws RX3 TX3 24
theorem nmX3 : ∀ a, a < 24 → ∀ b, b < 24 → a ≠ b → (TX3 a).2.1 ≠ (TX3 b).2.1 := by decide +kernel
theorem tyX3_ok : ∀ k, k < 24 → parseFieldDescriptor (TX3 k).2.2.1 = some (tyX3 k) := by decide +kernel
abbrev cX3_init : ByteArray := prog_5_method_1_code
def yX3_init : MethodName := ⟨RX3, "<init>", "()V"⟩
abbrev cX3_thrown : ByteArray := prog_5_method_2_code
def yX3_thrown : MethodName := ⟨RX3, "thrown", "()I"⟩
abbrev cX3_refused : ByteArray := prog_5_method_3_code
def yX3_refused : MethodName := ⟨RX3, "refused", "(I)Z"⟩
abbrev cX3_fine : ByteArray := prog_5_method_4_code
def yX3_fine : MethodName := ⟨RX3, "fine", "(I)I"⟩
abbrev cX3_in : ByteArray := prog_5_method_5_code
def yX3_in : MethodName := ⟨RX3, "in", "(III)Z"⟩
abbrev cX3_isCrop : ByteArray := prog_5_method_6_code
def yX3_isCrop : MethodName := ⟨RX3, "isCrop", "(I)Z"⟩
abbrev cX3_isFarmer : ByteArray := prog_5_method_7_code
def yX3_isFarmer : MethodName := ⟨RX3, "isFarmer", "(I)Z"⟩
abbrev cX3_setNeed : ByteArray := prog_5_method_8_code
def yX3_setNeed : MethodName := ⟨RX3, "setNeed", "(III)I"⟩
abbrev cX3_setCrop : ByteArray := prog_5_method_9_code
def yX3_setCrop : MethodName := ⟨RX3, "setCrop", "(III)I"⟩
abbrev cX3_add : ByteArray := prog_5_method_10_code
def yX3_add : MethodName := ⟨RX3, "add", "(I)I"⟩
abbrev cX3_clear : ByteArray := prog_5_method_11_code
def yX3_clear : MethodName := ⟨RX3, "clear", "(I)V"⟩
abbrev cX3_farmers : ByteArray := prog_5_method_12_code
def yX3_farmers : MethodName := ⟨RX3, "farmers", "()I"⟩
abbrev cX3_lower : ByteArray := prog_5_method_13_code
def yX3_lower : MethodName := ⟨RX3, "lower", "(III)V"⟩
abbrev cX3_come : ByteArray := prog_5_method_14_code
def yX3_come : MethodName := ⟨RX3, "come", "(III)V"⟩
abbrev cX3_charge : ByteArray := prog_5_method_15_code
def yX3_charge : MethodName := ⟨RX3, "charge", "(II)V"⟩
abbrev cX3_limitOf : ByteArray := prog_5_method_16_code
def yX3_limitOf : MethodName := ⟨RX3, "limitOf", "(I)I"⟩
abbrev cX3_plant : ByteArray := prog_5_method_17_code
def yX3_plant : MethodName := ⟨RX3, "plant", "(III)I"⟩
abbrev cX3_cover : ByteArray := prog_5_method_18_code
def yX3_cover : MethodName := ⟨RX3, "cover", "(II)I"⟩
abbrev cX3_draw : ByteArray := prog_5_method_19_code
def yX3_draw : MethodName := ⟨RX3, "draw", "(II)I"⟩
abbrev cX3_setYield : ByteArray := prog_5_method_20_code
def yX3_setYield : MethodName := ⟨RX3, "setYield", "(II)I"⟩
abbrev cX3_harvest : ByteArray := prog_5_method_21_code
def yX3_harvest : MethodName := ⟨RX3, "harvest", "(I)V"⟩
abbrev cX3_next : ByteArray := prog_5_method_22_code
def yX3_next : MethodName := ⟨RX3, "next", "()I"⟩
abbrev cX3_pledge : ByteArray := prog_5_method_23_code
def yX3_pledge : MethodName := ⟨RX3, "pledge", "(II)I"⟩
abbrev cX3_sell : ByteArray := prog_5_method_24_code
def yX3_sell : MethodName := ⟨RX3, "sell", "(II)I"⟩
abbrev cX3_repay : ByteArray := prog_5_method_25_code
def yX3_repay : MethodName := ⟨RX3, "repay", "(II)I"⟩
abbrev cX3_settle : ByteArray := prog_5_method_26_code
def yX3_settle : MethodName := ⟨RX3, "settle", "(I)V"⟩
abbrev cX3_roll : ByteArray := prog_5_method_27_code
def yX3_roll : MethodName := ⟨RX3, "roll", "(I)V"⟩
abbrev cX3_call : ByteArray := prog_5_method_28_code
def yX3_call : MethodName := ⟨RX3, "call", "(I)V"⟩
abbrev cX3_close : ByteArray := prog_5_method_29_code
def yX3_close : MethodName := ⟨RX3, "close", "()I"⟩
abbrev cX3_season : ByteArray := prog_5_method_30_code
def yX3_season : MethodName := ⟨RX3, "season", "()I"⟩
abbrev cX3_stage : ByteArray := prog_5_method_31_code
def yX3_stage : MethodName := ⟨RX3, "stage", "()I"⟩
abbrev cX3_noFarmer : ByteArray := prog_5_method_32_code
def yX3_noFarmer : MethodName := ⟨RX3, "noFarmer", "(I)Z"⟩
abbrev cX3_limit : ByteArray := prog_5_method_33_code
def yX3_limit : MethodName := ⟨RX3, "limit", "(I)I"⟩
abbrev cX3_debt : ByteArray := prog_5_method_34_code
def yX3_debt : MethodName := ⟨RX3, "debt", "(I)I"⟩
abbrev cX3_owes : ByteArray := prog_5_method_35_code
def yX3_owes : MethodName := ⟨RX3, "owes", "(I)I"⟩
abbrev cX3_instalments : ByteArray := prog_5_method_36_code
def yX3_instalments : MethodName := ⟨RX3, "instalments", "(I)I"⟩
abbrev cX3_purse : ByteArray := prog_5_method_37_code
def yX3_purse : MethodName := ⟨RX3, "purse", "(I)I"⟩
abbrev cX3_grain : ByteArray := prog_5_method_38_code
def yX3_grain : MethodName := ⟨RX3, "grain", "(IZ)I"⟩
abbrev cX3_called : ByteArray := prog_5_method_39_code
def yX3_called : MethodName := ⟨RX3, "called", "(I)I"⟩
abbrev cX3_repaid : ByteArray := prog_5_method_40_code
def yX3_repaid : MethodName := ⟨RX3, "repaid", "(II)I"⟩
abbrev cX3_charged : ByteArray := prog_5_method_41_code
def yX3_charged : MethodName := ⟨RX3, "charged", "(I)I"⟩
def RJ9 : String := "java/lang/Math"
def TJ9 : u_T := fun k => match k with
  | _ => ("", "", "", false)
def tyJ9 : Nat → FieldType := fun k => match k with
  | _ => .int
abbrev wsJ90 : List Cond := u_ws RJ9 TJ9 0
theorem nmJ9 : ∀ a, a < 0 → ∀ b, b < 0 → a ≠ b → (TJ9 a).2.1 ≠ (TJ9 b).2.1 := by decide +kernel
theorem tyJ9_ok : ∀ k, k < 0 → parseFieldDescriptor (TJ9 k).2.2.1 = some (tyJ9 k) := by decide +kernel
abbrev cJ9_min_7cf53 : ByteArray := prog_10_method_69_code
def yJ9_min_7cf53 : MethodName := ⟨RJ9, "min", "(II)I"⟩
abbrev cJ9_min_f86c9 : ByteArray := prog_10_method_70_code
def yJ9_min_f86c9 : MethodName := ⟨RJ9, "min", "(JJ)J"⟩
def RJ0 : String := "java/lang/String"
def TJ0 : u_T := fun k => match k with
  | _ => ("", "", "", false)
def tyJ0 : Nat → FieldType := fun k => match k with
  | _ => .int
abbrev wsJ00 : List Cond := u_ws RJ0 TJ0 0
theorem nmJ0 : ∀ a, a < 0 → ∀ b, b < 0 → a ≠ b → (TJ0 a).2.1 ≠ (TJ0 b).2.1 := by decide +kernel
theorem tyJ0_ok : ∀ k, k < 0 → parseFieldDescriptor (TJ0 k).2.2.1 = some (tyJ0 k) := by decide +kernel
def RL : String := "HarvestLenderLaw"
abbrev cL_setNeed : ByteArray := method_3_code
def yL_setNeed : MethodName := ⟨RL, "setNeed", "(LHarvestLender;III[J)I"⟩
abbrev cL_setCrop : ByteArray := method_4_code
def yL_setCrop : MethodName := ⟨RL, "setCrop", "(LHarvestLender;III[J)I"⟩
abbrev cL_add : ByteArray := method_5_code
def yL_add : MethodName := ⟨RL, "add", "(LHarvestLender;I[J)I"⟩
abbrev cL_plant : ByteArray := method_6_code
def yL_plant : MethodName := ⟨RL, "plant", "(LHarvestLender;III[J)I"⟩
abbrev cL_cover : ByteArray := method_7_code
def yL_cover : MethodName := ⟨RL, "cover", "(LHarvestLender;II[J)I"⟩
abbrev cL_draw : ByteArray := method_8_code
def yL_draw : MethodName := ⟨RL, "draw", "(LHarvestLender;II[J)I"⟩
abbrev cL_setYield : ByteArray := method_9_code
def yL_setYield : MethodName := ⟨RL, "setYield", "(LHarvestLender;II[J)I"⟩
abbrev cL_next : ByteArray := method_10_code
def yL_next : MethodName := ⟨RL, "next", "(LHarvestLender;[J)I"⟩
abbrev cL_pledge : ByteArray := method_11_code
def yL_pledge : MethodName := ⟨RL, "pledge", "(LHarvestLender;II[J)I"⟩
abbrev cL_sell : ByteArray := method_12_code
def yL_sell : MethodName := ⟨RL, "sell", "(LHarvestLender;II[J)I"⟩
abbrev cL_repay : ByteArray := method_13_code
def yL_repay : MethodName := ⟨RL, "repay", "(LHarvestLender;II[J)I"⟩
abbrev cL_close : ByteArray := method_14_code
def yL_close : MethodName := ⟨RL, "close", "(LHarvestLender;[J)I"⟩
abbrev cL_limit : ByteArray := method_15_code
def yL_limit : MethodName := ⟨RL, "limit", "(LHarvestLender;I[J)I"⟩
abbrev cL_debt : ByteArray := method_16_code
def yL_debt : MethodName := ⟨RL, "debt", "(LHarvestLender;I[J)I"⟩
abbrev cL_owes : ByteArray := method_17_code
def yL_owes : MethodName := ⟨RL, "owes", "(LHarvestLender;I[J)I"⟩
abbrev cL_instalments : ByteArray := method_18_code
def yL_instalments : MethodName := ⟨RL, "instalments", "(LHarvestLender;I[J)I"⟩
abbrev cL_purse : ByteArray := method_19_code
def yL_purse : MethodName := ⟨RL, "purse", "(LHarvestLender;I[J)I"⟩
abbrev cL_grain : ByteArray := method_20_code
def yL_grain : MethodName := ⟨RL, "grain", "(LHarvestLender;IZ[J)I"⟩
abbrev cL_called : ByteArray := method_21_code
def yL_called : MethodName := ⟨RL, "called", "(LHarvestLender;I[J)I"⟩
abbrev cL_repaid : ByteArray := method_22_code
def yL_repaid : MethodName := ⟨RL, "repaid", "(LHarvestLender;II[J)I"⟩
abbrev cL_charged : ByteArray := method_23_code
def yL_charged : MethodName := ⟨RL, "charged", "(LHarvestLender;I[J)I"⟩
abbrev cL_law : ByteArray := code
def yL_law : MethodName := ⟨RL, "law", "([I)Z"⟩
def wsX0_init : List Cond := .code yX0_init cX0_init 2 none :: ([.methodLink RX0 3 objectInit, .instanceMethod objectInit, .code objectInit ⟨#[0xb1]⟩ 1 none, .arrayClass .int, .fieldLink RX0 9 "HarvestLender$Crop" "needs" "[I", .fieldLink RX0 15 "HarvestLender$Crop" "price" "I", .fieldLink RX0 19 "HarvestLender$Crop" "normal" "I"] ++ wsX00)
def wsX0_needUpTo : List Cond := .code yX0_needUpTo cX0_needUpTo 4 (some .int) :: ([.fieldLink RX0 9 "HarvestLender$Crop" "needs" "[I"] ++ wsX00)
def wsX1_init : List Cond := .code yX1_init cX1_init 1 none :: ([.methodLink RX1 3 objectInit, .instanceMethod objectInit, .code objectInit ⟨#[0xb1]⟩ 1 none, .fieldLink RX1 9 "HarvestLender$Farmer" "group" "I", .fieldLink RX1 15 "HarvestLender$Farmer" "purse" "J", .fieldLink RX1 19 "HarvestLender$Farmer" "debt" "J", .fieldLink RX1 22 "HarvestLender$Farmer" "pledgeDebt" "J", .fieldLink RX1 25 "HarvestLender$Farmer" "charged" "J", .fieldLink RX1 28 "HarvestLender$Farmer" "called" "J", .arrayClass .long, .fieldLink RX1 31 "HarvestLender$Farmer" "repaid" "[J", .fieldLink RX1 35 "HarvestLender$Farmer" "instalments" "[J", .fieldLink RX1 38 "HarvestLender$Farmer" "instalmentsLeft" "I", .fieldLink RX1 41 "HarvestLender$Farmer" "grain" "I", .fieldLink RX1 44 "HarvestLender$Farmer" "pledgedGrain" "I", .fieldLink RX1 47 "HarvestLender$Farmer" "grainCrop" "I", .fieldLink RX1 50 "HarvestLender$Farmer" "plantedCrop" "I", .fieldLink RX1 53 "HarvestLender$Farmer" "hectares" "I", .fieldLink RX1 56 "HarvestLender$Farmer" "coverPercent" "I", .fieldLink RX1 59 "HarvestLender$Farmer" "yieldPercent" "I", .fieldLink RX1 62 "HarvestLender$Farmer" "drawn" "I"] ++ wsX10)
def wsX1_hasPlanted : List Cond := .code yX1_hasPlanted cX1_hasPlanted 1 (some .boolean) :: ([.fieldLink RX1 50 "HarvestLender$Farmer" "plantedCrop" "I"] ++ wsX10)
def wsX1_freeGrain : List Cond := .code yX1_freeGrain cX1_freeGrain 1 (some .int) :: ([.fieldLink RX1 41 "HarvestLender$Farmer" "grain" "I", .fieldLink RX1 44 "HarvestLender$Farmer" "pledgedGrain" "I"] ++ wsX10)
def wsX1_charge : List Cond := .code yX1_charge cX1_charge 3 none :: ([.fieldLink RX1 19 "HarvestLender$Farmer" "debt" "J", .fieldLink RX1 25 "HarvestLender$Farmer" "charged" "J"] ++ wsX10)
def wsX1_chargeInterest : List Cond := .code yX1_chargeInterest cX1_chargeInterest 1 none :: ([.fieldLink RX1 19 "HarvestLender$Farmer" "debt" "J", .constantLong RX1 65 (2), .constantLong RX1 67 (100), .methodLink RX1 69 yX1_charge, .instanceMethod yX1_charge, .selects RX1 yX1_charge yX1_charge, .initialized RX1, .code yX1_charge cX1_charge 3 none, .fieldLink RX1 25 "HarvestLender$Farmer" "charged" "J"] ++ wsX10)
def wsX1_lowerDebt : List Cond := .code yX1_lowerDebt cX1_lowerDebt 4 none :: ([.fieldLink RX1 19 "HarvestLender$Farmer" "debt" "J", .fieldLink RX1 31 "HarvestLender$Farmer" "repaid" "[J"] ++ wsX10)
def wsX1_receive : List Cond := .code yX1_receive cX1_receive 6 none :: ([.fieldLink RX1 19 "HarvestLender$Farmer" "debt" "J", .methodLink RX1 73 Lib.MathLoose.min_long.x, .static Lib.MathLoose.min_long.x, .initialized "java/lang/Math", .code Lib.MathLoose.min_long.x Lib.MathLoose.min_long.code 4 (some .long), .fieldLink RX1 15 "HarvestLender$Farmer" "purse" "J", .methodLink RX1 79 yX1_lowerDebt, .instanceMethod yX1_lowerDebt, .selects RX1 yX1_lowerDebt yX1_lowerDebt, .initialized RX1, .code yX1_lowerDebt cX1_lowerDebt 4 none, .fieldLink RX1 31 "HarvestLender$Farmer" "repaid" "[J"] ++ wsX10)
def wsX1_repayFromPurse : List Cond := .code yX1_repayFromPurse cX1_repayFromPurse 3 none :: ([.fieldLink RX1 15 "HarvestLender$Farmer" "purse" "J", .methodLink RX1 79 yX1_lowerDebt, .instanceMethod yX1_lowerDebt, .selects RX1 yX1_lowerDebt yX1_lowerDebt, .initialized RX1, .code yX1_lowerDebt cX1_lowerDebt 4 none, .fieldLink RX1 19 "HarvestLender$Farmer" "debt" "J", .fieldLink RX1 31 "HarvestLender$Farmer" "repaid" "[J"] ++ wsX10)
def wsX1_harvest_r1 : List Cond := [Cond.fieldLink RX1 53 "HarvestLender$Farmer" "hectares" "I", Cond.fieldLink RX1 83 "HarvestLender$Crop" "normal" "I", Cond.fieldLink RX1 41 "HarvestLender$Farmer" "grain" "I", Cond.fieldLink RX1 59 "HarvestLender$Farmer" "yieldPercent" "I", Cond.fieldLink RX1 50 "HarvestLender$Farmer" "plantedCrop" "I", Cond.fieldLink RX1 47 "HarvestLender$Farmer" "grainCrop" "I", Cond.fieldLink RX1 56 "HarvestLender$Farmer" "coverPercent" "I", Cond.fieldLink RX1 88 "HarvestLender$Crop" "price" "I", Cond.constantLong RX1 67 (100), Cond.methodLink RX1 91 yX1_receive, Cond.instanceMethod yX1_receive, Cond.selects RX1 yX1_receive yX1_receive, Cond.initialized RX1, Cond.code yX1_receive cX1_receive 6 none, Cond.fieldLink RX1 19 "HarvestLender$Farmer" "debt" "J", Cond.methodLink RX1 73 Lib.MathLoose.min_long.x, Cond.static Lib.MathLoose.min_long.x, Cond.initialized "java/lang/Math", Cond.code Lib.MathLoose.min_long.x Lib.MathLoose.min_long.code 4 (some .long), Cond.fieldLink RX1 15 "HarvestLender$Farmer" "purse" "J", Cond.methodLink RX1 79 yX1_lowerDebt, Cond.instanceMethod yX1_lowerDebt, Cond.selects RX1 yX1_lowerDebt yX1_lowerDebt, Cond.code yX1_lowerDebt cX1_lowerDebt 4 none]
def wsX1_harvest_r2 : List Cond := [Cond.fieldLink RX1 31 "HarvestLender$Farmer" "repaid" "[J"]
def wsX1_harvest : List Cond := .code yX1_harvest cX1_harvest 5 none :: ((wsX1_harvest_r1 ++ wsX1_harvest_r2) ++ wsX10 ++ wsX00)
def wsX1_pledgeUnits : List Cond := .code yX1_pledgeUnits cX1_pledgeUnits 5 (some .long) :: ([.constantLong RX1 94 (60), .constantLong RX1 67 (100), .fieldLink RX1 44 "HarvestLender$Farmer" "pledgedGrain" "I", .fieldLink RX1 22 "HarvestLender$Farmer" "pledgeDebt" "J", .methodLink RX1 91 yX1_receive, .instanceMethod yX1_receive, .selects RX1 yX1_receive yX1_receive, .initialized RX1, .code yX1_receive cX1_receive 6 none, .fieldLink RX1 19 "HarvestLender$Farmer" "debt" "J", .methodLink RX1 73 Lib.MathLoose.min_long.x, .static Lib.MathLoose.min_long.x, .initialized "java/lang/Math", .code Lib.MathLoose.min_long.x Lib.MathLoose.min_long.code 4 (some .long), .fieldLink RX1 15 "HarvestLender$Farmer" "purse" "J", .methodLink RX1 79 yX1_lowerDebt, .instanceMethod yX1_lowerDebt, .selects RX1 yX1_lowerDebt yX1_lowerDebt, .code yX1_lowerDebt cX1_lowerDebt 4 none, .fieldLink RX1 31 "HarvestLender$Farmer" "repaid" "[J"] ++ wsX10)
def wsX1_moveRestOfPledgeDebt : List Cond := .code yX1_moveRestOfPledgeDebt cX1_moveRestOfPledgeDebt 1 none :: ([.fieldLink RX1 22 "HarvestLender$Farmer" "pledgeDebt" "J", .methodLink RX1 69 yX1_charge, .instanceMethod yX1_charge, .selects RX1 yX1_charge yX1_charge, .initialized RX1, .code yX1_charge cX1_charge 3 none, .fieldLink RX1 19 "HarvestLender$Farmer" "debt" "J", .fieldLink RX1 25 "HarvestLender$Farmer" "charged" "J"] ++ wsX10)
def wsX1_sellUnits_r1 : List Cond := [Cond.methodLink RX1 100 Lib.Math.min.name, Cond.static Lib.Math.min.name, Cond.initialized "java/lang/Math", Cond.code Lib.Math.min.name Lib.Math.min.code 2 (some .int), Cond.fieldLink RX1 22 "HarvestLender$Farmer" "pledgeDebt" "J", Cond.methodLink RX1 73 Lib.MathLoose.min_long.x, Cond.static Lib.MathLoose.min_long.x, Cond.code Lib.MathLoose.min_long.x Lib.MathLoose.min_long.code 4 (some .long), Cond.fieldLink RX1 41 "HarvestLender$Farmer" "grain" "I", Cond.fieldLink RX1 44 "HarvestLender$Farmer" "pledgedGrain" "I", Cond.methodLink RX1 96 yX1_freeGrain, Cond.instanceMethod yX1_freeGrain, Cond.selects RX1 yX1_freeGrain yX1_freeGrain, Cond.initialized RX1, Cond.code yX1_freeGrain cX1_freeGrain 1 (some .int), Cond.methodLink RX1 91 yX1_receive, Cond.instanceMethod yX1_receive, Cond.selects RX1 yX1_receive yX1_receive, Cond.code yX1_receive cX1_receive 6 none, Cond.fieldLink RX1 19 "HarvestLender$Farmer" "debt" "J", Cond.fieldLink RX1 15 "HarvestLender$Farmer" "purse" "J", Cond.methodLink RX1 79 yX1_lowerDebt, Cond.instanceMethod yX1_lowerDebt, Cond.selects RX1 yX1_lowerDebt yX1_lowerDebt]
def wsX1_sellUnits_r2 : List Cond := [Cond.code yX1_lowerDebt cX1_lowerDebt 4 none, Cond.fieldLink RX1 31 "HarvestLender$Farmer" "repaid" "[J", Cond.methodLink RX1 103 yX1_moveRestOfPledgeDebt, Cond.instanceMethod yX1_moveRestOfPledgeDebt, Cond.selects RX1 yX1_moveRestOfPledgeDebt yX1_moveRestOfPledgeDebt, Cond.code yX1_moveRestOfPledgeDebt cX1_moveRestOfPledgeDebt 1 none, Cond.methodLink RX1 69 yX1_charge, Cond.instanceMethod yX1_charge, Cond.selects RX1 yX1_charge yX1_charge, Cond.code yX1_charge cX1_charge 3 none, Cond.fieldLink RX1 25 "HarvestLender$Farmer" "charged" "J"]
def wsX1_sellUnits : List Cond := .code yX1_sellUnits cX1_sellUnits 9 (some .long) :: ((wsX1_sellUnits_r1 ++ wsX1_sellUnits_r2) ++ wsX10)
def wsX1_takeInstalment : List Cond := .code yX1_takeInstalment cX1_takeInstalment 2 (some .long) :: ([.fieldLink RX1 38 "HarvestLender$Farmer" "instalmentsLeft" "I", .fieldLink RX1 35 "HarvestLender$Farmer" "instalments" "[J"] ++ wsX10)
def wsX1_settleFromPurse : List Cond := .code yX1_settleFromPurse cX1_settleFromPurse 1 none :: ([.fieldLink RX1 28 "HarvestLender$Farmer" "called" "J", .fieldLink RX1 19 "HarvestLender$Farmer" "debt" "J", .fieldLink RX1 15 "HarvestLender$Farmer" "purse" "J", .methodLink RX1 73 Lib.MathLoose.min_long.x, .static Lib.MathLoose.min_long.x, .initialized "java/lang/Math", .code Lib.MathLoose.min_long.x Lib.MathLoose.min_long.code 4 (some .long), .methodLink RX1 106 yX1_takeInstalment, .instanceMethod yX1_takeInstalment, .selects RX1 yX1_takeInstalment yX1_takeInstalment, .initialized RX1, .code yX1_takeInstalment cX1_takeInstalment 2 (some .long), .fieldLink RX1 38 "HarvestLender$Farmer" "instalmentsLeft" "I", .fieldLink RX1 35 "HarvestLender$Farmer" "instalments" "[J", .methodLink RX1 110 yX1_repayFromPurse, .instanceMethod yX1_repayFromPurse, .selects RX1 yX1_repayFromPurse yX1_repayFromPurse, .code yX1_repayFromPurse cX1_repayFromPurse 3 none, .methodLink RX1 79 yX1_lowerDebt, .instanceMethod yX1_lowerDebt, .selects RX1 yX1_lowerDebt yX1_lowerDebt, .code yX1_lowerDebt cX1_lowerDebt 4 none, .fieldLink RX1 31 "HarvestLender$Farmer" "repaid" "[J"] ++ wsX10)
def wsX1_instalmentSum : List Cond := .code yX1_instalmentSum cX1_instalmentSum 4 (some .long) :: ([.fieldLink RX1 38 "HarvestLender$Farmer" "instalmentsLeft" "I", .fieldLink RX1 35 "HarvestLender$Farmer" "instalments" "[J"] ++ wsX10)
def wsX1_mayRoll : List Cond := .code yX1_mayRoll cX1_mayRoll 1 (some .boolean) :: ([.fieldLink RX1 59 "HarvestLender$Farmer" "yieldPercent" "I", .fieldLink RX1 38 "HarvestLender$Farmer" "instalmentsLeft" "I", .methodLink RX1 113 yX1_hasPlanted, .instanceMethod yX1_hasPlanted, .selects RX1 yX1_hasPlanted yX1_hasPlanted, .initialized RX1, .code yX1_hasPlanted cX1_hasPlanted 1 (some .boolean), .fieldLink RX1 50 "HarvestLender$Farmer" "plantedCrop" "I"] ++ wsX10)
def wsX1_rollDebt : List Cond := .code yX1_rollDebt cX1_rollDebt 4 none :: ([.fieldLink RX1 19 "HarvestLender$Farmer" "debt" "J", .constantLong RX1 117 (3), .fieldLink RX1 35 "HarvestLender$Farmer" "instalments" "[J", .constantLong RX1 65 (2), .fieldLink RX1 38 "HarvestLender$Farmer" "instalmentsLeft" "I"] ++ wsX10)
def wsX1_payFor : List Cond := .code yX1_payFor cX1_payFor 4 none :: ([.fieldLink RX1 19 "HarvestLender$Farmer" "debt" "J", .fieldLink RX1 15 "HarvestLender$Farmer" "purse" "J", .constantLong RX1 119 (20000), .fieldLink RX1 28 "HarvestLender$Farmer" "called" "J", .methodLink RX1 73 Lib.MathLoose.min_long.x, .static Lib.MathLoose.min_long.x, .initialized "java/lang/Math", .code Lib.MathLoose.min_long.x Lib.MathLoose.min_long.code 4 (some .long), .methodLink RX1 79 yX1_lowerDebt, .instanceMethod yX1_lowerDebt, .selects RX1 yX1_lowerDebt yX1_lowerDebt, .initialized RX1, .code yX1_lowerDebt cX1_lowerDebt 4 none, .fieldLink RX1 31 "HarvestLender$Farmer" "repaid" "[J"] ++ wsX10)
def wsX1_forgetSeason : List Cond := .code yX1_forgetSeason cX1_forgetSeason 1 none :: ([.fieldLink RX1 50 "HarvestLender$Farmer" "plantedCrop" "I", .fieldLink RX1 53 "HarvestLender$Farmer" "hectares" "I", .fieldLink RX1 56 "HarvestLender$Farmer" "coverPercent" "I", .fieldLink RX1 59 "HarvestLender$Farmer" "yieldPercent" "I", .fieldLink RX1 62 "HarvestLender$Farmer" "drawn" "I"] ++ wsX10)
def wsX2_init_r1 : List Cond := [Cond.methodLink RX2 1 objectInit, Cond.instanceMethod objectInit, Cond.code objectInit ⟨#[0xb1]⟩ 1 none, Cond.classLink RX2 9 RX0, Cond.fieldLink RX2 11 "HarvestLender" "crops" "[LHarvestLender$Crop;", Cond.classLink RX2 15 RX1, Cond.fieldLink RX2 17 "HarvestLender" "rows" "[LHarvestLender$Farmer;", Cond.fieldLink RX2 21 "HarvestLender" "count" "I", Cond.fieldLink RX2 25 "HarvestLender" "season" "I", Cond.fieldLink RX2 28 "HarvestLender" "stage" "I", Cond.instantiable RX0 3, Cond.initialized RX0, Cond.instantiable RX1 17, Cond.initialized RX1, Cond.methodLink RX2 31 yX0_init, Cond.instanceMethod yX0_init, Cond.code yX0_init cX0_init 2 none, Cond.methodLink RX0 3 objectInit, Cond.arrayClass .int, Cond.fieldLink RX0 9 "HarvestLender$Crop" "needs" "[I", Cond.fieldLink RX0 15 "HarvestLender$Crop" "price" "I", Cond.fieldLink RX0 19 "HarvestLender$Crop" "normal" "I", Cond.instanceMethod yX1_init, Cond.code yX1_init cX1_init 1 none]
def wsX2_init_r2 : List Cond := [Cond.methodLink RX1 3 objectInit, Cond.fieldLink RX1 9 "HarvestLender$Farmer" "group" "I", Cond.fieldLink RX1 15 "HarvestLender$Farmer" "purse" "J", Cond.fieldLink RX1 19 "HarvestLender$Farmer" "debt" "J", Cond.fieldLink RX1 22 "HarvestLender$Farmer" "pledgeDebt" "J", Cond.fieldLink RX1 25 "HarvestLender$Farmer" "charged" "J", Cond.fieldLink RX1 28 "HarvestLender$Farmer" "called" "J", Cond.arrayClass .long, Cond.fieldLink RX1 31 "HarvestLender$Farmer" "repaid" "[J", Cond.fieldLink RX1 35 "HarvestLender$Farmer" "instalments" "[J", Cond.fieldLink RX1 38 "HarvestLender$Farmer" "instalmentsLeft" "I", Cond.fieldLink RX1 41 "HarvestLender$Farmer" "grain" "I", Cond.fieldLink RX1 44 "HarvestLender$Farmer" "pledgedGrain" "I", Cond.fieldLink RX1 47 "HarvestLender$Farmer" "grainCrop" "I", Cond.fieldLink RX1 50 "HarvestLender$Farmer" "plantedCrop" "I", Cond.fieldLink RX1 53 "HarvestLender$Farmer" "hectares" "I", Cond.fieldLink RX1 56 "HarvestLender$Farmer" "coverPercent" "I", Cond.fieldLink RX1 59 "HarvestLender$Farmer" "yieldPercent" "I", Cond.fieldLink RX1 62 "HarvestLender$Farmer" "drawn" "I"]
def wsX2_init : List Cond := .code yX2_init cX2_init 2 none :: ((wsX2_init_r1 ++ wsX2_init_r2) ++ wsX20 ++ wsX00 ++ wsX10)
def wsX2_cropAt : List Cond := .code yX2_cropAt cX2_cropAt 2 (some (.object "HarvestLender$Crop")) :: ([.classLink RX2 37 "java/lang/IndexOutOfBoundsException", .initialized "java/lang/IndexOutOfBoundsException", .fieldLink RX2 11 "HarvestLender" "crops" "[LHarvestLender$Crop;"] ++ wsX20 ++ (vx_atS RX2 41 "java/lang/IndexOutOfBoundsException" ["java/lang/RuntimeException", "java/lang/Exception"]).filter goodWord)
def wsX2_requireRange : List Cond := .code yX2_requireRange cX2_requireRange 3 none :: ([.classLink RX2 175 "java/lang/IllegalArgumentException", .initialized "java/lang/IllegalArgumentException"] ++ (vx_atS RX2 179 "java/lang/IllegalArgumentException" ["java/lang/RuntimeException", "java/lang/Exception"]).filter goodWord)
def wsX2_setNeed : List Cond := .code yX2_setNeed cX2_setNeed 6 (some .int) :: ([.classLink RX2 37 "java/lang/IndexOutOfBoundsException", .initialized "java/lang/IndexOutOfBoundsException", .constant RX2 44 (100000), .fieldLink RX2 49 "HarvestLender$Crop" "needs" "[I", .methodLink RX2 33 yX2_cropAt, .instanceMethod yX2_cropAt, .selects RX2 yX2_cropAt yX2_cropAt, .initialized RX2, .code yX2_cropAt cX2_cropAt 2 (some (.object "HarvestLender$Crop")), .fieldLink RX2 11 "HarvestLender" "crops" "[LHarvestLender$Crop;", .methodLink RX2 45 yX2_requireRange, .static yX2_requireRange, .code yX2_requireRange cX2_requireRange 3 none, .classLink RX2 175 "java/lang/IllegalArgumentException", .initialized "java/lang/IllegalArgumentException"] ++ wsX00 ++ wsX20 ++ (vx_atS RX2 41 "java/lang/IndexOutOfBoundsException" ["java/lang/RuntimeException", "java/lang/Exception"]).filter goodWord ++ (vx_atS RX2 179 "java/lang/IllegalArgumentException" ["java/lang/RuntimeException", "java/lang/Exception"]).filter goodWord)
def wsX2_setCrop : List Cond := .code yX2_setCrop cX2_setCrop 6 (some .int) :: ([.fieldLink RX2 53 "HarvestLender$Crop" "price" "I", .fieldLink RX2 56 "HarvestLender$Crop" "normal" "I", .methodLink RX2 33 yX2_cropAt, .instanceMethod yX2_cropAt, .selects RX2 yX2_cropAt yX2_cropAt, .initialized RX2, .code yX2_cropAt cX2_cropAt 2 (some (.object "HarvestLender$Crop")), .classLink RX2 37 "java/lang/IndexOutOfBoundsException", .initialized "java/lang/IndexOutOfBoundsException", .fieldLink RX2 11 "HarvestLender" "crops" "[LHarvestLender$Crop;", .methodLink RX2 45 yX2_requireRange, .static yX2_requireRange, .code yX2_requireRange cX2_requireRange 3 none, .classLink RX2 175 "java/lang/IllegalArgumentException", .initialized "java/lang/IllegalArgumentException"] ++ wsX00 ++ wsX20 ++ (vx_atS RX2 41 "java/lang/IndexOutOfBoundsException" ["java/lang/RuntimeException", "java/lang/Exception"]).filter goodWord ++ (vx_atS RX2 179 "java/lang/IllegalArgumentException" ["java/lang/RuntimeException", "java/lang/Exception"]).filter goodWord)
def wsX2_requireState : List Cond := .code yX2_requireState cX2_requireState 1 none :: ([.classLink RX2 180 "java/lang/IllegalStateException", .initialized "java/lang/IllegalStateException"] ++ (vx_atS RX2 184 "java/lang/IllegalStateException" ["java/lang/RuntimeException", "java/lang/Exception"]).filter goodWord)
def wsX2_add : List Cond := .code yX2_add cX2_add 3 (some .int) :: ([.classLink RX2 37 "java/lang/IndexOutOfBoundsException", .initialized "java/lang/IndexOutOfBoundsException", .fieldLink RX2 21 "HarvestLender" "count" "I", .fieldLink RX2 17 "HarvestLender" "rows" "[LHarvestLender$Farmer;", .fieldLink RX2 65 "HarvestLender$Farmer" "group" "I", .methodLink RX2 61 yX2_requireState, .static yX2_requireState, .initialized RX2, .code yX2_requireState cX2_requireState 1 none, .classLink RX2 180 "java/lang/IllegalStateException", .initialized "java/lang/IllegalStateException"] ++ wsX20 ++ wsX10 ++ (vx_atS RX2 41 "java/lang/IndexOutOfBoundsException" ["java/lang/RuntimeException", "java/lang/Exception"]).filter goodWord ++ (vx_atS RX2 184 "java/lang/IllegalStateException" ["java/lang/RuntimeException", "java/lang/Exception"]).filter goodWord)
def wsX2_farmers : List Cond := .code yX2_farmers cX2_farmers 1 (some .int) :: ([.fieldLink RX2 21 "HarvestLender" "count" "I"] ++ wsX20)
def wsX2_farmerAt : List Cond := .code yX2_farmerAt cX2_farmerAt 2 (some (.object "HarvestLender$Farmer")) :: ([.classLink RX2 37 "java/lang/IndexOutOfBoundsException", .initialized "java/lang/IndexOutOfBoundsException", .fieldLink RX2 21 "HarvestLender" "count" "I", .fieldLink RX2 17 "HarvestLender" "rows" "[LHarvestLender$Farmer;"] ++ wsX20 ++ (vx_atS RX2 41 "java/lang/IndexOutOfBoundsException" ["java/lang/RuntimeException", "java/lang/Exception"]).filter goodWord)
def wsX2_plant_r1 : List Cond := [Cond.fieldLink RX2 28 "HarvestLender" "stage" "I", Cond.fieldLink RX2 76 "HarvestLender$Farmer" "grain" "I", Cond.fieldLink RX2 79 "HarvestLender$Farmer" "grainCrop" "I", Cond.fieldLink RX2 82 "HarvestLender$Farmer" "plantedCrop" "I", Cond.fieldLink RX2 85 "HarvestLender$Farmer" "hectares" "I", Cond.methodLink RX2 68 yX2_farmerAt, Cond.instanceMethod yX2_farmerAt, Cond.selects RX2 yX2_farmerAt yX2_farmerAt, Cond.initialized RX2, Cond.code yX2_farmerAt cX2_farmerAt 2 (some (.object "HarvestLender$Farmer")), Cond.classLink RX2 37 "java/lang/IndexOutOfBoundsException", Cond.initialized "java/lang/IndexOutOfBoundsException", Cond.fieldLink RX2 21 "HarvestLender" "count" "I", Cond.fieldLink RX2 17 "HarvestLender" "rows" "[LHarvestLender$Farmer;", Cond.methodLink RX2 33 yX2_cropAt, Cond.instanceMethod yX2_cropAt, Cond.selects RX2 yX2_cropAt yX2_cropAt, Cond.code yX2_cropAt cX2_cropAt 2 (some (.object "HarvestLender$Crop")), Cond.fieldLink RX2 11 "HarvestLender" "crops" "[LHarvestLender$Crop;", Cond.methodLink RX2 45 yX2_requireRange, Cond.static yX2_requireRange, Cond.code yX2_requireRange cX2_requireRange 3 none, Cond.classLink RX2 175 "java/lang/IllegalArgumentException", Cond.initialized "java/lang/IllegalArgumentException"]
def wsX2_plant_r2 : List Cond := [Cond.methodLink RX2 72 yX1_hasPlanted, Cond.instanceMethod yX1_hasPlanted, Cond.selects RX1 yX1_hasPlanted yX1_hasPlanted, Cond.initialized RX1, Cond.code yX1_hasPlanted cX1_hasPlanted 1 (some .boolean), Cond.fieldLink RX1 50 "HarvestLender$Farmer" "plantedCrop" "I", Cond.methodLink RX2 61 yX2_requireState, Cond.static yX2_requireState, Cond.code yX2_requireState cX2_requireState 1 none, Cond.classLink RX2 180 "java/lang/IllegalStateException", Cond.initialized "java/lang/IllegalStateException", Cond.methodLink RX2 88 yX0_needUpTo, Cond.instanceMethod yX0_needUpTo, Cond.selects RX0 yX0_needUpTo yX0_needUpTo, Cond.initialized RX0, Cond.code yX0_needUpTo cX0_needUpTo 4 (some .int), Cond.fieldLink RX0 9 "HarvestLender$Crop" "needs" "[I"]
def wsX2_plant : List Cond := .code yX2_plant cX2_plant 6 (some .int) :: ((wsX2_plant_r1 ++ wsX2_plant_r2) ++ wsX20 ++ wsX10 ++ wsX00 ++ (vx_atS RX2 41 "java/lang/IndexOutOfBoundsException" ["java/lang/RuntimeException", "java/lang/Exception"]).filter goodWord ++ (vx_atS RX2 179 "java/lang/IllegalArgumentException" ["java/lang/RuntimeException", "java/lang/Exception"]).filter goodWord ++ (vx_atS RX2 184 "java/lang/IllegalStateException" ["java/lang/RuntimeException", "java/lang/Exception"]).filter goodWord)
def wsX2_cover_r1 : List Cond := [Cond.fieldLink RX2 28 "HarvestLender" "stage" "I", Cond.fieldLink RX2 92 "HarvestLender$Farmer" "coverPercent" "I", Cond.methodLink RX2 68 yX2_farmerAt, Cond.instanceMethod yX2_farmerAt, Cond.selects RX2 yX2_farmerAt yX2_farmerAt, Cond.initialized RX2, Cond.code yX2_farmerAt cX2_farmerAt 2 (some (.object "HarvestLender$Farmer")), Cond.classLink RX2 37 "java/lang/IndexOutOfBoundsException", Cond.initialized "java/lang/IndexOutOfBoundsException", Cond.fieldLink RX2 21 "HarvestLender" "count" "I", Cond.fieldLink RX2 17 "HarvestLender" "rows" "[LHarvestLender$Farmer;", Cond.methodLink RX2 45 yX2_requireRange, Cond.static yX2_requireRange, Cond.code yX2_requireRange cX2_requireRange 3 none, Cond.classLink RX2 175 "java/lang/IllegalArgumentException", Cond.initialized "java/lang/IllegalArgumentException", Cond.methodLink RX2 72 yX1_hasPlanted, Cond.instanceMethod yX1_hasPlanted, Cond.selects RX1 yX1_hasPlanted yX1_hasPlanted, Cond.initialized RX1, Cond.code yX1_hasPlanted cX1_hasPlanted 1 (some .boolean), Cond.fieldLink RX1 50 "HarvestLender$Farmer" "plantedCrop" "I", Cond.methodLink RX2 61 yX2_requireState, Cond.static yX2_requireState]
def wsX2_cover_r2 : List Cond := [Cond.code yX2_requireState cX2_requireState 1 none, Cond.classLink RX2 180 "java/lang/IllegalStateException", Cond.initialized "java/lang/IllegalStateException"]
def wsX2_cover : List Cond := .code yX2_cover cX2_cover 5 (some .int) :: ((wsX2_cover_r1 ++ wsX2_cover_r2) ++ wsX20 ++ wsX10 ++ (vx_atS RX2 41 "java/lang/IndexOutOfBoundsException" ["java/lang/RuntimeException", "java/lang/Exception"]).filter goodWord ++ (vx_atS RX2 179 "java/lang/IllegalArgumentException" ["java/lang/RuntimeException", "java/lang/Exception"]).filter goodWord ++ (vx_atS RX2 184 "java/lang/IllegalStateException" ["java/lang/RuntimeException", "java/lang/Exception"]).filter goodWord)
def wsX2_limitOf : List Cond := .code yX2_limitOf cX2_limitOf 2 (some .int) :: ([.fieldLink RX2 82 "HarvestLender$Farmer" "plantedCrop" "I", .fieldLink RX2 28 "HarvestLender" "stage" "I", .fieldLink RX2 85 "HarvestLender$Farmer" "hectares" "I", .methodLink RX2 72 yX1_hasPlanted, .instanceMethod yX1_hasPlanted, .selects RX1 yX1_hasPlanted yX1_hasPlanted, .initialized RX1, .code yX1_hasPlanted cX1_hasPlanted 1 (some .boolean), .fieldLink RX1 50 "HarvestLender$Farmer" "plantedCrop" "I", .methodLink RX2 33 yX2_cropAt, .instanceMethod yX2_cropAt, .selects RX2 yX2_cropAt yX2_cropAt, .initialized RX2, .code yX2_cropAt cX2_cropAt 2 (some (.object "HarvestLender$Crop")), .classLink RX2 37 "java/lang/IndexOutOfBoundsException", .initialized "java/lang/IndexOutOfBoundsException", .fieldLink RX2 11 "HarvestLender" "crops" "[LHarvestLender$Crop;", .methodLink RX2 88 yX0_needUpTo, .instanceMethod yX0_needUpTo, .selects RX0 yX0_needUpTo yX0_needUpTo, .initialized RX0, .code yX0_needUpTo cX0_needUpTo 4 (some .int), .fieldLink RX0 9 "HarvestLender$Crop" "needs" "[I"] ++ wsX10 ++ wsX20 ++ wsX00 ++ (vx_atS RX2 41 "java/lang/IndexOutOfBoundsException" ["java/lang/RuntimeException", "java/lang/Exception"]).filter goodWord)
def wsX2_draw_r1 : List Cond := [Cond.constant RX2 95 (100000000), Cond.fieldLink RX2 28 "HarvestLender" "stage" "I", Cond.fieldLink RX2 100 "HarvestLender$Farmer" "drawn" "I", Cond.methodLink RX2 68 yX2_farmerAt, Cond.instanceMethod yX2_farmerAt, Cond.selects RX2 yX2_farmerAt yX2_farmerAt, Cond.initialized RX2, Cond.code yX2_farmerAt cX2_farmerAt 2 (some (.object "HarvestLender$Farmer")), Cond.classLink RX2 37 "java/lang/IndexOutOfBoundsException", Cond.initialized "java/lang/IndexOutOfBoundsException", Cond.fieldLink RX2 21 "HarvestLender" "count" "I", Cond.fieldLink RX2 17 "HarvestLender" "rows" "[LHarvestLender$Farmer;", Cond.methodLink RX2 45 yX2_requireRange, Cond.static yX2_requireRange, Cond.code yX2_requireRange cX2_requireRange 3 none, Cond.classLink RX2 175 "java/lang/IllegalArgumentException", Cond.initialized "java/lang/IllegalArgumentException", Cond.methodLink RX2 61 yX2_requireState, Cond.static yX2_requireState, Cond.code yX2_requireState cX2_requireState 1 none, Cond.classLink RX2 180 "java/lang/IllegalStateException", Cond.initialized "java/lang/IllegalStateException", Cond.methodLink RX2 96 yX2_limitOf, Cond.instanceMethod yX2_limitOf]
def wsX2_draw_r2 : List Cond := [Cond.selects RX2 yX2_limitOf yX2_limitOf, Cond.code yX2_limitOf cX2_limitOf 2 (some .int), Cond.fieldLink RX2 82 "HarvestLender$Farmer" "plantedCrop" "I", Cond.fieldLink RX2 85 "HarvestLender$Farmer" "hectares" "I", Cond.methodLink RX2 72 yX1_hasPlanted, Cond.instanceMethod yX1_hasPlanted, Cond.selects RX1 yX1_hasPlanted yX1_hasPlanted, Cond.initialized RX1, Cond.code yX1_hasPlanted cX1_hasPlanted 1 (some .boolean), Cond.fieldLink RX1 50 "HarvestLender$Farmer" "plantedCrop" "I", Cond.methodLink RX2 33 yX2_cropAt, Cond.instanceMethod yX2_cropAt, Cond.selects RX2 yX2_cropAt yX2_cropAt, Cond.code yX2_cropAt cX2_cropAt 2 (some (.object "HarvestLender$Crop")), Cond.fieldLink RX2 11 "HarvestLender" "crops" "[LHarvestLender$Crop;", Cond.methodLink RX2 88 yX0_needUpTo, Cond.instanceMethod yX0_needUpTo, Cond.selects RX0 yX0_needUpTo yX0_needUpTo, Cond.initialized RX0, Cond.code yX0_needUpTo cX0_needUpTo 4 (some .int), Cond.fieldLink RX0 9 "HarvestLender$Crop" "needs" "[I", Cond.methodLink RX2 103 yX1_charge, Cond.instanceMethod yX1_charge, Cond.selects RX1 yX1_charge yX1_charge]
def wsX2_draw_r3 : List Cond := [Cond.code yX1_charge cX1_charge 3 none, Cond.fieldLink RX1 19 "HarvestLender$Farmer" "debt" "J", Cond.fieldLink RX1 25 "HarvestLender$Farmer" "charged" "J"]
def wsX2_draw : List Cond := .code yX2_draw cX2_draw 5 (some .int) :: ((wsX2_draw_r1 ++ (wsX2_draw_r2 ++ wsX2_draw_r3)) ++ wsX20 ++ wsX10 ++ wsX00 ++ (vx_atS RX2 41 "java/lang/IndexOutOfBoundsException" ["java/lang/RuntimeException", "java/lang/Exception"]).filter goodWord ++ (vx_atS RX2 179 "java/lang/IllegalArgumentException" ["java/lang/RuntimeException", "java/lang/Exception"]).filter goodWord ++ (vx_atS RX2 184 "java/lang/IllegalStateException" ["java/lang/RuntimeException", "java/lang/Exception"]).filter goodWord)
def wsX2_setYield : List Cond := .code yX2_setYield cX2_setYield 5 (some .int) :: ([.fieldLink RX2 28 "HarvestLender" "stage" "I", .fieldLink RX2 107 "HarvestLender$Farmer" "yieldPercent" "I", .methodLink RX2 68 yX2_farmerAt, .instanceMethod yX2_farmerAt, .selects RX2 yX2_farmerAt yX2_farmerAt, .initialized RX2, .code yX2_farmerAt cX2_farmerAt 2 (some (.object "HarvestLender$Farmer")), .classLink RX2 37 "java/lang/IndexOutOfBoundsException", .initialized "java/lang/IndexOutOfBoundsException", .fieldLink RX2 21 "HarvestLender" "count" "I", .fieldLink RX2 17 "HarvestLender" "rows" "[LHarvestLender$Farmer;", .methodLink RX2 45 yX2_requireRange, .static yX2_requireRange, .code yX2_requireRange cX2_requireRange 3 none, .classLink RX2 175 "java/lang/IllegalArgumentException", .initialized "java/lang/IllegalArgumentException", .methodLink RX2 61 yX2_requireState, .static yX2_requireState, .code yX2_requireState cX2_requireState 1 none, .classLink RX2 180 "java/lang/IllegalStateException", .initialized "java/lang/IllegalStateException"] ++ wsX20 ++ wsX10 ++ (vx_atS RX2 41 "java/lang/IndexOutOfBoundsException" ["java/lang/RuntimeException", "java/lang/Exception"]).filter goodWord ++ (vx_atS RX2 179 "java/lang/IllegalArgumentException" ["java/lang/RuntimeException", "java/lang/Exception"]).filter goodWord ++ (vx_atS RX2 184 "java/lang/IllegalStateException" ["java/lang/RuntimeException", "java/lang/Exception"]).filter goodWord)
def wsX2_harvestAll_r1 : List Cond := [Cond.fieldLink RX2 21 "HarvestLender" "count" "I", Cond.fieldLink RX2 17 "HarvestLender" "rows" "[LHarvestLender$Farmer;", Cond.fieldLink RX2 82 "HarvestLender$Farmer" "plantedCrop" "I", Cond.methodLink RX2 72 yX1_hasPlanted, Cond.instanceMethod yX1_hasPlanted, Cond.selects RX1 yX1_hasPlanted yX1_hasPlanted, Cond.initialized RX1, Cond.code yX1_hasPlanted cX1_hasPlanted 1 (some .boolean), Cond.fieldLink RX1 50 "HarvestLender$Farmer" "plantedCrop" "I", Cond.methodLink RX2 33 yX2_cropAt, Cond.instanceMethod yX2_cropAt, Cond.selects RX2 yX2_cropAt yX2_cropAt, Cond.initialized RX2, Cond.code yX2_cropAt cX2_cropAt 2 (some (.object "HarvestLender$Crop")), Cond.classLink RX2 37 "java/lang/IndexOutOfBoundsException", Cond.initialized "java/lang/IndexOutOfBoundsException", Cond.fieldLink RX2 11 "HarvestLender" "crops" "[LHarvestLender$Crop;", Cond.methodLink RX2 185 yX1_harvest, Cond.instanceMethod yX1_harvest, Cond.selects RX1 yX1_harvest yX1_harvest, Cond.code yX1_harvest cX1_harvest 5 none, Cond.fieldLink RX1 53 "HarvestLender$Farmer" "hectares" "I", Cond.fieldLink RX1 83 "HarvestLender$Crop" "normal" "I", Cond.fieldLink RX1 41 "HarvestLender$Farmer" "grain" "I"]
def wsX2_harvestAll_r2 : List Cond := [Cond.fieldLink RX1 59 "HarvestLender$Farmer" "yieldPercent" "I", Cond.fieldLink RX1 47 "HarvestLender$Farmer" "grainCrop" "I", Cond.fieldLink RX1 56 "HarvestLender$Farmer" "coverPercent" "I", Cond.fieldLink RX1 88 "HarvestLender$Crop" "price" "I", Cond.constantLong RX1 67 (100), Cond.methodLink RX1 91 yX1_receive, Cond.instanceMethod yX1_receive, Cond.selects RX1 yX1_receive yX1_receive, Cond.code yX1_receive cX1_receive 6 none, Cond.fieldLink RX1 19 "HarvestLender$Farmer" "debt" "J", Cond.methodLink RX1 73 Lib.MathLoose.min_long.x, Cond.static Lib.MathLoose.min_long.x, Cond.initialized "java/lang/Math", Cond.code Lib.MathLoose.min_long.x Lib.MathLoose.min_long.code 4 (some .long), Cond.fieldLink RX1 15 "HarvestLender$Farmer" "purse" "J", Cond.methodLink RX1 79 yX1_lowerDebt, Cond.instanceMethod yX1_lowerDebt, Cond.selects RX1 yX1_lowerDebt yX1_lowerDebt, Cond.code yX1_lowerDebt cX1_lowerDebt 4 none, Cond.fieldLink RX1 31 "HarvestLender$Farmer" "repaid" "[J"]
def wsX2_harvestAll : List Cond := .code yX2_harvestAll cX2_harvestAll 2 none :: ((wsX2_harvestAll_r1 ++ wsX2_harvestAll_r2) ++ wsX20 ++ wsX10 ++ wsX00 ++ (vx_atS RX2 41 "java/lang/IndexOutOfBoundsException" ["java/lang/RuntimeException", "java/lang/Exception"]).filter goodWord)
def wsX2_next_r1 : List Cond := [Cond.fieldLink RX2 28 "HarvestLender" "stage" "I", Cond.fieldLink RX2 21 "HarvestLender" "count" "I", Cond.fieldLink RX2 17 "HarvestLender" "rows" "[LHarvestLender$Farmer;", Cond.methodLink RX2 61 yX2_requireState, Cond.static yX2_requireState, Cond.initialized RX2, Cond.code yX2_requireState cX2_requireState 1 none, Cond.classLink RX2 180 "java/lang/IllegalStateException", Cond.initialized "java/lang/IllegalStateException", Cond.methodLink RX2 110 yX1_chargeInterest, Cond.instanceMethod yX1_chargeInterest, Cond.selects RX1 yX1_chargeInterest yX1_chargeInterest, Cond.initialized RX1, Cond.code yX1_chargeInterest cX1_chargeInterest 1 none, Cond.fieldLink RX1 19 "HarvestLender$Farmer" "debt" "J", Cond.constantLong RX1 65 (2), Cond.constantLong RX1 67 (100), Cond.methodLink RX1 69 yX1_charge, Cond.instanceMethod yX1_charge, Cond.selects RX1 yX1_charge yX1_charge, Cond.code yX1_charge cX1_charge 3 none, Cond.fieldLink RX1 25 "HarvestLender$Farmer" "charged" "J", Cond.methodLink RX2 113 yX2_harvestAll, Cond.instanceMethod yX2_harvestAll]
def wsX2_next_r2 : List Cond := [Cond.selects RX2 yX2_harvestAll yX2_harvestAll, Cond.code yX2_harvestAll cX2_harvestAll 2 none, Cond.fieldLink RX2 82 "HarvestLender$Farmer" "plantedCrop" "I", Cond.methodLink RX2 72 yX1_hasPlanted, Cond.instanceMethod yX1_hasPlanted, Cond.selects RX1 yX1_hasPlanted yX1_hasPlanted, Cond.code yX1_hasPlanted cX1_hasPlanted 1 (some .boolean), Cond.fieldLink RX1 50 "HarvestLender$Farmer" "plantedCrop" "I", Cond.methodLink RX2 33 yX2_cropAt, Cond.instanceMethod yX2_cropAt, Cond.selects RX2 yX2_cropAt yX2_cropAt, Cond.code yX2_cropAt cX2_cropAt 2 (some (.object "HarvestLender$Crop")), Cond.classLink RX2 37 "java/lang/IndexOutOfBoundsException", Cond.initialized "java/lang/IndexOutOfBoundsException", Cond.fieldLink RX2 11 "HarvestLender" "crops" "[LHarvestLender$Crop;", Cond.methodLink RX2 185 yX1_harvest, Cond.instanceMethod yX1_harvest, Cond.selects RX1 yX1_harvest yX1_harvest, Cond.code yX1_harvest cX1_harvest 5 none, Cond.fieldLink RX1 53 "HarvestLender$Farmer" "hectares" "I", Cond.fieldLink RX1 83 "HarvestLender$Crop" "normal" "I", Cond.fieldLink RX1 41 "HarvestLender$Farmer" "grain" "I", Cond.fieldLink RX1 59 "HarvestLender$Farmer" "yieldPercent" "I", Cond.fieldLink RX1 47 "HarvestLender$Farmer" "grainCrop" "I"]
def wsX2_next_r3 : List Cond := [Cond.fieldLink RX1 56 "HarvestLender$Farmer" "coverPercent" "I", Cond.fieldLink RX1 88 "HarvestLender$Crop" "price" "I", Cond.methodLink RX1 91 yX1_receive, Cond.instanceMethod yX1_receive, Cond.selects RX1 yX1_receive yX1_receive, Cond.code yX1_receive cX1_receive 6 none, Cond.methodLink RX1 73 Lib.MathLoose.min_long.x, Cond.static Lib.MathLoose.min_long.x, Cond.initialized "java/lang/Math", Cond.code Lib.MathLoose.min_long.x Lib.MathLoose.min_long.code 4 (some .long), Cond.fieldLink RX1 15 "HarvestLender$Farmer" "purse" "J", Cond.methodLink RX1 79 yX1_lowerDebt, Cond.instanceMethod yX1_lowerDebt, Cond.selects RX1 yX1_lowerDebt yX1_lowerDebt, Cond.code yX1_lowerDebt cX1_lowerDebt 4 none, Cond.fieldLink RX1 31 "HarvestLender$Farmer" "repaid" "[J"]
def wsX2_next : List Cond := .code yX2_next cX2_next 2 (some .int) :: ((wsX2_next_r1 ++ (wsX2_next_r2 ++ wsX2_next_r3)) ++ wsX20 ++ wsX10 ++ wsX00 ++ (vx_atS RX2 184 "java/lang/IllegalStateException" ["java/lang/RuntimeException", "java/lang/Exception"]).filter goodWord ++ (vx_atS RX2 41 "java/lang/IndexOutOfBoundsException" ["java/lang/RuntimeException", "java/lang/Exception"]).filter goodWord)
def wsX2_pledge_r1 : List Cond := [Cond.constant RX2 116 (1000000), Cond.fieldLink RX2 79 "HarvestLender$Farmer" "grainCrop" "I", Cond.fieldLink RX2 53 "HarvestLender$Crop" "price" "I", Cond.methodLink RX2 68 yX2_farmerAt, Cond.instanceMethod yX2_farmerAt, Cond.selects RX2 yX2_farmerAt yX2_farmerAt, Cond.initialized RX2, Cond.code yX2_farmerAt cX2_farmerAt 2 (some (.object "HarvestLender$Farmer")), Cond.classLink RX2 37 "java/lang/IndexOutOfBoundsException", Cond.initialized "java/lang/IndexOutOfBoundsException", Cond.fieldLink RX2 21 "HarvestLender" "count" "I", Cond.fieldLink RX2 17 "HarvestLender" "rows" "[LHarvestLender$Farmer;", Cond.methodLink RX2 45 yX2_requireRange, Cond.static yX2_requireRange, Cond.code yX2_requireRange cX2_requireRange 3 none, Cond.classLink RX2 175 "java/lang/IllegalArgumentException", Cond.initialized "java/lang/IllegalArgumentException", Cond.methodLink RX2 117 yX1_freeGrain, Cond.instanceMethod yX1_freeGrain, Cond.selects RX1 yX1_freeGrain yX1_freeGrain, Cond.initialized RX1, Cond.code yX1_freeGrain cX1_freeGrain 1 (some .int), Cond.fieldLink RX1 41 "HarvestLender$Farmer" "grain" "I", Cond.fieldLink RX1 44 "HarvestLender$Farmer" "pledgedGrain" "I"]
def wsX2_pledge_r2 : List Cond := [Cond.methodLink RX2 61 yX2_requireState, Cond.static yX2_requireState, Cond.code yX2_requireState cX2_requireState 1 none, Cond.classLink RX2 180 "java/lang/IllegalStateException", Cond.initialized "java/lang/IllegalStateException", Cond.methodLink RX2 33 yX2_cropAt, Cond.instanceMethod yX2_cropAt, Cond.selects RX2 yX2_cropAt yX2_cropAt, Cond.code yX2_cropAt cX2_cropAt 2 (some (.object "HarvestLender$Crop")), Cond.fieldLink RX2 11 "HarvestLender" "crops" "[LHarvestLender$Crop;", Cond.methodLink RX2 121 yX1_pledgeUnits, Cond.instanceMethod yX1_pledgeUnits, Cond.selects RX1 yX1_pledgeUnits yX1_pledgeUnits, Cond.code yX1_pledgeUnits cX1_pledgeUnits 5 (some .long), Cond.constantLong RX1 94 (60), Cond.constantLong RX1 67 (100), Cond.fieldLink RX1 22 "HarvestLender$Farmer" "pledgeDebt" "J", Cond.methodLink RX1 91 yX1_receive, Cond.instanceMethod yX1_receive, Cond.selects RX1 yX1_receive yX1_receive, Cond.code yX1_receive cX1_receive 6 none, Cond.fieldLink RX1 19 "HarvestLender$Farmer" "debt" "J", Cond.methodLink RX1 73 Lib.MathLoose.min_long.x, Cond.static Lib.MathLoose.min_long.x]
def wsX2_pledge_r3 : List Cond := [Cond.initialized "java/lang/Math", Cond.code Lib.MathLoose.min_long.x Lib.MathLoose.min_long.code 4 (some .long), Cond.fieldLink RX1 15 "HarvestLender$Farmer" "purse" "J", Cond.methodLink RX1 79 yX1_lowerDebt, Cond.instanceMethod yX1_lowerDebt, Cond.selects RX1 yX1_lowerDebt yX1_lowerDebt, Cond.code yX1_lowerDebt cX1_lowerDebt 4 none, Cond.fieldLink RX1 31 "HarvestLender$Farmer" "repaid" "[J"]
def wsX2_pledge : List Cond := .code yX2_pledge cX2_pledge 4 (some .int) :: ((wsX2_pledge_r1 ++ (wsX2_pledge_r2 ++ wsX2_pledge_r3)) ++ wsX10 ++ wsX00 ++ wsX20 ++ (vx_atS RX2 41 "java/lang/IndexOutOfBoundsException" ["java/lang/RuntimeException", "java/lang/Exception"]).filter goodWord ++ (vx_atS RX2 179 "java/lang/IllegalArgumentException" ["java/lang/RuntimeException", "java/lang/Exception"]).filter goodWord ++ (vx_atS RX2 184 "java/lang/IllegalStateException" ["java/lang/RuntimeException", "java/lang/Exception"]).filter goodWord)
def wsX2_sell_r1 : List Cond := [Cond.constant RX2 116 (1000000), Cond.fieldLink RX2 76 "HarvestLender$Farmer" "grain" "I", Cond.fieldLink RX2 79 "HarvestLender$Farmer" "grainCrop" "I", Cond.fieldLink RX2 53 "HarvestLender$Crop" "price" "I", Cond.methodLink RX2 68 yX2_farmerAt, Cond.instanceMethod yX2_farmerAt, Cond.selects RX2 yX2_farmerAt yX2_farmerAt, Cond.initialized RX2, Cond.code yX2_farmerAt cX2_farmerAt 2 (some (.object "HarvestLender$Farmer")), Cond.classLink RX2 37 "java/lang/IndexOutOfBoundsException", Cond.initialized "java/lang/IndexOutOfBoundsException", Cond.fieldLink RX2 21 "HarvestLender" "count" "I", Cond.fieldLink RX2 17 "HarvestLender" "rows" "[LHarvestLender$Farmer;", Cond.methodLink RX2 45 yX2_requireRange, Cond.static yX2_requireRange, Cond.code yX2_requireRange cX2_requireRange 3 none, Cond.classLink RX2 175 "java/lang/IllegalArgumentException", Cond.initialized "java/lang/IllegalArgumentException", Cond.methodLink RX2 61 yX2_requireState, Cond.static yX2_requireState, Cond.code yX2_requireState cX2_requireState 1 none, Cond.classLink RX2 180 "java/lang/IllegalStateException", Cond.initialized "java/lang/IllegalStateException", Cond.methodLink RX2 33 yX2_cropAt]
def wsX2_sell_r2 : List Cond := [Cond.instanceMethod yX2_cropAt, Cond.selects RX2 yX2_cropAt yX2_cropAt, Cond.code yX2_cropAt cX2_cropAt 2 (some (.object "HarvestLender$Crop")), Cond.fieldLink RX2 11 "HarvestLender" "crops" "[LHarvestLender$Crop;", Cond.methodLink RX2 125 yX1_sellUnits, Cond.instanceMethod yX1_sellUnits, Cond.selects RX1 yX1_sellUnits yX1_sellUnits, Cond.initialized RX1, Cond.code yX1_sellUnits cX1_sellUnits 9 (some .long), Cond.methodLink RX1 100 Lib.Math.min.name, Cond.static Lib.Math.min.name, Cond.initialized "java/lang/Math", Cond.code Lib.Math.min.name Lib.Math.min.code 2 (some .int), Cond.fieldLink RX1 22 "HarvestLender$Farmer" "pledgeDebt" "J", Cond.methodLink RX1 73 Lib.MathLoose.min_long.x, Cond.static Lib.MathLoose.min_long.x, Cond.code Lib.MathLoose.min_long.x Lib.MathLoose.min_long.code 4 (some .long), Cond.fieldLink RX1 41 "HarvestLender$Farmer" "grain" "I", Cond.fieldLink RX1 44 "HarvestLender$Farmer" "pledgedGrain" "I", Cond.methodLink RX1 96 yX1_freeGrain, Cond.instanceMethod yX1_freeGrain, Cond.selects RX1 yX1_freeGrain yX1_freeGrain, Cond.code yX1_freeGrain cX1_freeGrain 1 (some .int), Cond.methodLink RX1 91 yX1_receive]
def wsX2_sell_r3 : List Cond := [Cond.instanceMethod yX1_receive, Cond.selects RX1 yX1_receive yX1_receive, Cond.code yX1_receive cX1_receive 6 none, Cond.fieldLink RX1 19 "HarvestLender$Farmer" "debt" "J", Cond.fieldLink RX1 15 "HarvestLender$Farmer" "purse" "J", Cond.methodLink RX1 79 yX1_lowerDebt, Cond.instanceMethod yX1_lowerDebt, Cond.selects RX1 yX1_lowerDebt yX1_lowerDebt, Cond.code yX1_lowerDebt cX1_lowerDebt 4 none, Cond.fieldLink RX1 31 "HarvestLender$Farmer" "repaid" "[J", Cond.methodLink RX1 103 yX1_moveRestOfPledgeDebt, Cond.instanceMethod yX1_moveRestOfPledgeDebt, Cond.selects RX1 yX1_moveRestOfPledgeDebt yX1_moveRestOfPledgeDebt, Cond.code yX1_moveRestOfPledgeDebt cX1_moveRestOfPledgeDebt 1 none, Cond.methodLink RX1 69 yX1_charge, Cond.instanceMethod yX1_charge, Cond.selects RX1 yX1_charge yX1_charge, Cond.code yX1_charge cX1_charge 3 none, Cond.fieldLink RX1 25 "HarvestLender$Farmer" "charged" "J"]
def wsX2_sell : List Cond := .code yX2_sell cX2_sell 4 (some .int) :: ((wsX2_sell_r1 ++ (wsX2_sell_r2 ++ wsX2_sell_r3)) ++ wsX10 ++ wsX00 ++ wsX20 ++ (vx_atS RX2 41 "java/lang/IndexOutOfBoundsException" ["java/lang/RuntimeException", "java/lang/Exception"]).filter goodWord ++ (vx_atS RX2 179 "java/lang/IllegalArgumentException" ["java/lang/RuntimeException", "java/lang/Exception"]).filter goodWord ++ (vx_atS RX2 184 "java/lang/IllegalStateException" ["java/lang/RuntimeException", "java/lang/Exception"]).filter goodWord)
def wsX2_repay_r1 : List Cond := [Cond.constant RX2 95 (100000000), Cond.fieldLink RX2 128 "HarvestLender$Farmer" "debt" "J", Cond.fieldLink RX2 132 "HarvestLender$Farmer" "purse" "J", Cond.methodLink RX2 68 yX2_farmerAt, Cond.instanceMethod yX2_farmerAt, Cond.selects RX2 yX2_farmerAt yX2_farmerAt, Cond.initialized RX2, Cond.code yX2_farmerAt cX2_farmerAt 2 (some (.object "HarvestLender$Farmer")), Cond.classLink RX2 37 "java/lang/IndexOutOfBoundsException", Cond.initialized "java/lang/IndexOutOfBoundsException", Cond.fieldLink RX2 21 "HarvestLender" "count" "I", Cond.fieldLink RX2 17 "HarvestLender" "rows" "[LHarvestLender$Farmer;", Cond.methodLink RX2 45 yX2_requireRange, Cond.static yX2_requireRange, Cond.code yX2_requireRange cX2_requireRange 3 none, Cond.classLink RX2 175 "java/lang/IllegalArgumentException", Cond.initialized "java/lang/IllegalArgumentException", Cond.methodLink RX2 61 yX2_requireState, Cond.static yX2_requireState, Cond.code yX2_requireState cX2_requireState 1 none, Cond.classLink RX2 180 "java/lang/IllegalStateException", Cond.initialized "java/lang/IllegalStateException", Cond.methodLink RX2 135 yX1_repayFromPurse, Cond.instanceMethod yX1_repayFromPurse]
def wsX2_repay_r2 : List Cond := [Cond.selects RX1 yX1_repayFromPurse yX1_repayFromPurse, Cond.initialized RX1, Cond.code yX1_repayFromPurse cX1_repayFromPurse 3 none, Cond.fieldLink RX1 15 "HarvestLender$Farmer" "purse" "J", Cond.methodLink RX1 79 yX1_lowerDebt, Cond.instanceMethod yX1_lowerDebt, Cond.selects RX1 yX1_lowerDebt yX1_lowerDebt, Cond.code yX1_lowerDebt cX1_lowerDebt 4 none, Cond.fieldLink RX1 19 "HarvestLender$Farmer" "debt" "J", Cond.fieldLink RX1 31 "HarvestLender$Farmer" "repaid" "[J"]
def wsX2_repay : List Cond := .code yX2_repay cX2_repay 4 (some .int) :: ((wsX2_repay_r1 ++ wsX2_repay_r2) ++ wsX10 ++ wsX20 ++ (vx_atS RX2 41 "java/lang/IndexOutOfBoundsException" ["java/lang/RuntimeException", "java/lang/Exception"]).filter goodWord ++ (vx_atS RX2 179 "java/lang/IllegalArgumentException" ["java/lang/RuntimeException", "java/lang/Exception"]).filter goodWord ++ (vx_atS RX2 184 "java/lang/IllegalStateException" ["java/lang/RuntimeException", "java/lang/Exception"]).filter goodWord)
def wsX2_collectFromGroup : List Cond := .code yX2_collectFromGroup cX2_collectFromGroup 3 none :: ([.fieldLink RX2 21 "HarvestLender" "count" "I", .fieldLink RX2 17 "HarvestLender" "rows" "[LHarvestLender$Farmer;", .fieldLink RX2 65 "HarvestLender$Farmer" "group" "I", .methodLink RX2 198 yX1_payFor, .instanceMethod yX1_payFor, .selects RX1 yX1_payFor yX1_payFor, .initialized RX1, .code yX1_payFor cX1_payFor 4 none, .fieldLink RX1 19 "HarvestLender$Farmer" "debt" "J", .fieldLink RX1 15 "HarvestLender$Farmer" "purse" "J", .constantLong RX1 119 (20000), .fieldLink RX1 28 "HarvestLender$Farmer" "called" "J", .methodLink RX1 73 Lib.MathLoose.min_long.x, .static Lib.MathLoose.min_long.x, .initialized "java/lang/Math", .code Lib.MathLoose.min_long.x Lib.MathLoose.min_long.code 4 (some .long), .methodLink RX1 79 yX1_lowerDebt, .instanceMethod yX1_lowerDebt, .selects RX1 yX1_lowerDebt yX1_lowerDebt, .code yX1_lowerDebt cX1_lowerDebt 4 none, .fieldLink RX1 31 "HarvestLender$Farmer" "repaid" "[J"] ++ wsX20 ++ wsX10)
def wsX2_settleRest_r1 : List Cond := [Cond.fieldLink RX2 128 "HarvestLender$Farmer" "debt" "J", Cond.methodLink RX2 189 yX1_mayRoll, Cond.instanceMethod yX1_mayRoll, Cond.selects RX1 yX1_mayRoll yX1_mayRoll, Cond.initialized RX1, Cond.code yX1_mayRoll cX1_mayRoll 1 (some .boolean), Cond.fieldLink RX1 59 "HarvestLender$Farmer" "yieldPercent" "I", Cond.fieldLink RX1 38 "HarvestLender$Farmer" "instalmentsLeft" "I", Cond.methodLink RX1 113 yX1_hasPlanted, Cond.instanceMethod yX1_hasPlanted, Cond.selects RX1 yX1_hasPlanted yX1_hasPlanted, Cond.code yX1_hasPlanted cX1_hasPlanted 1 (some .boolean), Cond.fieldLink RX1 50 "HarvestLender$Farmer" "plantedCrop" "I", Cond.methodLink RX2 192 yX1_rollDebt, Cond.instanceMethod yX1_rollDebt, Cond.selects RX1 yX1_rollDebt yX1_rollDebt, Cond.code yX1_rollDebt cX1_rollDebt 4 none, Cond.fieldLink RX1 19 "HarvestLender$Farmer" "debt" "J", Cond.constantLong RX1 117 (3), Cond.fieldLink RX1 35 "HarvestLender$Farmer" "instalments" "[J", Cond.constantLong RX1 65 (2), Cond.methodLink RX2 195 yX2_collectFromGroup, Cond.instanceMethod yX2_collectFromGroup, Cond.selects RX2 yX2_collectFromGroup yX2_collectFromGroup]
def wsX2_settleRest_r2 : List Cond := [Cond.initialized RX2, Cond.code yX2_collectFromGroup cX2_collectFromGroup 3 none, Cond.fieldLink RX2 21 "HarvestLender" "count" "I", Cond.fieldLink RX2 17 "HarvestLender" "rows" "[LHarvestLender$Farmer;", Cond.fieldLink RX2 65 "HarvestLender$Farmer" "group" "I", Cond.methodLink RX2 198 yX1_payFor, Cond.instanceMethod yX1_payFor, Cond.selects RX1 yX1_payFor yX1_payFor, Cond.code yX1_payFor cX1_payFor 4 none, Cond.fieldLink RX1 15 "HarvestLender$Farmer" "purse" "J", Cond.constantLong RX1 119 (20000), Cond.fieldLink RX1 28 "HarvestLender$Farmer" "called" "J", Cond.methodLink RX1 73 Lib.MathLoose.min_long.x, Cond.static Lib.MathLoose.min_long.x, Cond.initialized "java/lang/Math", Cond.code Lib.MathLoose.min_long.x Lib.MathLoose.min_long.code 4 (some .long), Cond.methodLink RX1 79 yX1_lowerDebt, Cond.instanceMethod yX1_lowerDebt, Cond.selects RX1 yX1_lowerDebt yX1_lowerDebt, Cond.code yX1_lowerDebt cX1_lowerDebt 4 none, Cond.fieldLink RX1 31 "HarvestLender$Farmer" "repaid" "[J"]
def wsX2_settleRest : List Cond := .code yX2_settleRest cX2_settleRest 2 none :: ((wsX2_settleRest_r1 ++ wsX2_settleRest_r2) ++ wsX10 ++ wsX20)
def wsX2_close_r1 : List Cond := [Cond.fieldLink RX2 28 "HarvestLender" "stage" "I", Cond.fieldLink RX2 25 "HarvestLender" "season" "I", Cond.fieldLink RX2 21 "HarvestLender" "count" "I", Cond.fieldLink RX2 17 "HarvestLender" "rows" "[LHarvestLender$Farmer;", Cond.methodLink RX2 61 yX2_requireState, Cond.static yX2_requireState, Cond.initialized RX2, Cond.code yX2_requireState cX2_requireState 1 none, Cond.classLink RX2 180 "java/lang/IllegalStateException", Cond.initialized "java/lang/IllegalStateException", Cond.methodLink RX2 138 yX1_settleFromPurse, Cond.instanceMethod yX1_settleFromPurse, Cond.selects RX1 yX1_settleFromPurse yX1_settleFromPurse, Cond.initialized RX1, Cond.code yX1_settleFromPurse cX1_settleFromPurse 1 none, Cond.fieldLink RX1 28 "HarvestLender$Farmer" "called" "J", Cond.fieldLink RX1 19 "HarvestLender$Farmer" "debt" "J", Cond.fieldLink RX1 15 "HarvestLender$Farmer" "purse" "J", Cond.methodLink RX1 73 Lib.MathLoose.min_long.x, Cond.static Lib.MathLoose.min_long.x, Cond.initialized "java/lang/Math", Cond.code Lib.MathLoose.min_long.x Lib.MathLoose.min_long.code 4 (some .long), Cond.methodLink RX1 106 yX1_takeInstalment, Cond.instanceMethod yX1_takeInstalment]
def wsX2_close_r2 : List Cond := [Cond.selects RX1 yX1_takeInstalment yX1_takeInstalment, Cond.code yX1_takeInstalment cX1_takeInstalment 2 (some .long), Cond.fieldLink RX1 38 "HarvestLender$Farmer" "instalmentsLeft" "I", Cond.fieldLink RX1 35 "HarvestLender$Farmer" "instalments" "[J", Cond.methodLink RX1 110 yX1_repayFromPurse, Cond.instanceMethod yX1_repayFromPurse, Cond.selects RX1 yX1_repayFromPurse yX1_repayFromPurse, Cond.code yX1_repayFromPurse cX1_repayFromPurse 3 none, Cond.methodLink RX1 79 yX1_lowerDebt, Cond.instanceMethod yX1_lowerDebt, Cond.selects RX1 yX1_lowerDebt yX1_lowerDebt, Cond.code yX1_lowerDebt cX1_lowerDebt 4 none, Cond.fieldLink RX1 31 "HarvestLender$Farmer" "repaid" "[J", Cond.methodLink RX2 141 yX2_settleRest, Cond.instanceMethod yX2_settleRest, Cond.selects RX2 yX2_settleRest yX2_settleRest, Cond.code yX2_settleRest cX2_settleRest 2 none, Cond.fieldLink RX2 128 "HarvestLender$Farmer" "debt" "J", Cond.methodLink RX2 189 yX1_mayRoll, Cond.instanceMethod yX1_mayRoll, Cond.selects RX1 yX1_mayRoll yX1_mayRoll, Cond.code yX1_mayRoll cX1_mayRoll 1 (some .boolean), Cond.fieldLink RX1 59 "HarvestLender$Farmer" "yieldPercent" "I", Cond.methodLink RX1 113 yX1_hasPlanted]
def wsX2_close_r3 : List Cond := [Cond.instanceMethod yX1_hasPlanted, Cond.selects RX1 yX1_hasPlanted yX1_hasPlanted, Cond.code yX1_hasPlanted cX1_hasPlanted 1 (some .boolean), Cond.fieldLink RX1 50 "HarvestLender$Farmer" "plantedCrop" "I", Cond.methodLink RX2 192 yX1_rollDebt, Cond.instanceMethod yX1_rollDebt, Cond.selects RX1 yX1_rollDebt yX1_rollDebt, Cond.code yX1_rollDebt cX1_rollDebt 4 none, Cond.constantLong RX1 117 (3), Cond.constantLong RX1 65 (2), Cond.methodLink RX2 195 yX2_collectFromGroup, Cond.instanceMethod yX2_collectFromGroup, Cond.selects RX2 yX2_collectFromGroup yX2_collectFromGroup, Cond.code yX2_collectFromGroup cX2_collectFromGroup 3 none, Cond.fieldLink RX2 65 "HarvestLender$Farmer" "group" "I", Cond.methodLink RX2 198 yX1_payFor, Cond.instanceMethod yX1_payFor, Cond.selects RX1 yX1_payFor yX1_payFor, Cond.code yX1_payFor cX1_payFor 4 none, Cond.constantLong RX1 119 (20000), Cond.methodLink RX2 145 yX1_forgetSeason, Cond.instanceMethod yX1_forgetSeason, Cond.selects RX1 yX1_forgetSeason yX1_forgetSeason, Cond.code yX1_forgetSeason cX1_forgetSeason 1 none]
def wsX2_close_r4 : List Cond := [Cond.fieldLink RX1 53 "HarvestLender$Farmer" "hectares" "I", Cond.fieldLink RX1 56 "HarvestLender$Farmer" "coverPercent" "I", Cond.fieldLink RX1 62 "HarvestLender$Farmer" "drawn" "I"]
def wsX2_close : List Cond := .code yX2_close cX2_close 2 (some .int) :: ((wsX2_close_r1 ++ (wsX2_close_r2 ++ (wsX2_close_r3 ++ wsX2_close_r4))) ++ wsX20 ++ wsX10 ++ (vx_atS RX2 184 "java/lang/IllegalStateException" ["java/lang/RuntimeException", "java/lang/Exception"]).filter goodWord)
def wsX2_season : List Cond := .code yX2_season cX2_season 1 (some .int) :: ([.fieldLink RX2 25 "HarvestLender" "season" "I"] ++ wsX20)
def wsX2_stage : List Cond := .code yX2_stage cX2_stage 1 (some .int) :: ([.fieldLink RX2 28 "HarvestLender" "stage" "I"] ++ wsX20)
def wsX2_limit_r1 : List Cond := [Cond.methodLink RX2 68 yX2_farmerAt, Cond.instanceMethod yX2_farmerAt, Cond.selects RX2 yX2_farmerAt yX2_farmerAt, Cond.initialized RX2, Cond.code yX2_farmerAt cX2_farmerAt 2 (some (.object "HarvestLender$Farmer")), Cond.classLink RX2 37 "java/lang/IndexOutOfBoundsException", Cond.initialized "java/lang/IndexOutOfBoundsException", Cond.fieldLink RX2 21 "HarvestLender" "count" "I", Cond.fieldLink RX2 17 "HarvestLender" "rows" "[LHarvestLender$Farmer;", Cond.methodLink RX2 96 yX2_limitOf, Cond.instanceMethod yX2_limitOf, Cond.selects RX2 yX2_limitOf yX2_limitOf, Cond.code yX2_limitOf cX2_limitOf 2 (some .int), Cond.fieldLink RX2 82 "HarvestLender$Farmer" "plantedCrop" "I", Cond.fieldLink RX2 28 "HarvestLender" "stage" "I", Cond.fieldLink RX2 85 "HarvestLender$Farmer" "hectares" "I", Cond.methodLink RX2 72 yX1_hasPlanted, Cond.instanceMethod yX1_hasPlanted, Cond.selects RX1 yX1_hasPlanted yX1_hasPlanted, Cond.initialized RX1, Cond.code yX1_hasPlanted cX1_hasPlanted 1 (some .boolean), Cond.fieldLink RX1 50 "HarvestLender$Farmer" "plantedCrop" "I", Cond.methodLink RX2 33 yX2_cropAt, Cond.instanceMethod yX2_cropAt]
def wsX2_limit_r2 : List Cond := [Cond.selects RX2 yX2_cropAt yX2_cropAt, Cond.code yX2_cropAt cX2_cropAt 2 (some (.object "HarvestLender$Crop")), Cond.fieldLink RX2 11 "HarvestLender" "crops" "[LHarvestLender$Crop;", Cond.methodLink RX2 88 yX0_needUpTo, Cond.instanceMethod yX0_needUpTo, Cond.selects RX0 yX0_needUpTo yX0_needUpTo, Cond.initialized RX0, Cond.code yX0_needUpTo cX0_needUpTo 4 (some .int), Cond.fieldLink RX0 9 "HarvestLender$Crop" "needs" "[I"]
def wsX2_limit : List Cond := .code yX2_limit cX2_limit 2 (some .int) :: ((wsX2_limit_r1 ++ wsX2_limit_r2) ++ wsX20 ++ wsX10 ++ wsX00 ++ (vx_atS RX2 41 "java/lang/IndexOutOfBoundsException" ["java/lang/RuntimeException", "java/lang/Exception"]).filter goodWord)
def wsX2_debt : List Cond := .code yX2_debt cX2_debt 2 (some .int) :: ([.fieldLink RX2 128 "HarvestLender$Farmer" "debt" "J", .methodLink RX2 68 yX2_farmerAt, .instanceMethod yX2_farmerAt, .selects RX2 yX2_farmerAt yX2_farmerAt, .initialized RX2, .code yX2_farmerAt cX2_farmerAt 2 (some (.object "HarvestLender$Farmer")), .classLink RX2 37 "java/lang/IndexOutOfBoundsException", .initialized "java/lang/IndexOutOfBoundsException", .fieldLink RX2 21 "HarvestLender" "count" "I", .fieldLink RX2 17 "HarvestLender" "rows" "[LHarvestLender$Farmer;"] ++ wsX10 ++ wsX20 ++ (vx_atS RX2 41 "java/lang/IndexOutOfBoundsException" ["java/lang/RuntimeException", "java/lang/Exception"]).filter goodWord)
def wsX2_owes : List Cond := .code yX2_owes cX2_owes 3 (some .int) :: ([.fieldLink RX2 128 "HarvestLender$Farmer" "debt" "J", .fieldLink RX2 148 "HarvestLender$Farmer" "pledgeDebt" "J", .methodLink RX2 68 yX2_farmerAt, .instanceMethod yX2_farmerAt, .selects RX2 yX2_farmerAt yX2_farmerAt, .initialized RX2, .code yX2_farmerAt cX2_farmerAt 2 (some (.object "HarvestLender$Farmer")), .classLink RX2 37 "java/lang/IndexOutOfBoundsException", .initialized "java/lang/IndexOutOfBoundsException", .fieldLink RX2 21 "HarvestLender" "count" "I", .fieldLink RX2 17 "HarvestLender" "rows" "[LHarvestLender$Farmer;", .methodLink RX2 151 yX1_instalmentSum, .instanceMethod yX1_instalmentSum, .selects RX1 yX1_instalmentSum yX1_instalmentSum, .initialized RX1, .code yX1_instalmentSum cX1_instalmentSum 4 (some .long), .fieldLink RX1 38 "HarvestLender$Farmer" "instalmentsLeft" "I", .fieldLink RX1 35 "HarvestLender$Farmer" "instalments" "[J"] ++ wsX10 ++ wsX20 ++ (vx_atS RX2 41 "java/lang/IndexOutOfBoundsException" ["java/lang/RuntimeException", "java/lang/Exception"]).filter goodWord)
def wsX2_instalments : List Cond := .code yX2_instalments cX2_instalments 2 (some .int) :: ([.fieldLink RX2 155 "HarvestLender$Farmer" "instalmentsLeft" "I", .methodLink RX2 68 yX2_farmerAt, .instanceMethod yX2_farmerAt, .selects RX2 yX2_farmerAt yX2_farmerAt, .initialized RX2, .code yX2_farmerAt cX2_farmerAt 2 (some (.object "HarvestLender$Farmer")), .classLink RX2 37 "java/lang/IndexOutOfBoundsException", .initialized "java/lang/IndexOutOfBoundsException", .fieldLink RX2 21 "HarvestLender" "count" "I", .fieldLink RX2 17 "HarvestLender" "rows" "[LHarvestLender$Farmer;"] ++ wsX10 ++ wsX20 ++ (vx_atS RX2 41 "java/lang/IndexOutOfBoundsException" ["java/lang/RuntimeException", "java/lang/Exception"]).filter goodWord)
def wsX2_purse : List Cond := .code yX2_purse cX2_purse 2 (some .int) :: ([.fieldLink RX2 132 "HarvestLender$Farmer" "purse" "J", .methodLink RX2 68 yX2_farmerAt, .instanceMethod yX2_farmerAt, .selects RX2 yX2_farmerAt yX2_farmerAt, .initialized RX2, .code yX2_farmerAt cX2_farmerAt 2 (some (.object "HarvestLender$Farmer")), .classLink RX2 37 "java/lang/IndexOutOfBoundsException", .initialized "java/lang/IndexOutOfBoundsException", .fieldLink RX2 21 "HarvestLender" "count" "I", .fieldLink RX2 17 "HarvestLender" "rows" "[LHarvestLender$Farmer;"] ++ wsX10 ++ wsX20 ++ (vx_atS RX2 41 "java/lang/IndexOutOfBoundsException" ["java/lang/RuntimeException", "java/lang/Exception"]).filter goodWord)
def wsX2_grain : List Cond := .code yX2_grain cX2_grain 4 (some .int) :: ([.fieldLink RX2 158 "HarvestLender$Farmer" "pledgedGrain" "I", .fieldLink RX2 76 "HarvestLender$Farmer" "grain" "I", .methodLink RX2 68 yX2_farmerAt, .instanceMethod yX2_farmerAt, .selects RX2 yX2_farmerAt yX2_farmerAt, .initialized RX2, .code yX2_farmerAt cX2_farmerAt 2 (some (.object "HarvestLender$Farmer")), .classLink RX2 37 "java/lang/IndexOutOfBoundsException", .initialized "java/lang/IndexOutOfBoundsException", .fieldLink RX2 21 "HarvestLender" "count" "I", .fieldLink RX2 17 "HarvestLender" "rows" "[LHarvestLender$Farmer;"] ++ wsX10 ++ wsX20 ++ (vx_atS RX2 41 "java/lang/IndexOutOfBoundsException" ["java/lang/RuntimeException", "java/lang/Exception"]).filter goodWord)
def wsX2_called : List Cond := .code yX2_called cX2_called 2 (some .int) :: ([.fieldLink RX2 161 "HarvestLender$Farmer" "called" "J", .methodLink RX2 68 yX2_farmerAt, .instanceMethod yX2_farmerAt, .selects RX2 yX2_farmerAt yX2_farmerAt, .initialized RX2, .code yX2_farmerAt cX2_farmerAt 2 (some (.object "HarvestLender$Farmer")), .classLink RX2 37 "java/lang/IndexOutOfBoundsException", .initialized "java/lang/IndexOutOfBoundsException", .fieldLink RX2 21 "HarvestLender" "count" "I", .fieldLink RX2 17 "HarvestLender" "rows" "[LHarvestLender$Farmer;"] ++ wsX10 ++ wsX20 ++ (vx_atS RX2 41 "java/lang/IndexOutOfBoundsException" ["java/lang/RuntimeException", "java/lang/Exception"]).filter goodWord)
def wsX2_repaid : List Cond := .code yX2_repaid cX2_repaid 4 (some .int) :: ([.fieldLink RX2 164 "HarvestLender$Farmer" "repaid" "[J", .methodLink RX2 68 yX2_farmerAt, .instanceMethod yX2_farmerAt, .selects RX2 yX2_farmerAt yX2_farmerAt, .initialized RX2, .code yX2_farmerAt cX2_farmerAt 2 (some (.object "HarvestLender$Farmer")), .classLink RX2 37 "java/lang/IndexOutOfBoundsException", .initialized "java/lang/IndexOutOfBoundsException", .fieldLink RX2 21 "HarvestLender" "count" "I", .fieldLink RX2 17 "HarvestLender" "rows" "[LHarvestLender$Farmer;", .methodLink RX2 45 yX2_requireRange, .static yX2_requireRange, .code yX2_requireRange cX2_requireRange 3 none, .classLink RX2 175 "java/lang/IllegalArgumentException", .initialized "java/lang/IllegalArgumentException"] ++ wsX10 ++ wsX20 ++ (vx_atS RX2 41 "java/lang/IndexOutOfBoundsException" ["java/lang/RuntimeException", "java/lang/Exception"]).filter goodWord ++ (vx_atS RX2 179 "java/lang/IllegalArgumentException" ["java/lang/RuntimeException", "java/lang/Exception"]).filter goodWord)
def wsX2_charged : List Cond := .code yX2_charged cX2_charged 2 (some .int) :: ([.fieldLink RX2 168 "HarvestLender$Farmer" "charged" "J", .methodLink RX2 68 yX2_farmerAt, .instanceMethod yX2_farmerAt, .selects RX2 yX2_farmerAt yX2_farmerAt, .initialized RX2, .code yX2_farmerAt cX2_farmerAt 2 (some (.object "HarvestLender$Farmer")), .classLink RX2 37 "java/lang/IndexOutOfBoundsException", .initialized "java/lang/IndexOutOfBoundsException", .fieldLink RX2 21 "HarvestLender" "count" "I", .fieldLink RX2 17 "HarvestLender" "rows" "[LHarvestLender$Farmer;"] ++ wsX10 ++ wsX20 ++ (vx_atS RX2 41 "java/lang/IndexOutOfBoundsException" ["java/lang/RuntimeException", "java/lang/Exception"]).filter goodWord)
def wsX3_init : List Cond := .code yX3_init cX3_init 2 none :: ([.methodLink RX3 1 objectInit, .instanceMethod objectInit, .code objectInit ⟨#[0xb1]⟩ 1 none, .arrayClass .int, .fieldLink RX3 7 "HarvestLenderModel" "needs" "[I", .fieldLink RX3 13 "HarvestLenderModel" "prices" "[I", .fieldLink RX3 16 "HarvestLenderModel" "normals" "[I", .fieldLink RX3 19 "HarvestLenderModel" "groups" "[I", .fieldLink RX3 22 "HarvestLenderModel" "purses" "[I", .fieldLink RX3 25 "HarvestLenderModel" "debts" "[I", .fieldLink RX3 28 "HarvestLenderModel" "grainCrops" "[I", .fieldLink RX3 31 "HarvestLenderModel" "grains" "[I", .fieldLink RX3 34 "HarvestLenderModel" "pledged" "[I", .fieldLink RX3 37 "HarvestLenderModel" "pledgeDebts" "[I", .fieldLink RX3 40 "HarvestLenderModel" "rows" "[I", .fieldLink RX3 43 "HarvestLenderModel" "parts" "[I", .fieldLink RX3 46 "HarvestLenderModel" "crops" "[I", .fieldLink RX3 49 "HarvestLenderModel" "hectares" "[I", .fieldLink RX3 52 "HarvestLenderModel" "drawn" "[I", .fieldLink RX3 55 "HarvestLenderModel" "covers" "[I", .fieldLink RX3 58 "HarvestLenderModel" "yields" "[I", .fieldLink RX3 61 "HarvestLenderModel" "calls" "[I", .fieldLink RX3 64 "HarvestLenderModel" "repaidOf" "[I", .fieldLink RX3 67 "HarvestLenderModel" "charges" "[I"] ++ wsX30)
def wsX3_thrown : List Cond := .code yX3_thrown cX3_thrown 1 (some .int) :: ([.fieldLink RX3 70 "HarvestLenderModel" "refusal" "I"] ++ wsX30)
def wsX3_refused : List Cond := .code yX3_refused cX3_refused 2 (some .boolean) :: ([.fieldLink RX3 70 "HarvestLenderModel" "refusal" "I"] ++ wsX30)
def wsX3_fine : List Cond := .code yX3_fine cX3_fine 2 (some .int) :: ([.fieldLink RX3 70 "HarvestLenderModel" "refusal" "I"] ++ wsX30)
def wsX3_in : List Cond := .code yX3_in cX3_in 3 (some .boolean) :: ([])
def wsX3_isCrop : List Cond := .code yX3_isCrop cX3_isCrop 1 (some .boolean) :: ([.methodLink RX3 74 yX3_in, .static yX3_in, .initialized RX3, .code yX3_in cX3_in 3 (some .boolean)])
def wsX3_isFarmer : List Cond := .code yX3_isFarmer cX3_isFarmer 2 (some .boolean) :: ([.fieldLink RX3 78 "HarvestLenderModel" "farmers" "I", .methodLink RX3 74 yX3_in, .static yX3_in, .initialized RX3, .code yX3_in cX3_in 3 (some .boolean)] ++ wsX30)
def wsX3_setNeed : List Cond := .code yX3_setNeed cX3_setNeed 6 (some .int) :: ([.constant RX3 85 (100000), .fieldLink RX3 7 "HarvestLenderModel" "needs" "[I", .methodLink RX3 81 yX3_isCrop, .static yX3_isCrop, .initialized RX3, .code yX3_isCrop cX3_isCrop 1 (some .boolean), .methodLink RX3 74 yX3_in, .static yX3_in, .code yX3_in cX3_in 3 (some .boolean), .methodLink RX3 86 yX3_refused, .instanceMethod yX3_refused, .selects RX3 yX3_refused yX3_refused, .code yX3_refused cX3_refused 2 (some .boolean), .fieldLink RX3 70 "HarvestLenderModel" "refusal" "I"] ++ wsX30)
def wsX3_setCrop : List Cond := .code yX3_setCrop cX3_setCrop 5 (some .int) :: ([.fieldLink RX3 13 "HarvestLenderModel" "prices" "[I", .fieldLink RX3 16 "HarvestLenderModel" "normals" "[I", .methodLink RX3 81 yX3_isCrop, .static yX3_isCrop, .initialized RX3, .code yX3_isCrop cX3_isCrop 1 (some .boolean), .methodLink RX3 74 yX3_in, .static yX3_in, .code yX3_in cX3_in 3 (some .boolean), .methodLink RX3 86 yX3_refused, .instanceMethod yX3_refused, .selects RX3 yX3_refused yX3_refused, .code yX3_refused cX3_refused 2 (some .boolean), .fieldLink RX3 70 "HarvestLenderModel" "refusal" "I"] ++ wsX30)
def wsX3_clear : List Cond := .code yX3_clear cX3_clear 2 none :: ([.fieldLink RX3 46 "HarvestLenderModel" "crops" "[I", .fieldLink RX3 49 "HarvestLenderModel" "hectares" "[I", .fieldLink RX3 52 "HarvestLenderModel" "drawn" "[I", .fieldLink RX3 55 "HarvestLenderModel" "covers" "[I", .fieldLink RX3 58 "HarvestLenderModel" "yields" "[I"] ++ wsX30)
def wsX3_add : List Cond := .code yX3_add cX3_add 2 (some .int) :: ([.fieldLink RX3 78 "HarvestLenderModel" "farmers" "I", .fieldLink RX3 19 "HarvestLenderModel" "groups" "[I", .methodLink RX3 74 yX3_in, .static yX3_in, .initialized RX3, .code yX3_in cX3_in 3 (some .boolean), .methodLink RX3 86 yX3_refused, .instanceMethod yX3_refused, .selects RX3 yX3_refused yX3_refused, .code yX3_refused cX3_refused 2 (some .boolean), .fieldLink RX3 70 "HarvestLenderModel" "refusal" "I", .methodLink RX3 89 yX3_clear, .instanceMethod yX3_clear, .selects RX3 yX3_clear yX3_clear, .code yX3_clear cX3_clear 2 none, .fieldLink RX3 46 "HarvestLenderModel" "crops" "[I", .fieldLink RX3 49 "HarvestLenderModel" "hectares" "[I", .fieldLink RX3 52 "HarvestLenderModel" "drawn" "[I", .fieldLink RX3 55 "HarvestLenderModel" "covers" "[I", .fieldLink RX3 58 "HarvestLenderModel" "yields" "[I"] ++ wsX30)
def wsX3_farmers : List Cond := .code yX3_farmers cX3_farmers 1 (some .int) :: ([.fieldLink RX3 78 "HarvestLenderModel" "farmers" "I", .methodLink RX3 93 yX3_fine, .instanceMethod yX3_fine, .selects RX3 yX3_fine yX3_fine, .initialized RX3, .code yX3_fine cX3_fine 2 (some .int), .fieldLink RX3 70 "HarvestLenderModel" "refusal" "I"] ++ wsX30)
def wsX3_lower : List Cond := .code yX3_lower cX3_lower 4 none :: ([.fieldLink RX3 25 "HarvestLenderModel" "debts" "[I", .fieldLink RX3 64 "HarvestLenderModel" "repaidOf" "[I"] ++ wsX30)
def wsX3_come : List Cond := .code yX3_come cX3_come 5 none :: ([.fieldLink RX3 25 "HarvestLenderModel" "debts" "[I", .fieldLink RX3 22 "HarvestLenderModel" "purses" "[I", .methodLink RX3 97 yX3_lower, .instanceMethod yX3_lower, .selects RX3 yX3_lower yX3_lower, .initialized RX3, .code yX3_lower cX3_lower 4 none, .fieldLink RX3 64 "HarvestLenderModel" "repaidOf" "[I"] ++ wsX30)
def wsX3_charge : List Cond := .code yX3_charge cX3_charge 3 none :: ([.fieldLink RX3 25 "HarvestLenderModel" "debts" "[I", .fieldLink RX3 67 "HarvestLenderModel" "charges" "[I"] ++ wsX30)
def wsX3_limitOf : List Cond := .code yX3_limitOf cX3_limitOf 4 (some .int) :: ([.fieldLink RX3 101 "HarvestLenderModel" "stage" "I", .fieldLink RX3 46 "HarvestLenderModel" "crops" "[I", .fieldLink RX3 7 "HarvestLenderModel" "needs" "[I", .fieldLink RX3 49 "HarvestLenderModel" "hectares" "[I"] ++ wsX30)
def wsX3_plant_r1 : List Cond := [Cond.fieldLink RX3 101 "HarvestLenderModel" "stage" "I", Cond.fieldLink RX3 46 "HarvestLenderModel" "crops" "[I", Cond.fieldLink RX3 31 "HarvestLenderModel" "grains" "[I", Cond.fieldLink RX3 28 "HarvestLenderModel" "grainCrops" "[I", Cond.fieldLink RX3 49 "HarvestLenderModel" "hectares" "[I", Cond.methodLink RX3 104 yX3_isFarmer, Cond.instanceMethod yX3_isFarmer, Cond.selects RX3 yX3_isFarmer yX3_isFarmer, Cond.initialized RX3, Cond.code yX3_isFarmer cX3_isFarmer 2 (some .boolean), Cond.fieldLink RX3 78 "HarvestLenderModel" "farmers" "I", Cond.methodLink RX3 74 yX3_in, Cond.static yX3_in, Cond.code yX3_in cX3_in 3 (some .boolean), Cond.methodLink RX3 81 yX3_isCrop, Cond.static yX3_isCrop, Cond.code yX3_isCrop cX3_isCrop 1 (some .boolean), Cond.methodLink RX3 86 yX3_refused, Cond.instanceMethod yX3_refused, Cond.selects RX3 yX3_refused yX3_refused, Cond.code yX3_refused cX3_refused 2 (some .boolean), Cond.fieldLink RX3 70 "HarvestLenderModel" "refusal" "I", Cond.methodLink RX3 107 yX3_limitOf, Cond.instanceMethod yX3_limitOf]
def wsX3_plant_r2 : List Cond := [Cond.selects RX3 yX3_limitOf yX3_limitOf, Cond.code yX3_limitOf cX3_limitOf 4 (some .int), Cond.fieldLink RX3 7 "HarvestLenderModel" "needs" "[I"]
def wsX3_plant : List Cond := .code yX3_plant cX3_plant 6 (some .int) :: ((wsX3_plant_r1 ++ wsX3_plant_r2) ++ wsX30)
def wsX3_cover : List Cond := .code yX3_cover cX3_cover 5 (some .int) :: ([.fieldLink RX3 101 "HarvestLenderModel" "stage" "I", .fieldLink RX3 46 "HarvestLenderModel" "crops" "[I", .fieldLink RX3 55 "HarvestLenderModel" "covers" "[I", .methodLink RX3 104 yX3_isFarmer, .instanceMethod yX3_isFarmer, .selects RX3 yX3_isFarmer yX3_isFarmer, .initialized RX3, .code yX3_isFarmer cX3_isFarmer 2 (some .boolean), .fieldLink RX3 78 "HarvestLenderModel" "farmers" "I", .methodLink RX3 74 yX3_in, .static yX3_in, .code yX3_in cX3_in 3 (some .boolean), .methodLink RX3 86 yX3_refused, .instanceMethod yX3_refused, .selects RX3 yX3_refused yX3_refused, .code yX3_refused cX3_refused 2 (some .boolean), .fieldLink RX3 70 "HarvestLenderModel" "refusal" "I"] ++ wsX30)
def wsX3_draw_r1 : List Cond := [Cond.constant RX3 110 (100000000), Cond.fieldLink RX3 101 "HarvestLenderModel" "stage" "I", Cond.fieldLink RX3 52 "HarvestLenderModel" "drawn" "[I", Cond.methodLink RX3 104 yX3_isFarmer, Cond.instanceMethod yX3_isFarmer, Cond.selects RX3 yX3_isFarmer yX3_isFarmer, Cond.initialized RX3, Cond.code yX3_isFarmer cX3_isFarmer 2 (some .boolean), Cond.fieldLink RX3 78 "HarvestLenderModel" "farmers" "I", Cond.methodLink RX3 74 yX3_in, Cond.static yX3_in, Cond.code yX3_in cX3_in 3 (some .boolean), Cond.methodLink RX3 107 yX3_limitOf, Cond.instanceMethod yX3_limitOf, Cond.selects RX3 yX3_limitOf yX3_limitOf, Cond.code yX3_limitOf cX3_limitOf 4 (some .int), Cond.fieldLink RX3 46 "HarvestLenderModel" "crops" "[I", Cond.fieldLink RX3 7 "HarvestLenderModel" "needs" "[I", Cond.fieldLink RX3 49 "HarvestLenderModel" "hectares" "[I", Cond.methodLink RX3 86 yX3_refused, Cond.instanceMethod yX3_refused, Cond.selects RX3 yX3_refused yX3_refused, Cond.code yX3_refused cX3_refused 2 (some .boolean), Cond.fieldLink RX3 70 "HarvestLenderModel" "refusal" "I"]
def wsX3_draw_r2 : List Cond := [Cond.methodLink RX3 111 yX3_charge, Cond.instanceMethod yX3_charge, Cond.selects RX3 yX3_charge yX3_charge, Cond.code yX3_charge cX3_charge 3 none, Cond.fieldLink RX3 25 "HarvestLenderModel" "debts" "[I", Cond.fieldLink RX3 67 "HarvestLenderModel" "charges" "[I"]
def wsX3_draw : List Cond := .code yX3_draw cX3_draw 5 (some .int) :: ((wsX3_draw_r1 ++ wsX3_draw_r2) ++ wsX30)
def wsX3_setYield : List Cond := .code yX3_setYield cX3_setYield 4 (some .int) :: ([.fieldLink RX3 101 "HarvestLenderModel" "stage" "I", .fieldLink RX3 58 "HarvestLenderModel" "yields" "[I", .methodLink RX3 104 yX3_isFarmer, .instanceMethod yX3_isFarmer, .selects RX3 yX3_isFarmer yX3_isFarmer, .initialized RX3, .code yX3_isFarmer cX3_isFarmer 2 (some .boolean), .fieldLink RX3 78 "HarvestLenderModel" "farmers" "I", .methodLink RX3 74 yX3_in, .static yX3_in, .code yX3_in cX3_in 3 (some .boolean), .methodLink RX3 86 yX3_refused, .instanceMethod yX3_refused, .selects RX3 yX3_refused yX3_refused, .code yX3_refused cX3_refused 2 (some .boolean), .fieldLink RX3 70 "HarvestLenderModel" "refusal" "I"] ++ wsX30)
def wsX3_harvest : List Cond := .code yX3_harvest cX3_harvest 4 none :: ([.fieldLink RX3 46 "HarvestLenderModel" "crops" "[I", .fieldLink RX3 49 "HarvestLenderModel" "hectares" "[I", .fieldLink RX3 16 "HarvestLenderModel" "normals" "[I", .fieldLink RX3 31 "HarvestLenderModel" "grains" "[I", .fieldLink RX3 58 "HarvestLenderModel" "yields" "[I", .fieldLink RX3 28 "HarvestLenderModel" "grainCrops" "[I", .fieldLink RX3 55 "HarvestLenderModel" "covers" "[I", .fieldLink RX3 13 "HarvestLenderModel" "prices" "[I", .constantLong RX3 115 (100), .methodLink RX3 117 yX3_come, .instanceMethod yX3_come, .selects RX3 yX3_come yX3_come, .initialized RX3, .code yX3_come cX3_come 5 none, .fieldLink RX3 25 "HarvestLenderModel" "debts" "[I", .fieldLink RX3 22 "HarvestLenderModel" "purses" "[I", .methodLink RX3 97 yX3_lower, .instanceMethod yX3_lower, .selects RX3 yX3_lower yX3_lower, .code yX3_lower cX3_lower 4 none, .fieldLink RX3 64 "HarvestLenderModel" "repaidOf" "[I"] ++ wsX30)
def wsX3_next_r1 : List Cond := [Cond.fieldLink RX3 101 "HarvestLenderModel" "stage" "I", Cond.fieldLink RX3 78 "HarvestLenderModel" "farmers" "I", Cond.fieldLink RX3 25 "HarvestLenderModel" "debts" "[I", Cond.constantLong RX3 120 (2), Cond.constantLong RX3 115 (100), Cond.fieldLink RX3 46 "HarvestLenderModel" "crops" "[I", Cond.methodLink RX3 86 yX3_refused, Cond.instanceMethod yX3_refused, Cond.selects RX3 yX3_refused yX3_refused, Cond.initialized RX3, Cond.code yX3_refused cX3_refused 2 (some .boolean), Cond.fieldLink RX3 70 "HarvestLenderModel" "refusal" "I", Cond.methodLink RX3 111 yX3_charge, Cond.instanceMethod yX3_charge, Cond.selects RX3 yX3_charge yX3_charge, Cond.code yX3_charge cX3_charge 3 none, Cond.fieldLink RX3 67 "HarvestLenderModel" "charges" "[I", Cond.methodLink RX3 122 yX3_harvest, Cond.instanceMethod yX3_harvest, Cond.selects RX3 yX3_harvest yX3_harvest, Cond.code yX3_harvest cX3_harvest 4 none, Cond.fieldLink RX3 49 "HarvestLenderModel" "hectares" "[I", Cond.fieldLink RX3 16 "HarvestLenderModel" "normals" "[I", Cond.fieldLink RX3 31 "HarvestLenderModel" "grains" "[I"]
def wsX3_next_r2 : List Cond := [Cond.fieldLink RX3 58 "HarvestLenderModel" "yields" "[I", Cond.fieldLink RX3 28 "HarvestLenderModel" "grainCrops" "[I", Cond.fieldLink RX3 55 "HarvestLenderModel" "covers" "[I", Cond.fieldLink RX3 13 "HarvestLenderModel" "prices" "[I", Cond.methodLink RX3 117 yX3_come, Cond.instanceMethod yX3_come, Cond.selects RX3 yX3_come yX3_come, Cond.code yX3_come cX3_come 5 none, Cond.fieldLink RX3 22 "HarvestLenderModel" "purses" "[I", Cond.methodLink RX3 97 yX3_lower, Cond.instanceMethod yX3_lower, Cond.selects RX3 yX3_lower yX3_lower, Cond.code yX3_lower cX3_lower 4 none, Cond.fieldLink RX3 64 "HarvestLenderModel" "repaidOf" "[I"]
def wsX3_next : List Cond := .code yX3_next cX3_next 2 (some .int) :: ((wsX3_next_r1 ++ wsX3_next_r2) ++ wsX30)
def wsX3_pledge_r1 : List Cond := [Cond.constant RX3 125 (1000000), Cond.fieldLink RX3 31 "HarvestLenderModel" "grains" "[I", Cond.fieldLink RX3 34 "HarvestLenderModel" "pledged" "[I", Cond.fieldLink RX3 13 "HarvestLenderModel" "prices" "[I", Cond.fieldLink RX3 28 "HarvestLenderModel" "grainCrops" "[I", Cond.constantLong RX3 126 (60), Cond.constantLong RX3 115 (100), Cond.fieldLink RX3 37 "HarvestLenderModel" "pledgeDebts" "[I", Cond.methodLink RX3 104 yX3_isFarmer, Cond.instanceMethod yX3_isFarmer, Cond.selects RX3 yX3_isFarmer yX3_isFarmer, Cond.initialized RX3, Cond.code yX3_isFarmer cX3_isFarmer 2 (some .boolean), Cond.fieldLink RX3 78 "HarvestLenderModel" "farmers" "I", Cond.methodLink RX3 74 yX3_in, Cond.static yX3_in, Cond.code yX3_in cX3_in 3 (some .boolean), Cond.methodLink RX3 86 yX3_refused, Cond.instanceMethod yX3_refused, Cond.selects RX3 yX3_refused yX3_refused, Cond.code yX3_refused cX3_refused 2 (some .boolean), Cond.fieldLink RX3 70 "HarvestLenderModel" "refusal" "I", Cond.methodLink RX3 117 yX3_come, Cond.instanceMethod yX3_come]
def wsX3_pledge_r2 : List Cond := [Cond.selects RX3 yX3_come yX3_come, Cond.code yX3_come cX3_come 5 none, Cond.fieldLink RX3 25 "HarvestLenderModel" "debts" "[I", Cond.fieldLink RX3 22 "HarvestLenderModel" "purses" "[I", Cond.methodLink RX3 97 yX3_lower, Cond.instanceMethod yX3_lower, Cond.selects RX3 yX3_lower yX3_lower, Cond.code yX3_lower cX3_lower 4 none, Cond.fieldLink RX3 64 "HarvestLenderModel" "repaidOf" "[I"]
def wsX3_pledge : List Cond := .code yX3_pledge cX3_pledge 6 (some .int) :: ((wsX3_pledge_r1 ++ wsX3_pledge_r2) ++ wsX30)
def wsX3_sell_r1 : List Cond := [Cond.constant RX3 125 (1000000), Cond.fieldLink RX3 31 "HarvestLenderModel" "grains" "[I", Cond.fieldLink RX3 13 "HarvestLenderModel" "prices" "[I", Cond.fieldLink RX3 28 "HarvestLenderModel" "grainCrops" "[I", Cond.fieldLink RX3 34 "HarvestLenderModel" "pledged" "[I", Cond.fieldLink RX3 37 "HarvestLenderModel" "pledgeDebts" "[I", Cond.methodLink RX3 104 yX3_isFarmer, Cond.instanceMethod yX3_isFarmer, Cond.selects RX3 yX3_isFarmer yX3_isFarmer, Cond.initialized RX3, Cond.code yX3_isFarmer cX3_isFarmer 2 (some .boolean), Cond.fieldLink RX3 78 "HarvestLenderModel" "farmers" "I", Cond.methodLink RX3 74 yX3_in, Cond.static yX3_in, Cond.code yX3_in cX3_in 3 (some .boolean), Cond.methodLink RX3 86 yX3_refused, Cond.instanceMethod yX3_refused, Cond.selects RX3 yX3_refused yX3_refused, Cond.code yX3_refused cX3_refused 2 (some .boolean), Cond.fieldLink RX3 70 "HarvestLenderModel" "refusal" "I", Cond.methodLink RX3 117 yX3_come, Cond.instanceMethod yX3_come, Cond.selects RX3 yX3_come yX3_come, Cond.code yX3_come cX3_come 5 none]
def wsX3_sell_r2 : List Cond := [Cond.fieldLink RX3 25 "HarvestLenderModel" "debts" "[I", Cond.fieldLink RX3 22 "HarvestLenderModel" "purses" "[I", Cond.methodLink RX3 97 yX3_lower, Cond.instanceMethod yX3_lower, Cond.selects RX3 yX3_lower yX3_lower, Cond.code yX3_lower cX3_lower 4 none, Cond.fieldLink RX3 64 "HarvestLenderModel" "repaidOf" "[I", Cond.methodLink RX3 111 yX3_charge, Cond.instanceMethod yX3_charge, Cond.selects RX3 yX3_charge yX3_charge, Cond.code yX3_charge cX3_charge 3 none, Cond.fieldLink RX3 67 "HarvestLenderModel" "charges" "[I"]
def wsX3_sell : List Cond := .code yX3_sell cX3_sell 9 (some .int) :: ((wsX3_sell_r1 ++ wsX3_sell_r2) ++ wsX30)
def wsX3_repay : List Cond := .code yX3_repay cX3_repay 5 (some .int) :: ([.constant RX3 110 (100000000), .fieldLink RX3 25 "HarvestLenderModel" "debts" "[I", .fieldLink RX3 22 "HarvestLenderModel" "purses" "[I", .methodLink RX3 104 yX3_isFarmer, .instanceMethod yX3_isFarmer, .selects RX3 yX3_isFarmer yX3_isFarmer, .initialized RX3, .code yX3_isFarmer cX3_isFarmer 2 (some .boolean), .fieldLink RX3 78 "HarvestLenderModel" "farmers" "I", .methodLink RX3 74 yX3_in, .static yX3_in, .code yX3_in cX3_in 3 (some .boolean), .methodLink RX3 86 yX3_refused, .instanceMethod yX3_refused, .selects RX3 yX3_refused yX3_refused, .code yX3_refused cX3_refused 2 (some .boolean), .fieldLink RX3 70 "HarvestLenderModel" "refusal" "I", .methodLink RX3 97 yX3_lower, .instanceMethod yX3_lower, .selects RX3 yX3_lower yX3_lower, .code yX3_lower cX3_lower 4 none, .fieldLink RX3 64 "HarvestLenderModel" "repaidOf" "[I"] ++ wsX30)
def wsX3_settle : List Cond := .code yX3_settle cX3_settle 3 none :: ([.fieldLink RX3 40 "HarvestLenderModel" "rows" "[I", .fieldLink RX3 25 "HarvestLenderModel" "debts" "[I", .fieldLink RX3 43 "HarvestLenderModel" "parts" "[I", .fieldLink RX3 22 "HarvestLenderModel" "purses" "[I", .methodLink RX3 97 yX3_lower, .instanceMethod yX3_lower, .selects RX3 yX3_lower yX3_lower, .initialized RX3, .code yX3_lower cX3_lower 4 none, .fieldLink RX3 64 "HarvestLenderModel" "repaidOf" "[I"] ++ wsX30)
def wsX3_roll : List Cond := .code yX3_roll cX3_roll 3 none :: ([.fieldLink RX3 25 "HarvestLenderModel" "debts" "[I", .fieldLink RX3 43 "HarvestLenderModel" "parts" "[I", .fieldLink RX3 40 "HarvestLenderModel" "rows" "[I"] ++ wsX30)
def wsX3_call : List Cond := .code yX3_call cX3_call 5 none :: ([.fieldLink RX3 78 "HarvestLenderModel" "farmers" "I", .fieldLink RX3 19 "HarvestLenderModel" "groups" "[I", .fieldLink RX3 61 "HarvestLenderModel" "calls" "[I", .fieldLink RX3 22 "HarvestLenderModel" "purses" "[I", .fieldLink RX3 25 "HarvestLenderModel" "debts" "[I", .methodLink RX3 97 yX3_lower, .instanceMethod yX3_lower, .selects RX3 yX3_lower yX3_lower, .initialized RX3, .code yX3_lower cX3_lower 4 none, .fieldLink RX3 64 "HarvestLenderModel" "repaidOf" "[I"] ++ wsX30)
def wsX3_close_r1 : List Cond := [Cond.fieldLink RX3 101 "HarvestLenderModel" "stage" "I", Cond.fieldLink RX3 128 "HarvestLenderModel" "season" "I", Cond.fieldLink RX3 78 "HarvestLenderModel" "farmers" "I", Cond.fieldLink RX3 61 "HarvestLenderModel" "calls" "[I", Cond.fieldLink RX3 46 "HarvestLenderModel" "crops" "[I", Cond.fieldLink RX3 58 "HarvestLenderModel" "yields" "[I", Cond.fieldLink RX3 40 "HarvestLenderModel" "rows" "[I", Cond.fieldLink RX3 25 "HarvestLenderModel" "debts" "[I", Cond.methodLink RX3 86 yX3_refused, Cond.instanceMethod yX3_refused, Cond.selects RX3 yX3_refused yX3_refused, Cond.initialized RX3, Cond.code yX3_refused cX3_refused 2 (some .boolean), Cond.fieldLink RX3 70 "HarvestLenderModel" "refusal" "I", Cond.methodLink RX3 131 yX3_settle, Cond.instanceMethod yX3_settle, Cond.selects RX3 yX3_settle yX3_settle, Cond.code yX3_settle cX3_settle 3 none, Cond.fieldLink RX3 43 "HarvestLenderModel" "parts" "[I", Cond.fieldLink RX3 22 "HarvestLenderModel" "purses" "[I", Cond.methodLink RX3 97 yX3_lower, Cond.instanceMethod yX3_lower, Cond.selects RX3 yX3_lower yX3_lower, Cond.code yX3_lower cX3_lower 4 none]
def wsX3_close_r2 : List Cond := [Cond.fieldLink RX3 64 "HarvestLenderModel" "repaidOf" "[I", Cond.methodLink RX3 134 yX3_roll, Cond.instanceMethod yX3_roll, Cond.selects RX3 yX3_roll yX3_roll, Cond.code yX3_roll cX3_roll 3 none, Cond.methodLink RX3 137 yX3_call, Cond.instanceMethod yX3_call, Cond.selects RX3 yX3_call yX3_call, Cond.code yX3_call cX3_call 5 none, Cond.fieldLink RX3 19 "HarvestLenderModel" "groups" "[I", Cond.methodLink RX3 89 yX3_clear, Cond.instanceMethod yX3_clear, Cond.selects RX3 yX3_clear yX3_clear, Cond.code yX3_clear cX3_clear 2 none, Cond.fieldLink RX3 49 "HarvestLenderModel" "hectares" "[I", Cond.fieldLink RX3 52 "HarvestLenderModel" "drawn" "[I", Cond.fieldLink RX3 55 "HarvestLenderModel" "covers" "[I"]
def wsX3_close : List Cond := .code yX3_close cX3_close 3 (some .int) :: ((wsX3_close_r1 ++ wsX3_close_r2) ++ wsX30)
def wsX3_season : List Cond := .code yX3_season cX3_season 1 (some .int) :: ([.fieldLink RX3 128 "HarvestLenderModel" "season" "I", .methodLink RX3 93 yX3_fine, .instanceMethod yX3_fine, .selects RX3 yX3_fine yX3_fine, .initialized RX3, .code yX3_fine cX3_fine 2 (some .int), .fieldLink RX3 70 "HarvestLenderModel" "refusal" "I"] ++ wsX30)
def wsX3_stage : List Cond := .code yX3_stage cX3_stage 1 (some .int) :: ([.fieldLink RX3 101 "HarvestLenderModel" "stage" "I", .methodLink RX3 93 yX3_fine, .instanceMethod yX3_fine, .selects RX3 yX3_fine yX3_fine, .initialized RX3, .code yX3_fine cX3_fine 2 (some .int), .fieldLink RX3 70 "HarvestLenderModel" "refusal" "I"] ++ wsX30)
def wsX3_noFarmer : List Cond := .code yX3_noFarmer cX3_noFarmer 2 (some .boolean) :: ([.methodLink RX3 104 yX3_isFarmer, .instanceMethod yX3_isFarmer, .selects RX3 yX3_isFarmer yX3_isFarmer, .initialized RX3, .code yX3_isFarmer cX3_isFarmer 2 (some .boolean), .fieldLink RX3 78 "HarvestLenderModel" "farmers" "I", .methodLink RX3 74 yX3_in, .static yX3_in, .code yX3_in cX3_in 3 (some .boolean), .methodLink RX3 86 yX3_refused, .instanceMethod yX3_refused, .selects RX3 yX3_refused yX3_refused, .code yX3_refused cX3_refused 2 (some .boolean), .fieldLink RX3 70 "HarvestLenderModel" "refusal" "I"] ++ wsX30)
def wsX3_limit_r1 : List Cond := [Cond.methodLink RX3 140 yX3_noFarmer, Cond.instanceMethod yX3_noFarmer, Cond.selects RX3 yX3_noFarmer yX3_noFarmer, Cond.initialized RX3, Cond.code yX3_noFarmer cX3_noFarmer 2 (some .boolean), Cond.methodLink RX3 104 yX3_isFarmer, Cond.instanceMethod yX3_isFarmer, Cond.selects RX3 yX3_isFarmer yX3_isFarmer, Cond.code yX3_isFarmer cX3_isFarmer 2 (some .boolean), Cond.fieldLink RX3 78 "HarvestLenderModel" "farmers" "I", Cond.methodLink RX3 74 yX3_in, Cond.static yX3_in, Cond.code yX3_in cX3_in 3 (some .boolean), Cond.methodLink RX3 86 yX3_refused, Cond.instanceMethod yX3_refused, Cond.selects RX3 yX3_refused yX3_refused, Cond.code yX3_refused cX3_refused 2 (some .boolean), Cond.fieldLink RX3 70 "HarvestLenderModel" "refusal" "I", Cond.methodLink RX3 107 yX3_limitOf, Cond.instanceMethod yX3_limitOf, Cond.selects RX3 yX3_limitOf yX3_limitOf, Cond.code yX3_limitOf cX3_limitOf 4 (some .int), Cond.fieldLink RX3 101 "HarvestLenderModel" "stage" "I", Cond.fieldLink RX3 46 "HarvestLenderModel" "crops" "[I"]
def wsX3_limit_r2 : List Cond := [Cond.fieldLink RX3 7 "HarvestLenderModel" "needs" "[I", Cond.fieldLink RX3 49 "HarvestLenderModel" "hectares" "[I"]
def wsX3_limit : List Cond := .code yX3_limit cX3_limit 2 (some .int) :: ((wsX3_limit_r1 ++ wsX3_limit_r2) ++ wsX30)
def wsX3_debt : List Cond := .code yX3_debt cX3_debt 2 (some .int) :: ([.fieldLink RX3 25 "HarvestLenderModel" "debts" "[I", .methodLink RX3 140 yX3_noFarmer, .instanceMethod yX3_noFarmer, .selects RX3 yX3_noFarmer yX3_noFarmer, .initialized RX3, .code yX3_noFarmer cX3_noFarmer 2 (some .boolean), .methodLink RX3 104 yX3_isFarmer, .instanceMethod yX3_isFarmer, .selects RX3 yX3_isFarmer yX3_isFarmer, .code yX3_isFarmer cX3_isFarmer 2 (some .boolean), .fieldLink RX3 78 "HarvestLenderModel" "farmers" "I", .methodLink RX3 74 yX3_in, .static yX3_in, .code yX3_in cX3_in 3 (some .boolean), .methodLink RX3 86 yX3_refused, .instanceMethod yX3_refused, .selects RX3 yX3_refused yX3_refused, .code yX3_refused cX3_refused 2 (some .boolean), .fieldLink RX3 70 "HarvestLenderModel" "refusal" "I"] ++ wsX30)
def wsX3_owes : List Cond := .code yX3_owes cX3_owes 4 (some .int) :: ([.fieldLink RX3 25 "HarvestLenderModel" "debts" "[I", .fieldLink RX3 37 "HarvestLenderModel" "pledgeDebts" "[I", .fieldLink RX3 40 "HarvestLenderModel" "rows" "[I", .fieldLink RX3 43 "HarvestLenderModel" "parts" "[I", .methodLink RX3 140 yX3_noFarmer, .instanceMethod yX3_noFarmer, .selects RX3 yX3_noFarmer yX3_noFarmer, .initialized RX3, .code yX3_noFarmer cX3_noFarmer 2 (some .boolean), .methodLink RX3 104 yX3_isFarmer, .instanceMethod yX3_isFarmer, .selects RX3 yX3_isFarmer yX3_isFarmer, .code yX3_isFarmer cX3_isFarmer 2 (some .boolean), .fieldLink RX3 78 "HarvestLenderModel" "farmers" "I", .methodLink RX3 74 yX3_in, .static yX3_in, .code yX3_in cX3_in 3 (some .boolean), .methodLink RX3 86 yX3_refused, .instanceMethod yX3_refused, .selects RX3 yX3_refused yX3_refused, .code yX3_refused cX3_refused 2 (some .boolean), .fieldLink RX3 70 "HarvestLenderModel" "refusal" "I"] ++ wsX30)
def wsX3_instalments : List Cond := .code yX3_instalments cX3_instalments 2 (some .int) :: ([.fieldLink RX3 40 "HarvestLenderModel" "rows" "[I", .methodLink RX3 140 yX3_noFarmer, .instanceMethod yX3_noFarmer, .selects RX3 yX3_noFarmer yX3_noFarmer, .initialized RX3, .code yX3_noFarmer cX3_noFarmer 2 (some .boolean), .methodLink RX3 104 yX3_isFarmer, .instanceMethod yX3_isFarmer, .selects RX3 yX3_isFarmer yX3_isFarmer, .code yX3_isFarmer cX3_isFarmer 2 (some .boolean), .fieldLink RX3 78 "HarvestLenderModel" "farmers" "I", .methodLink RX3 74 yX3_in, .static yX3_in, .code yX3_in cX3_in 3 (some .boolean), .methodLink RX3 86 yX3_refused, .instanceMethod yX3_refused, .selects RX3 yX3_refused yX3_refused, .code yX3_refused cX3_refused 2 (some .boolean), .fieldLink RX3 70 "HarvestLenderModel" "refusal" "I"] ++ wsX30)
def wsX3_purse : List Cond := .code yX3_purse cX3_purse 2 (some .int) :: ([.fieldLink RX3 22 "HarvestLenderModel" "purses" "[I", .methodLink RX3 140 yX3_noFarmer, .instanceMethod yX3_noFarmer, .selects RX3 yX3_noFarmer yX3_noFarmer, .initialized RX3, .code yX3_noFarmer cX3_noFarmer 2 (some .boolean), .methodLink RX3 104 yX3_isFarmer, .instanceMethod yX3_isFarmer, .selects RX3 yX3_isFarmer yX3_isFarmer, .code yX3_isFarmer cX3_isFarmer 2 (some .boolean), .fieldLink RX3 78 "HarvestLenderModel" "farmers" "I", .methodLink RX3 74 yX3_in, .static yX3_in, .code yX3_in cX3_in 3 (some .boolean), .methodLink RX3 86 yX3_refused, .instanceMethod yX3_refused, .selects RX3 yX3_refused yX3_refused, .code yX3_refused cX3_refused 2 (some .boolean), .fieldLink RX3 70 "HarvestLenderModel" "refusal" "I"] ++ wsX30)
def wsX3_grain : List Cond := .code yX3_grain cX3_grain 3 (some .int) :: ([.fieldLink RX3 34 "HarvestLenderModel" "pledged" "[I", .fieldLink RX3 31 "HarvestLenderModel" "grains" "[I", .methodLink RX3 140 yX3_noFarmer, .instanceMethod yX3_noFarmer, .selects RX3 yX3_noFarmer yX3_noFarmer, .initialized RX3, .code yX3_noFarmer cX3_noFarmer 2 (some .boolean), .methodLink RX3 104 yX3_isFarmer, .instanceMethod yX3_isFarmer, .selects RX3 yX3_isFarmer yX3_isFarmer, .code yX3_isFarmer cX3_isFarmer 2 (some .boolean), .fieldLink RX3 78 "HarvestLenderModel" "farmers" "I", .methodLink RX3 74 yX3_in, .static yX3_in, .code yX3_in cX3_in 3 (some .boolean), .methodLink RX3 86 yX3_refused, .instanceMethod yX3_refused, .selects RX3 yX3_refused yX3_refused, .code yX3_refused cX3_refused 2 (some .boolean), .fieldLink RX3 70 "HarvestLenderModel" "refusal" "I"] ++ wsX30)
def wsX3_called : List Cond := .code yX3_called cX3_called 2 (some .int) :: ([.fieldLink RX3 61 "HarvestLenderModel" "calls" "[I", .methodLink RX3 140 yX3_noFarmer, .instanceMethod yX3_noFarmer, .selects RX3 yX3_noFarmer yX3_noFarmer, .initialized RX3, .code yX3_noFarmer cX3_noFarmer 2 (some .boolean), .methodLink RX3 104 yX3_isFarmer, .instanceMethod yX3_isFarmer, .selects RX3 yX3_isFarmer yX3_isFarmer, .code yX3_isFarmer cX3_isFarmer 2 (some .boolean), .fieldLink RX3 78 "HarvestLenderModel" "farmers" "I", .methodLink RX3 74 yX3_in, .static yX3_in, .code yX3_in cX3_in 3 (some .boolean), .methodLink RX3 86 yX3_refused, .instanceMethod yX3_refused, .selects RX3 yX3_refused yX3_refused, .code yX3_refused cX3_refused 2 (some .boolean), .fieldLink RX3 70 "HarvestLenderModel" "refusal" "I"] ++ wsX30)
def wsX3_repaid : List Cond := .code yX3_repaid cX3_repaid 3 (some .int) :: ([.fieldLink RX3 64 "HarvestLenderModel" "repaidOf" "[I", .methodLink RX3 104 yX3_isFarmer, .instanceMethod yX3_isFarmer, .selects RX3 yX3_isFarmer yX3_isFarmer, .initialized RX3, .code yX3_isFarmer cX3_isFarmer 2 (some .boolean), .fieldLink RX3 78 "HarvestLenderModel" "farmers" "I", .methodLink RX3 74 yX3_in, .static yX3_in, .code yX3_in cX3_in 3 (some .boolean), .methodLink RX3 86 yX3_refused, .instanceMethod yX3_refused, .selects RX3 yX3_refused yX3_refused, .code yX3_refused cX3_refused 2 (some .boolean), .fieldLink RX3 70 "HarvestLenderModel" "refusal" "I"] ++ wsX30)
def wsX3_charged : List Cond := .code yX3_charged cX3_charged 2 (some .int) :: ([.fieldLink RX3 67 "HarvestLenderModel" "charges" "[I", .methodLink RX3 140 yX3_noFarmer, .instanceMethod yX3_noFarmer, .selects RX3 yX3_noFarmer yX3_noFarmer, .initialized RX3, .code yX3_noFarmer cX3_noFarmer 2 (some .boolean), .methodLink RX3 104 yX3_isFarmer, .instanceMethod yX3_isFarmer, .selects RX3 yX3_isFarmer yX3_isFarmer, .code yX3_isFarmer cX3_isFarmer 2 (some .boolean), .fieldLink RX3 78 "HarvestLenderModel" "farmers" "I", .methodLink RX3 74 yX3_in, .static yX3_in, .code yX3_in cX3_in 3 (some .boolean), .methodLink RX3 86 yX3_refused, .instanceMethod yX3_refused, .selects RX3 yX3_refused yX3_refused, .code yX3_refused cX3_refused 2 (some .boolean), .fieldLink RX3 70 "HarvestLenderModel" "refusal" "I"] ++ wsX30)
def wsJ9_min_7cf53 : List Cond := .code yJ9_min_7cf53 cJ9_min_7cf53 2 (some .int) :: ([])
def wsJ9_min_f86c9 : List Cond := .code yJ9_min_f86c9 cJ9_min_f86c9 4 (some .long) :: ([])
def wsL_setNeed : List Cond := .codeWith yL_setNeed cL_setNeed 6 (some .int) [(0, 12, 15, 13), (0, 12, 19, 15)] :: ([.classLink RL 13 "java/lang/IndexOutOfBoundsException", .classLink RL 15 "java/lang/IllegalArgumentException", .methodLink RL 7 yX2_setNeed, .instanceMethod yX2_setNeed, .selects RX2 yX2_setNeed yX2_setNeed, .initialized RX2, .code yX2_setNeed cX2_setNeed 6 (some .int), .classLink RX2 37 "java/lang/IndexOutOfBoundsException", .initialized "java/lang/IndexOutOfBoundsException", .constant RX2 44 (100000), .fieldLink RX2 49 "HarvestLender$Crop" "needs" "[I", .methodLink RX2 33 yX2_cropAt, .instanceMethod yX2_cropAt, .selects RX2 yX2_cropAt yX2_cropAt, .code yX2_cropAt cX2_cropAt 2 (some (.object "HarvestLender$Crop")), .fieldLink RX2 11 "HarvestLender" "crops" "[LHarvestLender$Crop;", .methodLink RX2 45 yX2_requireRange, .static yX2_requireRange, .code yX2_requireRange cX2_requireRange 3 none, .classLink RX2 175 "java/lang/IllegalArgumentException", .initialized "java/lang/IllegalArgumentException"] ++ wsX00 ++ wsX20 ++ (vx_atS RX2 41 "java/lang/IndexOutOfBoundsException" ["java/lang/RuntimeException", "java/lang/Exception"]).filter goodWord ++ (vx_atS RX2 179 "java/lang/IllegalArgumentException" ["java/lang/RuntimeException", "java/lang/Exception"]).filter goodWord)
def wsL_setCrop : List Cond := .codeWith yL_setCrop cL_setCrop 6 (some .int) [(0, 12, 15, 13), (0, 12, 19, 15)] :: ([.classLink RL 13 "java/lang/IndexOutOfBoundsException", .classLink RL 15 "java/lang/IllegalArgumentException", .methodLink RL 17 yX2_setCrop, .instanceMethod yX2_setCrop, .selects RX2 yX2_setCrop yX2_setCrop, .initialized RX2, .code yX2_setCrop cX2_setCrop 6 (some .int), .fieldLink RX2 53 "HarvestLender$Crop" "price" "I", .fieldLink RX2 56 "HarvestLender$Crop" "normal" "I", .methodLink RX2 33 yX2_cropAt, .instanceMethod yX2_cropAt, .selects RX2 yX2_cropAt yX2_cropAt, .code yX2_cropAt cX2_cropAt 2 (some (.object "HarvestLender$Crop")), .classLink RX2 37 "java/lang/IndexOutOfBoundsException", .initialized "java/lang/IndexOutOfBoundsException", .fieldLink RX2 11 "HarvestLender" "crops" "[LHarvestLender$Crop;", .methodLink RX2 45 yX2_requireRange, .static yX2_requireRange, .code yX2_requireRange cX2_requireRange 3 none, .classLink RX2 175 "java/lang/IllegalArgumentException", .initialized "java/lang/IllegalArgumentException"] ++ wsX00 ++ wsX20 ++ (vx_atS RX2 41 "java/lang/IndexOutOfBoundsException" ["java/lang/RuntimeException", "java/lang/Exception"]).filter goodWord ++ (vx_atS RX2 179 "java/lang/IllegalArgumentException" ["java/lang/RuntimeException", "java/lang/Exception"]).filter goodWord)
def wsL_add : List Cond := .codeWith yL_add cL_add 4 (some .int) [(0, 9, 12, 13), (0, 9, 15, 24)] :: ([.classLink RL 13 "java/lang/IndexOutOfBoundsException", .classLink RL 24 "java/lang/IllegalStateException", .methodLink RL 20 yX2_add, .instanceMethod yX2_add, .selects RX2 yX2_add yX2_add, .initialized RX2, .code yX2_add cX2_add 3 (some .int), .classLink RX2 37 "java/lang/IndexOutOfBoundsException", .initialized "java/lang/IndexOutOfBoundsException", .fieldLink RX2 21 "HarvestLender" "count" "I", .fieldLink RX2 17 "HarvestLender" "rows" "[LHarvestLender$Farmer;", .fieldLink RX2 65 "HarvestLender$Farmer" "group" "I", .methodLink RX2 61 yX2_requireState, .static yX2_requireState, .code yX2_requireState cX2_requireState 1 none, .classLink RX2 180 "java/lang/IllegalStateException", .initialized "java/lang/IllegalStateException"] ++ wsX20 ++ wsX10 ++ (vx_atS RX2 41 "java/lang/IndexOutOfBoundsException" ["java/lang/RuntimeException", "java/lang/Exception"]).filter goodWord ++ (vx_atS RX2 184 "java/lang/IllegalStateException" ["java/lang/RuntimeException", "java/lang/Exception"]).filter goodWord)
def wsL_plant_r1 : List Cond := [Cond.classLink RL 13 "java/lang/IndexOutOfBoundsException", Cond.classLink RL 15 "java/lang/IllegalArgumentException", Cond.classLink RL 24 "java/lang/IllegalStateException", Cond.methodLink RL 26 yX2_plant, Cond.instanceMethod yX2_plant, Cond.selects RX2 yX2_plant yX2_plant, Cond.initialized RX2, Cond.code yX2_plant cX2_plant 6 (some .int), Cond.fieldLink RX2 28 "HarvestLender" "stage" "I", Cond.fieldLink RX2 76 "HarvestLender$Farmer" "grain" "I", Cond.fieldLink RX2 79 "HarvestLender$Farmer" "grainCrop" "I", Cond.fieldLink RX2 82 "HarvestLender$Farmer" "plantedCrop" "I", Cond.fieldLink RX2 85 "HarvestLender$Farmer" "hectares" "I", Cond.methodLink RX2 68 yX2_farmerAt, Cond.instanceMethod yX2_farmerAt, Cond.selects RX2 yX2_farmerAt yX2_farmerAt, Cond.code yX2_farmerAt cX2_farmerAt 2 (some (.object "HarvestLender$Farmer")), Cond.classLink RX2 37 "java/lang/IndexOutOfBoundsException", Cond.initialized "java/lang/IndexOutOfBoundsException", Cond.fieldLink RX2 21 "HarvestLender" "count" "I", Cond.fieldLink RX2 17 "HarvestLender" "rows" "[LHarvestLender$Farmer;", Cond.methodLink RX2 33 yX2_cropAt, Cond.instanceMethod yX2_cropAt, Cond.selects RX2 yX2_cropAt yX2_cropAt]
def wsL_plant_r2 : List Cond := [Cond.code yX2_cropAt cX2_cropAt 2 (some (.object "HarvestLender$Crop")), Cond.fieldLink RX2 11 "HarvestLender" "crops" "[LHarvestLender$Crop;", Cond.methodLink RX2 45 yX2_requireRange, Cond.static yX2_requireRange, Cond.code yX2_requireRange cX2_requireRange 3 none, Cond.classLink RX2 175 "java/lang/IllegalArgumentException", Cond.initialized "java/lang/IllegalArgumentException", Cond.methodLink RX2 72 yX1_hasPlanted, Cond.instanceMethod yX1_hasPlanted, Cond.selects RX1 yX1_hasPlanted yX1_hasPlanted, Cond.initialized RX1, Cond.code yX1_hasPlanted cX1_hasPlanted 1 (some .boolean), Cond.fieldLink RX1 50 "HarvestLender$Farmer" "plantedCrop" "I", Cond.methodLink RX2 61 yX2_requireState, Cond.static yX2_requireState, Cond.code yX2_requireState cX2_requireState 1 none, Cond.classLink RX2 180 "java/lang/IllegalStateException", Cond.initialized "java/lang/IllegalStateException", Cond.methodLink RX2 88 yX0_needUpTo, Cond.instanceMethod yX0_needUpTo, Cond.selects RX0 yX0_needUpTo yX0_needUpTo, Cond.initialized RX0, Cond.code yX0_needUpTo cX0_needUpTo 4 (some .int), Cond.fieldLink RX0 9 "HarvestLender$Crop" "needs" "[I"]
def wsL_plant : List Cond := .codeWith yL_plant cL_plant 6 (some .int) [(0, 12, 15, 13), (0, 12, 19, 15), (0, 12, 23, 24)] :: ((wsL_plant_r1 ++ wsL_plant_r2) ++ wsX20 ++ wsX10 ++ wsX00 ++ (vx_atS RX2 41 "java/lang/IndexOutOfBoundsException" ["java/lang/RuntimeException", "java/lang/Exception"]).filter goodWord ++ (vx_atS RX2 179 "java/lang/IllegalArgumentException" ["java/lang/RuntimeException", "java/lang/Exception"]).filter goodWord ++ (vx_atS RX2 184 "java/lang/IllegalStateException" ["java/lang/RuntimeException", "java/lang/Exception"]).filter goodWord)
def wsL_cover_r1 : List Cond := [Cond.classLink RL 13 "java/lang/IndexOutOfBoundsException", Cond.classLink RL 15 "java/lang/IllegalArgumentException", Cond.classLink RL 24 "java/lang/IllegalStateException", Cond.methodLink RL 29 yX2_cover, Cond.instanceMethod yX2_cover, Cond.selects RX2 yX2_cover yX2_cover, Cond.initialized RX2, Cond.code yX2_cover cX2_cover 5 (some .int), Cond.fieldLink RX2 28 "HarvestLender" "stage" "I", Cond.fieldLink RX2 92 "HarvestLender$Farmer" "coverPercent" "I", Cond.methodLink RX2 68 yX2_farmerAt, Cond.instanceMethod yX2_farmerAt, Cond.selects RX2 yX2_farmerAt yX2_farmerAt, Cond.code yX2_farmerAt cX2_farmerAt 2 (some (.object "HarvestLender$Farmer")), Cond.classLink RX2 37 "java/lang/IndexOutOfBoundsException", Cond.initialized "java/lang/IndexOutOfBoundsException", Cond.fieldLink RX2 21 "HarvestLender" "count" "I", Cond.fieldLink RX2 17 "HarvestLender" "rows" "[LHarvestLender$Farmer;", Cond.methodLink RX2 45 yX2_requireRange, Cond.static yX2_requireRange, Cond.code yX2_requireRange cX2_requireRange 3 none, Cond.classLink RX2 175 "java/lang/IllegalArgumentException", Cond.initialized "java/lang/IllegalArgumentException", Cond.methodLink RX2 72 yX1_hasPlanted]
def wsL_cover_r2 : List Cond := [Cond.instanceMethod yX1_hasPlanted, Cond.selects RX1 yX1_hasPlanted yX1_hasPlanted, Cond.initialized RX1, Cond.code yX1_hasPlanted cX1_hasPlanted 1 (some .boolean), Cond.fieldLink RX1 50 "HarvestLender$Farmer" "plantedCrop" "I", Cond.methodLink RX2 61 yX2_requireState, Cond.static yX2_requireState, Cond.code yX2_requireState cX2_requireState 1 none, Cond.classLink RX2 180 "java/lang/IllegalStateException", Cond.initialized "java/lang/IllegalStateException"]
def wsL_cover : List Cond := .codeWith yL_cover cL_cover 5 (some .int) [(0, 10, 13, 13), (0, 10, 17, 15), (0, 10, 21, 24)] :: ((wsL_cover_r1 ++ wsL_cover_r2) ++ wsX20 ++ wsX10 ++ (vx_atS RX2 41 "java/lang/IndexOutOfBoundsException" ["java/lang/RuntimeException", "java/lang/Exception"]).filter goodWord ++ (vx_atS RX2 179 "java/lang/IllegalArgumentException" ["java/lang/RuntimeException", "java/lang/Exception"]).filter goodWord ++ (vx_atS RX2 184 "java/lang/IllegalStateException" ["java/lang/RuntimeException", "java/lang/Exception"]).filter goodWord)
def wsL_draw_r1 : List Cond := [Cond.classLink RL 13 "java/lang/IndexOutOfBoundsException", Cond.classLink RL 15 "java/lang/IllegalArgumentException", Cond.classLink RL 24 "java/lang/IllegalStateException", Cond.methodLink RL 33 yX2_draw, Cond.instanceMethod yX2_draw, Cond.selects RX2 yX2_draw yX2_draw, Cond.initialized RX2, Cond.code yX2_draw cX2_draw 5 (some .int), Cond.constant RX2 95 (100000000), Cond.fieldLink RX2 28 "HarvestLender" "stage" "I", Cond.fieldLink RX2 100 "HarvestLender$Farmer" "drawn" "I", Cond.methodLink RX2 68 yX2_farmerAt, Cond.instanceMethod yX2_farmerAt, Cond.selects RX2 yX2_farmerAt yX2_farmerAt, Cond.code yX2_farmerAt cX2_farmerAt 2 (some (.object "HarvestLender$Farmer")), Cond.classLink RX2 37 "java/lang/IndexOutOfBoundsException", Cond.initialized "java/lang/IndexOutOfBoundsException", Cond.fieldLink RX2 21 "HarvestLender" "count" "I", Cond.fieldLink RX2 17 "HarvestLender" "rows" "[LHarvestLender$Farmer;", Cond.methodLink RX2 45 yX2_requireRange, Cond.static yX2_requireRange, Cond.code yX2_requireRange cX2_requireRange 3 none, Cond.classLink RX2 175 "java/lang/IllegalArgumentException", Cond.initialized "java/lang/IllegalArgumentException"]
def wsL_draw_r2 : List Cond := [Cond.methodLink RX2 61 yX2_requireState, Cond.static yX2_requireState, Cond.code yX2_requireState cX2_requireState 1 none, Cond.classLink RX2 180 "java/lang/IllegalStateException", Cond.initialized "java/lang/IllegalStateException", Cond.methodLink RX2 96 yX2_limitOf, Cond.instanceMethod yX2_limitOf, Cond.selects RX2 yX2_limitOf yX2_limitOf, Cond.code yX2_limitOf cX2_limitOf 2 (some .int), Cond.fieldLink RX2 82 "HarvestLender$Farmer" "plantedCrop" "I", Cond.fieldLink RX2 85 "HarvestLender$Farmer" "hectares" "I", Cond.methodLink RX2 72 yX1_hasPlanted, Cond.instanceMethod yX1_hasPlanted, Cond.selects RX1 yX1_hasPlanted yX1_hasPlanted, Cond.initialized RX1, Cond.code yX1_hasPlanted cX1_hasPlanted 1 (some .boolean), Cond.fieldLink RX1 50 "HarvestLender$Farmer" "plantedCrop" "I", Cond.methodLink RX2 33 yX2_cropAt, Cond.instanceMethod yX2_cropAt, Cond.selects RX2 yX2_cropAt yX2_cropAt, Cond.code yX2_cropAt cX2_cropAt 2 (some (.object "HarvestLender$Crop")), Cond.fieldLink RX2 11 "HarvestLender" "crops" "[LHarvestLender$Crop;", Cond.methodLink RX2 88 yX0_needUpTo, Cond.instanceMethod yX0_needUpTo]
def wsL_draw_r3 : List Cond := [Cond.selects RX0 yX0_needUpTo yX0_needUpTo, Cond.initialized RX0, Cond.code yX0_needUpTo cX0_needUpTo 4 (some .int), Cond.fieldLink RX0 9 "HarvestLender$Crop" "needs" "[I", Cond.methodLink RX2 103 yX1_charge, Cond.instanceMethod yX1_charge, Cond.selects RX1 yX1_charge yX1_charge, Cond.code yX1_charge cX1_charge 3 none, Cond.fieldLink RX1 19 "HarvestLender$Farmer" "debt" "J", Cond.fieldLink RX1 25 "HarvestLender$Farmer" "charged" "J"]
def wsL_draw : List Cond := .codeWith yL_draw cL_draw 5 (some .int) [(0, 10, 13, 13), (0, 10, 17, 15), (0, 10, 21, 24)] :: ((wsL_draw_r1 ++ (wsL_draw_r2 ++ wsL_draw_r3)) ++ wsX20 ++ wsX10 ++ wsX00 ++ (vx_atS RX2 41 "java/lang/IndexOutOfBoundsException" ["java/lang/RuntimeException", "java/lang/Exception"]).filter goodWord ++ (vx_atS RX2 179 "java/lang/IllegalArgumentException" ["java/lang/RuntimeException", "java/lang/Exception"]).filter goodWord ++ (vx_atS RX2 184 "java/lang/IllegalStateException" ["java/lang/RuntimeException", "java/lang/Exception"]).filter goodWord)
def wsL_setYield_r1 : List Cond := [Cond.classLink RL 13 "java/lang/IndexOutOfBoundsException", Cond.classLink RL 15 "java/lang/IllegalArgumentException", Cond.classLink RL 24 "java/lang/IllegalStateException", Cond.methodLink RL 36 yX2_setYield, Cond.instanceMethod yX2_setYield, Cond.selects RX2 yX2_setYield yX2_setYield, Cond.initialized RX2, Cond.code yX2_setYield cX2_setYield 5 (some .int), Cond.fieldLink RX2 28 "HarvestLender" "stage" "I", Cond.fieldLink RX2 107 "HarvestLender$Farmer" "yieldPercent" "I", Cond.methodLink RX2 68 yX2_farmerAt, Cond.instanceMethod yX2_farmerAt, Cond.selects RX2 yX2_farmerAt yX2_farmerAt, Cond.code yX2_farmerAt cX2_farmerAt 2 (some (.object "HarvestLender$Farmer")), Cond.classLink RX2 37 "java/lang/IndexOutOfBoundsException", Cond.initialized "java/lang/IndexOutOfBoundsException", Cond.fieldLink RX2 21 "HarvestLender" "count" "I", Cond.fieldLink RX2 17 "HarvestLender" "rows" "[LHarvestLender$Farmer;", Cond.methodLink RX2 45 yX2_requireRange, Cond.static yX2_requireRange, Cond.code yX2_requireRange cX2_requireRange 3 none, Cond.classLink RX2 175 "java/lang/IllegalArgumentException", Cond.initialized "java/lang/IllegalArgumentException", Cond.methodLink RX2 61 yX2_requireState]
def wsL_setYield_r2 : List Cond := [Cond.static yX2_requireState, Cond.code yX2_requireState cX2_requireState 1 none, Cond.classLink RX2 180 "java/lang/IllegalStateException", Cond.initialized "java/lang/IllegalStateException"]
def wsL_setYield : List Cond := .codeWith yL_setYield cL_setYield 5 (some .int) [(0, 10, 13, 13), (0, 10, 17, 15), (0, 10, 21, 24)] :: ((wsL_setYield_r1 ++ wsL_setYield_r2) ++ wsX20 ++ wsX10 ++ (vx_atS RX2 41 "java/lang/IndexOutOfBoundsException" ["java/lang/RuntimeException", "java/lang/Exception"]).filter goodWord ++ (vx_atS RX2 179 "java/lang/IllegalArgumentException" ["java/lang/RuntimeException", "java/lang/Exception"]).filter goodWord ++ (vx_atS RX2 184 "java/lang/IllegalStateException" ["java/lang/RuntimeException", "java/lang/Exception"]).filter goodWord)
def wsL_next_r1 : List Cond := [Cond.classLink RL 24 "java/lang/IllegalStateException", Cond.methodLink RL 39 yX2_next, Cond.instanceMethod yX2_next, Cond.selects RX2 yX2_next yX2_next, Cond.initialized RX2, Cond.code yX2_next cX2_next 2 (some .int), Cond.fieldLink RX2 28 "HarvestLender" "stage" "I", Cond.fieldLink RX2 21 "HarvestLender" "count" "I", Cond.fieldLink RX2 17 "HarvestLender" "rows" "[LHarvestLender$Farmer;", Cond.methodLink RX2 61 yX2_requireState, Cond.static yX2_requireState, Cond.code yX2_requireState cX2_requireState 1 none, Cond.classLink RX2 180 "java/lang/IllegalStateException", Cond.initialized "java/lang/IllegalStateException", Cond.methodLink RX2 110 yX1_chargeInterest, Cond.instanceMethod yX1_chargeInterest, Cond.selects RX1 yX1_chargeInterest yX1_chargeInterest, Cond.initialized RX1, Cond.code yX1_chargeInterest cX1_chargeInterest 1 none, Cond.fieldLink RX1 19 "HarvestLender$Farmer" "debt" "J", Cond.constantLong RX1 65 (2), Cond.constantLong RX1 67 (100), Cond.methodLink RX1 69 yX1_charge, Cond.instanceMethod yX1_charge]
def wsL_next_r2 : List Cond := [Cond.selects RX1 yX1_charge yX1_charge, Cond.code yX1_charge cX1_charge 3 none, Cond.fieldLink RX1 25 "HarvestLender$Farmer" "charged" "J", Cond.methodLink RX2 113 yX2_harvestAll, Cond.instanceMethod yX2_harvestAll, Cond.selects RX2 yX2_harvestAll yX2_harvestAll, Cond.code yX2_harvestAll cX2_harvestAll 2 none, Cond.fieldLink RX2 82 "HarvestLender$Farmer" "plantedCrop" "I", Cond.methodLink RX2 72 yX1_hasPlanted, Cond.instanceMethod yX1_hasPlanted, Cond.selects RX1 yX1_hasPlanted yX1_hasPlanted, Cond.code yX1_hasPlanted cX1_hasPlanted 1 (some .boolean), Cond.fieldLink RX1 50 "HarvestLender$Farmer" "plantedCrop" "I", Cond.methodLink RX2 33 yX2_cropAt, Cond.instanceMethod yX2_cropAt, Cond.selects RX2 yX2_cropAt yX2_cropAt, Cond.code yX2_cropAt cX2_cropAt 2 (some (.object "HarvestLender$Crop")), Cond.classLink RX2 37 "java/lang/IndexOutOfBoundsException", Cond.initialized "java/lang/IndexOutOfBoundsException", Cond.fieldLink RX2 11 "HarvestLender" "crops" "[LHarvestLender$Crop;", Cond.methodLink RX2 185 yX1_harvest, Cond.instanceMethod yX1_harvest, Cond.selects RX1 yX1_harvest yX1_harvest, Cond.code yX1_harvest cX1_harvest 5 none]
def wsL_next_r3 : List Cond := [Cond.fieldLink RX1 53 "HarvestLender$Farmer" "hectares" "I", Cond.fieldLink RX1 83 "HarvestLender$Crop" "normal" "I", Cond.fieldLink RX1 41 "HarvestLender$Farmer" "grain" "I", Cond.fieldLink RX1 59 "HarvestLender$Farmer" "yieldPercent" "I", Cond.fieldLink RX1 47 "HarvestLender$Farmer" "grainCrop" "I", Cond.fieldLink RX1 56 "HarvestLender$Farmer" "coverPercent" "I", Cond.fieldLink RX1 88 "HarvestLender$Crop" "price" "I", Cond.methodLink RX1 91 yX1_receive, Cond.instanceMethod yX1_receive, Cond.selects RX1 yX1_receive yX1_receive, Cond.code yX1_receive cX1_receive 6 none, Cond.methodLink RX1 73 Lib.MathLoose.min_long.x, Cond.static Lib.MathLoose.min_long.x, Cond.initialized "java/lang/Math", Cond.code Lib.MathLoose.min_long.x Lib.MathLoose.min_long.code 4 (some .long), Cond.fieldLink RX1 15 "HarvestLender$Farmer" "purse" "J", Cond.methodLink RX1 79 yX1_lowerDebt, Cond.instanceMethod yX1_lowerDebt, Cond.selects RX1 yX1_lowerDebt yX1_lowerDebt, Cond.code yX1_lowerDebt cX1_lowerDebt 4 none, Cond.fieldLink RX1 31 "HarvestLender$Farmer" "repaid" "[J"]
def wsL_next : List Cond := .codeWith yL_next cL_next 3 (some .int) [(0, 8, 11, 24)] :: ((wsL_next_r1 ++ (wsL_next_r2 ++ wsL_next_r3)) ++ wsX20 ++ wsX10 ++ wsX00 ++ (vx_atS RX2 184 "java/lang/IllegalStateException" ["java/lang/RuntimeException", "java/lang/Exception"]).filter goodWord ++ (vx_atS RX2 41 "java/lang/IndexOutOfBoundsException" ["java/lang/RuntimeException", "java/lang/Exception"]).filter goodWord)
def wsL_pledge_r1 : List Cond := [Cond.classLink RL 13 "java/lang/IndexOutOfBoundsException", Cond.classLink RL 15 "java/lang/IllegalArgumentException", Cond.classLink RL 24 "java/lang/IllegalStateException", Cond.methodLink RL 43 yX2_pledge, Cond.instanceMethod yX2_pledge, Cond.selects RX2 yX2_pledge yX2_pledge, Cond.initialized RX2, Cond.code yX2_pledge cX2_pledge 4 (some .int), Cond.constant RX2 116 (1000000), Cond.fieldLink RX2 79 "HarvestLender$Farmer" "grainCrop" "I", Cond.fieldLink RX2 53 "HarvestLender$Crop" "price" "I", Cond.methodLink RX2 68 yX2_farmerAt, Cond.instanceMethod yX2_farmerAt, Cond.selects RX2 yX2_farmerAt yX2_farmerAt, Cond.code yX2_farmerAt cX2_farmerAt 2 (some (.object "HarvestLender$Farmer")), Cond.classLink RX2 37 "java/lang/IndexOutOfBoundsException", Cond.initialized "java/lang/IndexOutOfBoundsException", Cond.fieldLink RX2 21 "HarvestLender" "count" "I", Cond.fieldLink RX2 17 "HarvestLender" "rows" "[LHarvestLender$Farmer;", Cond.methodLink RX2 45 yX2_requireRange, Cond.static yX2_requireRange, Cond.code yX2_requireRange cX2_requireRange 3 none, Cond.classLink RX2 175 "java/lang/IllegalArgumentException", Cond.initialized "java/lang/IllegalArgumentException"]
def wsL_pledge_r2 : List Cond := [Cond.methodLink RX2 117 yX1_freeGrain, Cond.instanceMethod yX1_freeGrain, Cond.selects RX1 yX1_freeGrain yX1_freeGrain, Cond.initialized RX1, Cond.code yX1_freeGrain cX1_freeGrain 1 (some .int), Cond.fieldLink RX1 41 "HarvestLender$Farmer" "grain" "I", Cond.fieldLink RX1 44 "HarvestLender$Farmer" "pledgedGrain" "I", Cond.methodLink RX2 61 yX2_requireState, Cond.static yX2_requireState, Cond.code yX2_requireState cX2_requireState 1 none, Cond.classLink RX2 180 "java/lang/IllegalStateException", Cond.initialized "java/lang/IllegalStateException", Cond.methodLink RX2 33 yX2_cropAt, Cond.instanceMethod yX2_cropAt, Cond.selects RX2 yX2_cropAt yX2_cropAt, Cond.code yX2_cropAt cX2_cropAt 2 (some (.object "HarvestLender$Crop")), Cond.fieldLink RX2 11 "HarvestLender" "crops" "[LHarvestLender$Crop;", Cond.methodLink RX2 121 yX1_pledgeUnits, Cond.instanceMethod yX1_pledgeUnits, Cond.selects RX1 yX1_pledgeUnits yX1_pledgeUnits, Cond.code yX1_pledgeUnits cX1_pledgeUnits 5 (some .long), Cond.constantLong RX1 94 (60), Cond.constantLong RX1 67 (100), Cond.fieldLink RX1 22 "HarvestLender$Farmer" "pledgeDebt" "J"]
def wsL_pledge_r3 : List Cond := [Cond.methodLink RX1 91 yX1_receive, Cond.instanceMethod yX1_receive, Cond.selects RX1 yX1_receive yX1_receive, Cond.code yX1_receive cX1_receive 6 none, Cond.fieldLink RX1 19 "HarvestLender$Farmer" "debt" "J", Cond.methodLink RX1 73 Lib.MathLoose.min_long.x, Cond.static Lib.MathLoose.min_long.x, Cond.initialized "java/lang/Math", Cond.code Lib.MathLoose.min_long.x Lib.MathLoose.min_long.code 4 (some .long), Cond.fieldLink RX1 15 "HarvestLender$Farmer" "purse" "J", Cond.methodLink RX1 79 yX1_lowerDebt, Cond.instanceMethod yX1_lowerDebt, Cond.selects RX1 yX1_lowerDebt yX1_lowerDebt, Cond.code yX1_lowerDebt cX1_lowerDebt 4 none, Cond.fieldLink RX1 31 "HarvestLender$Farmer" "repaid" "[J"]
def wsL_pledge : List Cond := .codeWith yL_pledge cL_pledge 5 (some .int) [(0, 10, 13, 13), (0, 10, 17, 15), (0, 10, 21, 24)] :: ((wsL_pledge_r1 ++ (wsL_pledge_r2 ++ wsL_pledge_r3)) ++ wsX10 ++ wsX00 ++ wsX20 ++ (vx_atS RX2 41 "java/lang/IndexOutOfBoundsException" ["java/lang/RuntimeException", "java/lang/Exception"]).filter goodWord ++ (vx_atS RX2 179 "java/lang/IllegalArgumentException" ["java/lang/RuntimeException", "java/lang/Exception"]).filter goodWord ++ (vx_atS RX2 184 "java/lang/IllegalStateException" ["java/lang/RuntimeException", "java/lang/Exception"]).filter goodWord)
def wsL_sell_r1 : List Cond := [Cond.classLink RL 13 "java/lang/IndexOutOfBoundsException", Cond.classLink RL 15 "java/lang/IllegalArgumentException", Cond.classLink RL 24 "java/lang/IllegalStateException", Cond.methodLink RL 46 yX2_sell, Cond.instanceMethod yX2_sell, Cond.selects RX2 yX2_sell yX2_sell, Cond.initialized RX2, Cond.code yX2_sell cX2_sell 4 (some .int), Cond.constant RX2 116 (1000000), Cond.fieldLink RX2 76 "HarvestLender$Farmer" "grain" "I", Cond.fieldLink RX2 79 "HarvestLender$Farmer" "grainCrop" "I", Cond.fieldLink RX2 53 "HarvestLender$Crop" "price" "I", Cond.methodLink RX2 68 yX2_farmerAt, Cond.instanceMethod yX2_farmerAt, Cond.selects RX2 yX2_farmerAt yX2_farmerAt, Cond.code yX2_farmerAt cX2_farmerAt 2 (some (.object "HarvestLender$Farmer")), Cond.classLink RX2 37 "java/lang/IndexOutOfBoundsException", Cond.initialized "java/lang/IndexOutOfBoundsException", Cond.fieldLink RX2 21 "HarvestLender" "count" "I", Cond.fieldLink RX2 17 "HarvestLender" "rows" "[LHarvestLender$Farmer;", Cond.methodLink RX2 45 yX2_requireRange, Cond.static yX2_requireRange, Cond.code yX2_requireRange cX2_requireRange 3 none, Cond.classLink RX2 175 "java/lang/IllegalArgumentException"]
def wsL_sell_r2 : List Cond := [Cond.initialized "java/lang/IllegalArgumentException", Cond.methodLink RX2 61 yX2_requireState, Cond.static yX2_requireState, Cond.code yX2_requireState cX2_requireState 1 none, Cond.classLink RX2 180 "java/lang/IllegalStateException", Cond.initialized "java/lang/IllegalStateException", Cond.methodLink RX2 33 yX2_cropAt, Cond.instanceMethod yX2_cropAt, Cond.selects RX2 yX2_cropAt yX2_cropAt, Cond.code yX2_cropAt cX2_cropAt 2 (some (.object "HarvestLender$Crop")), Cond.fieldLink RX2 11 "HarvestLender" "crops" "[LHarvestLender$Crop;", Cond.methodLink RX2 125 yX1_sellUnits, Cond.instanceMethod yX1_sellUnits, Cond.selects RX1 yX1_sellUnits yX1_sellUnits, Cond.initialized RX1, Cond.code yX1_sellUnits cX1_sellUnits 9 (some .long), Cond.methodLink RX1 100 Lib.Math.min.name, Cond.static Lib.Math.min.name, Cond.initialized "java/lang/Math", Cond.code Lib.Math.min.name Lib.Math.min.code 2 (some .int), Cond.fieldLink RX1 22 "HarvestLender$Farmer" "pledgeDebt" "J", Cond.methodLink RX1 73 Lib.MathLoose.min_long.x, Cond.static Lib.MathLoose.min_long.x, Cond.code Lib.MathLoose.min_long.x Lib.MathLoose.min_long.code 4 (some .long)]
def wsL_sell_r3 : List Cond := [Cond.fieldLink RX1 41 "HarvestLender$Farmer" "grain" "I", Cond.fieldLink RX1 44 "HarvestLender$Farmer" "pledgedGrain" "I", Cond.methodLink RX1 96 yX1_freeGrain, Cond.instanceMethod yX1_freeGrain, Cond.selects RX1 yX1_freeGrain yX1_freeGrain, Cond.code yX1_freeGrain cX1_freeGrain 1 (some .int), Cond.methodLink RX1 91 yX1_receive, Cond.instanceMethod yX1_receive, Cond.selects RX1 yX1_receive yX1_receive, Cond.code yX1_receive cX1_receive 6 none, Cond.fieldLink RX1 19 "HarvestLender$Farmer" "debt" "J", Cond.fieldLink RX1 15 "HarvestLender$Farmer" "purse" "J", Cond.methodLink RX1 79 yX1_lowerDebt, Cond.instanceMethod yX1_lowerDebt, Cond.selects RX1 yX1_lowerDebt yX1_lowerDebt, Cond.code yX1_lowerDebt cX1_lowerDebt 4 none, Cond.fieldLink RX1 31 "HarvestLender$Farmer" "repaid" "[J", Cond.methodLink RX1 103 yX1_moveRestOfPledgeDebt, Cond.instanceMethod yX1_moveRestOfPledgeDebt, Cond.selects RX1 yX1_moveRestOfPledgeDebt yX1_moveRestOfPledgeDebt, Cond.code yX1_moveRestOfPledgeDebt cX1_moveRestOfPledgeDebt 1 none, Cond.methodLink RX1 69 yX1_charge, Cond.instanceMethod yX1_charge, Cond.selects RX1 yX1_charge yX1_charge]
def wsL_sell_r4 : List Cond := [Cond.code yX1_charge cX1_charge 3 none, Cond.fieldLink RX1 25 "HarvestLender$Farmer" "charged" "J"]
def wsL_sell : List Cond := .codeWith yL_sell cL_sell 5 (some .int) [(0, 10, 13, 13), (0, 10, 17, 15), (0, 10, 21, 24)] :: ((wsL_sell_r1 ++ (wsL_sell_r2 ++ (wsL_sell_r3 ++ wsL_sell_r4))) ++ wsX10 ++ wsX00 ++ wsX20 ++ (vx_atS RX2 41 "java/lang/IndexOutOfBoundsException" ["java/lang/RuntimeException", "java/lang/Exception"]).filter goodWord ++ (vx_atS RX2 179 "java/lang/IllegalArgumentException" ["java/lang/RuntimeException", "java/lang/Exception"]).filter goodWord ++ (vx_atS RX2 184 "java/lang/IllegalStateException" ["java/lang/RuntimeException", "java/lang/Exception"]).filter goodWord)
def wsL_repay_r1 : List Cond := [Cond.classLink RL 13 "java/lang/IndexOutOfBoundsException", Cond.classLink RL 15 "java/lang/IllegalArgumentException", Cond.classLink RL 24 "java/lang/IllegalStateException", Cond.methodLink RL 49 yX2_repay, Cond.instanceMethod yX2_repay, Cond.selects RX2 yX2_repay yX2_repay, Cond.initialized RX2, Cond.code yX2_repay cX2_repay 4 (some .int), Cond.constant RX2 95 (100000000), Cond.fieldLink RX2 128 "HarvestLender$Farmer" "debt" "J", Cond.fieldLink RX2 132 "HarvestLender$Farmer" "purse" "J", Cond.methodLink RX2 68 yX2_farmerAt, Cond.instanceMethod yX2_farmerAt, Cond.selects RX2 yX2_farmerAt yX2_farmerAt, Cond.code yX2_farmerAt cX2_farmerAt 2 (some (.object "HarvestLender$Farmer")), Cond.classLink RX2 37 "java/lang/IndexOutOfBoundsException", Cond.initialized "java/lang/IndexOutOfBoundsException", Cond.fieldLink RX2 21 "HarvestLender" "count" "I", Cond.fieldLink RX2 17 "HarvestLender" "rows" "[LHarvestLender$Farmer;", Cond.methodLink RX2 45 yX2_requireRange, Cond.static yX2_requireRange, Cond.code yX2_requireRange cX2_requireRange 3 none, Cond.classLink RX2 175 "java/lang/IllegalArgumentException", Cond.initialized "java/lang/IllegalArgumentException"]
def wsL_repay_r2 : List Cond := [Cond.methodLink RX2 61 yX2_requireState, Cond.static yX2_requireState, Cond.code yX2_requireState cX2_requireState 1 none, Cond.classLink RX2 180 "java/lang/IllegalStateException", Cond.initialized "java/lang/IllegalStateException", Cond.methodLink RX2 135 yX1_repayFromPurse, Cond.instanceMethod yX1_repayFromPurse, Cond.selects RX1 yX1_repayFromPurse yX1_repayFromPurse, Cond.initialized RX1, Cond.code yX1_repayFromPurse cX1_repayFromPurse 3 none, Cond.fieldLink RX1 15 "HarvestLender$Farmer" "purse" "J", Cond.methodLink RX1 79 yX1_lowerDebt, Cond.instanceMethod yX1_lowerDebt, Cond.selects RX1 yX1_lowerDebt yX1_lowerDebt, Cond.code yX1_lowerDebt cX1_lowerDebt 4 none, Cond.fieldLink RX1 19 "HarvestLender$Farmer" "debt" "J", Cond.fieldLink RX1 31 "HarvestLender$Farmer" "repaid" "[J"]
def wsL_repay : List Cond := .codeWith yL_repay cL_repay 5 (some .int) [(0, 10, 13, 13), (0, 10, 17, 15), (0, 10, 21, 24)] :: ((wsL_repay_r1 ++ wsL_repay_r2) ++ wsX10 ++ wsX20 ++ (vx_atS RX2 41 "java/lang/IndexOutOfBoundsException" ["java/lang/RuntimeException", "java/lang/Exception"]).filter goodWord ++ (vx_atS RX2 179 "java/lang/IllegalArgumentException" ["java/lang/RuntimeException", "java/lang/Exception"]).filter goodWord ++ (vx_atS RX2 184 "java/lang/IllegalStateException" ["java/lang/RuntimeException", "java/lang/Exception"]).filter goodWord)
def wsL_close_r1 : List Cond := [Cond.classLink RL 24 "java/lang/IllegalStateException", Cond.methodLink RL 52 yX2_close, Cond.instanceMethod yX2_close, Cond.selects RX2 yX2_close yX2_close, Cond.initialized RX2, Cond.code yX2_close cX2_close 2 (some .int), Cond.fieldLink RX2 28 "HarvestLender" "stage" "I", Cond.fieldLink RX2 25 "HarvestLender" "season" "I", Cond.fieldLink RX2 21 "HarvestLender" "count" "I", Cond.fieldLink RX2 17 "HarvestLender" "rows" "[LHarvestLender$Farmer;", Cond.methodLink RX2 61 yX2_requireState, Cond.static yX2_requireState, Cond.code yX2_requireState cX2_requireState 1 none, Cond.classLink RX2 180 "java/lang/IllegalStateException", Cond.initialized "java/lang/IllegalStateException", Cond.methodLink RX2 138 yX1_settleFromPurse, Cond.instanceMethod yX1_settleFromPurse, Cond.selects RX1 yX1_settleFromPurse yX1_settleFromPurse, Cond.initialized RX1, Cond.code yX1_settleFromPurse cX1_settleFromPurse 1 none, Cond.fieldLink RX1 28 "HarvestLender$Farmer" "called" "J", Cond.fieldLink RX1 19 "HarvestLender$Farmer" "debt" "J", Cond.fieldLink RX1 15 "HarvestLender$Farmer" "purse" "J", Cond.methodLink RX1 73 Lib.MathLoose.min_long.x]
def wsL_close_r2 : List Cond := [Cond.static Lib.MathLoose.min_long.x, Cond.initialized "java/lang/Math", Cond.code Lib.MathLoose.min_long.x Lib.MathLoose.min_long.code 4 (some .long), Cond.methodLink RX1 106 yX1_takeInstalment, Cond.instanceMethod yX1_takeInstalment, Cond.selects RX1 yX1_takeInstalment yX1_takeInstalment, Cond.code yX1_takeInstalment cX1_takeInstalment 2 (some .long), Cond.fieldLink RX1 38 "HarvestLender$Farmer" "instalmentsLeft" "I", Cond.fieldLink RX1 35 "HarvestLender$Farmer" "instalments" "[J", Cond.methodLink RX1 110 yX1_repayFromPurse, Cond.instanceMethod yX1_repayFromPurse, Cond.selects RX1 yX1_repayFromPurse yX1_repayFromPurse, Cond.code yX1_repayFromPurse cX1_repayFromPurse 3 none, Cond.methodLink RX1 79 yX1_lowerDebt, Cond.instanceMethod yX1_lowerDebt, Cond.selects RX1 yX1_lowerDebt yX1_lowerDebt, Cond.code yX1_lowerDebt cX1_lowerDebt 4 none, Cond.fieldLink RX1 31 "HarvestLender$Farmer" "repaid" "[J", Cond.methodLink RX2 141 yX2_settleRest, Cond.instanceMethod yX2_settleRest, Cond.selects RX2 yX2_settleRest yX2_settleRest, Cond.code yX2_settleRest cX2_settleRest 2 none, Cond.fieldLink RX2 128 "HarvestLender$Farmer" "debt" "J", Cond.methodLink RX2 189 yX1_mayRoll]
def wsL_close_r3 : List Cond := [Cond.instanceMethod yX1_mayRoll, Cond.selects RX1 yX1_mayRoll yX1_mayRoll, Cond.code yX1_mayRoll cX1_mayRoll 1 (some .boolean), Cond.fieldLink RX1 59 "HarvestLender$Farmer" "yieldPercent" "I", Cond.methodLink RX1 113 yX1_hasPlanted, Cond.instanceMethod yX1_hasPlanted, Cond.selects RX1 yX1_hasPlanted yX1_hasPlanted, Cond.code yX1_hasPlanted cX1_hasPlanted 1 (some .boolean), Cond.fieldLink RX1 50 "HarvestLender$Farmer" "plantedCrop" "I", Cond.methodLink RX2 192 yX1_rollDebt, Cond.instanceMethod yX1_rollDebt, Cond.selects RX1 yX1_rollDebt yX1_rollDebt, Cond.code yX1_rollDebt cX1_rollDebt 4 none, Cond.constantLong RX1 117 (3), Cond.constantLong RX1 65 (2), Cond.methodLink RX2 195 yX2_collectFromGroup, Cond.instanceMethod yX2_collectFromGroup, Cond.selects RX2 yX2_collectFromGroup yX2_collectFromGroup, Cond.code yX2_collectFromGroup cX2_collectFromGroup 3 none, Cond.fieldLink RX2 65 "HarvestLender$Farmer" "group" "I", Cond.methodLink RX2 198 yX1_payFor, Cond.instanceMethod yX1_payFor, Cond.selects RX1 yX1_payFor yX1_payFor, Cond.code yX1_payFor cX1_payFor 4 none]
def wsL_close_r4 : List Cond := [Cond.constantLong RX1 119 (20000), Cond.methodLink RX2 145 yX1_forgetSeason, Cond.instanceMethod yX1_forgetSeason, Cond.selects RX1 yX1_forgetSeason yX1_forgetSeason, Cond.code yX1_forgetSeason cX1_forgetSeason 1 none, Cond.fieldLink RX1 53 "HarvestLender$Farmer" "hectares" "I", Cond.fieldLink RX1 56 "HarvestLender$Farmer" "coverPercent" "I", Cond.fieldLink RX1 62 "HarvestLender$Farmer" "drawn" "I"]
def wsL_close : List Cond := .codeWith yL_close cL_close 3 (some .int) [(0, 8, 11, 24)] :: ((wsL_close_r1 ++ (wsL_close_r2 ++ (wsL_close_r3 ++ wsL_close_r4))) ++ wsX20 ++ wsX10 ++ (vx_atS RX2 184 "java/lang/IllegalStateException" ["java/lang/RuntimeException", "java/lang/Exception"]).filter goodWord)
def wsL_limit_r1 : List Cond := [Cond.classLink RL 13 "java/lang/IndexOutOfBoundsException", Cond.methodLink RL 55 yX2_limit, Cond.instanceMethod yX2_limit, Cond.selects RX2 yX2_limit yX2_limit, Cond.initialized RX2, Cond.code yX2_limit cX2_limit 2 (some .int), Cond.methodLink RX2 68 yX2_farmerAt, Cond.instanceMethod yX2_farmerAt, Cond.selects RX2 yX2_farmerAt yX2_farmerAt, Cond.code yX2_farmerAt cX2_farmerAt 2 (some (.object "HarvestLender$Farmer")), Cond.classLink RX2 37 "java/lang/IndexOutOfBoundsException", Cond.initialized "java/lang/IndexOutOfBoundsException", Cond.fieldLink RX2 21 "HarvestLender" "count" "I", Cond.fieldLink RX2 17 "HarvestLender" "rows" "[LHarvestLender$Farmer;", Cond.methodLink RX2 96 yX2_limitOf, Cond.instanceMethod yX2_limitOf, Cond.selects RX2 yX2_limitOf yX2_limitOf, Cond.code yX2_limitOf cX2_limitOf 2 (some .int), Cond.fieldLink RX2 82 "HarvestLender$Farmer" "plantedCrop" "I", Cond.fieldLink RX2 28 "HarvestLender" "stage" "I", Cond.fieldLink RX2 85 "HarvestLender$Farmer" "hectares" "I", Cond.methodLink RX2 72 yX1_hasPlanted, Cond.instanceMethod yX1_hasPlanted, Cond.selects RX1 yX1_hasPlanted yX1_hasPlanted]
def wsL_limit_r2 : List Cond := [Cond.initialized RX1, Cond.code yX1_hasPlanted cX1_hasPlanted 1 (some .boolean), Cond.fieldLink RX1 50 "HarvestLender$Farmer" "plantedCrop" "I", Cond.methodLink RX2 33 yX2_cropAt, Cond.instanceMethod yX2_cropAt, Cond.selects RX2 yX2_cropAt yX2_cropAt, Cond.code yX2_cropAt cX2_cropAt 2 (some (.object "HarvestLender$Crop")), Cond.fieldLink RX2 11 "HarvestLender" "crops" "[LHarvestLender$Crop;", Cond.methodLink RX2 88 yX0_needUpTo, Cond.instanceMethod yX0_needUpTo, Cond.selects RX0 yX0_needUpTo yX0_needUpTo, Cond.initialized RX0, Cond.code yX0_needUpTo cX0_needUpTo 4 (some .int), Cond.fieldLink RX0 9 "HarvestLender$Crop" "needs" "[I"]
def wsL_limit : List Cond := .codeWith yL_limit cL_limit 4 (some .int) [(0, 9, 12, 13)] :: ((wsL_limit_r1 ++ wsL_limit_r2) ++ wsX20 ++ wsX10 ++ wsX00 ++ (vx_atS RX2 41 "java/lang/IndexOutOfBoundsException" ["java/lang/RuntimeException", "java/lang/Exception"]).filter goodWord)
def wsL_debt : List Cond := .codeWith yL_debt cL_debt 4 (some .int) [(0, 9, 12, 13)] :: ([.classLink RL 13 "java/lang/IndexOutOfBoundsException", .methodLink RL 58 yX2_debt, .instanceMethod yX2_debt, .selects RX2 yX2_debt yX2_debt, .initialized RX2, .code yX2_debt cX2_debt 2 (some .int), .fieldLink RX2 128 "HarvestLender$Farmer" "debt" "J", .methodLink RX2 68 yX2_farmerAt, .instanceMethod yX2_farmerAt, .selects RX2 yX2_farmerAt yX2_farmerAt, .code yX2_farmerAt cX2_farmerAt 2 (some (.object "HarvestLender$Farmer")), .classLink RX2 37 "java/lang/IndexOutOfBoundsException", .initialized "java/lang/IndexOutOfBoundsException", .fieldLink RX2 21 "HarvestLender" "count" "I", .fieldLink RX2 17 "HarvestLender" "rows" "[LHarvestLender$Farmer;"] ++ wsX10 ++ wsX20 ++ (vx_atS RX2 41 "java/lang/IndexOutOfBoundsException" ["java/lang/RuntimeException", "java/lang/Exception"]).filter goodWord)
def wsL_owes : List Cond := .codeWith yL_owes cL_owes 4 (some .int) [(0, 9, 12, 13)] :: ([.classLink RL 13 "java/lang/IndexOutOfBoundsException", .methodLink RL 61 yX2_owes, .instanceMethod yX2_owes, .selects RX2 yX2_owes yX2_owes, .initialized RX2, .code yX2_owes cX2_owes 3 (some .int), .fieldLink RX2 128 "HarvestLender$Farmer" "debt" "J", .fieldLink RX2 148 "HarvestLender$Farmer" "pledgeDebt" "J", .methodLink RX2 68 yX2_farmerAt, .instanceMethod yX2_farmerAt, .selects RX2 yX2_farmerAt yX2_farmerAt, .code yX2_farmerAt cX2_farmerAt 2 (some (.object "HarvestLender$Farmer")), .classLink RX2 37 "java/lang/IndexOutOfBoundsException", .initialized "java/lang/IndexOutOfBoundsException", .fieldLink RX2 21 "HarvestLender" "count" "I", .fieldLink RX2 17 "HarvestLender" "rows" "[LHarvestLender$Farmer;", .methodLink RX2 151 yX1_instalmentSum, .instanceMethod yX1_instalmentSum, .selects RX1 yX1_instalmentSum yX1_instalmentSum, .initialized RX1, .code yX1_instalmentSum cX1_instalmentSum 4 (some .long), .fieldLink RX1 38 "HarvestLender$Farmer" "instalmentsLeft" "I", .fieldLink RX1 35 "HarvestLender$Farmer" "instalments" "[J"] ++ wsX10 ++ wsX20 ++ (vx_atS RX2 41 "java/lang/IndexOutOfBoundsException" ["java/lang/RuntimeException", "java/lang/Exception"]).filter goodWord)
def wsL_instalments : List Cond := .codeWith yL_instalments cL_instalments 4 (some .int) [(0, 9, 12, 13)] :: ([.classLink RL 13 "java/lang/IndexOutOfBoundsException", .methodLink RL 64 yX2_instalments, .instanceMethod yX2_instalments, .selects RX2 yX2_instalments yX2_instalments, .initialized RX2, .code yX2_instalments cX2_instalments 2 (some .int), .fieldLink RX2 155 "HarvestLender$Farmer" "instalmentsLeft" "I", .methodLink RX2 68 yX2_farmerAt, .instanceMethod yX2_farmerAt, .selects RX2 yX2_farmerAt yX2_farmerAt, .code yX2_farmerAt cX2_farmerAt 2 (some (.object "HarvestLender$Farmer")), .classLink RX2 37 "java/lang/IndexOutOfBoundsException", .initialized "java/lang/IndexOutOfBoundsException", .fieldLink RX2 21 "HarvestLender" "count" "I", .fieldLink RX2 17 "HarvestLender" "rows" "[LHarvestLender$Farmer;"] ++ wsX10 ++ wsX20 ++ (vx_atS RX2 41 "java/lang/IndexOutOfBoundsException" ["java/lang/RuntimeException", "java/lang/Exception"]).filter goodWord)
def wsL_purse : List Cond := .codeWith yL_purse cL_purse 4 (some .int) [(0, 9, 12, 13)] :: ([.classLink RL 13 "java/lang/IndexOutOfBoundsException", .methodLink RL 67 yX2_purse, .instanceMethod yX2_purse, .selects RX2 yX2_purse yX2_purse, .initialized RX2, .code yX2_purse cX2_purse 2 (some .int), .fieldLink RX2 132 "HarvestLender$Farmer" "purse" "J", .methodLink RX2 68 yX2_farmerAt, .instanceMethod yX2_farmerAt, .selects RX2 yX2_farmerAt yX2_farmerAt, .code yX2_farmerAt cX2_farmerAt 2 (some (.object "HarvestLender$Farmer")), .classLink RX2 37 "java/lang/IndexOutOfBoundsException", .initialized "java/lang/IndexOutOfBoundsException", .fieldLink RX2 21 "HarvestLender" "count" "I", .fieldLink RX2 17 "HarvestLender" "rows" "[LHarvestLender$Farmer;"] ++ wsX10 ++ wsX20 ++ (vx_atS RX2 41 "java/lang/IndexOutOfBoundsException" ["java/lang/RuntimeException", "java/lang/Exception"]).filter goodWord)
def wsL_grain : List Cond := .codeWith yL_grain cL_grain 5 (some .int) [(0, 10, 13, 13)] :: ([.classLink RL 13 "java/lang/IndexOutOfBoundsException", .methodLink RL 70 yX2_grain, .instanceMethod yX2_grain, .selects RX2 yX2_grain yX2_grain, .initialized RX2, .code yX2_grain cX2_grain 4 (some .int), .fieldLink RX2 158 "HarvestLender$Farmer" "pledgedGrain" "I", .fieldLink RX2 76 "HarvestLender$Farmer" "grain" "I", .methodLink RX2 68 yX2_farmerAt, .instanceMethod yX2_farmerAt, .selects RX2 yX2_farmerAt yX2_farmerAt, .code yX2_farmerAt cX2_farmerAt 2 (some (.object "HarvestLender$Farmer")), .classLink RX2 37 "java/lang/IndexOutOfBoundsException", .initialized "java/lang/IndexOutOfBoundsException", .fieldLink RX2 21 "HarvestLender" "count" "I", .fieldLink RX2 17 "HarvestLender" "rows" "[LHarvestLender$Farmer;"] ++ wsX10 ++ wsX20 ++ (vx_atS RX2 41 "java/lang/IndexOutOfBoundsException" ["java/lang/RuntimeException", "java/lang/Exception"]).filter goodWord)
def wsL_called : List Cond := .codeWith yL_called cL_called 4 (some .int) [(0, 9, 12, 13)] :: ([.classLink RL 13 "java/lang/IndexOutOfBoundsException", .methodLink RL 74 yX2_called, .instanceMethod yX2_called, .selects RX2 yX2_called yX2_called, .initialized RX2, .code yX2_called cX2_called 2 (some .int), .fieldLink RX2 161 "HarvestLender$Farmer" "called" "J", .methodLink RX2 68 yX2_farmerAt, .instanceMethod yX2_farmerAt, .selects RX2 yX2_farmerAt yX2_farmerAt, .code yX2_farmerAt cX2_farmerAt 2 (some (.object "HarvestLender$Farmer")), .classLink RX2 37 "java/lang/IndexOutOfBoundsException", .initialized "java/lang/IndexOutOfBoundsException", .fieldLink RX2 21 "HarvestLender" "count" "I", .fieldLink RX2 17 "HarvestLender" "rows" "[LHarvestLender$Farmer;"] ++ wsX10 ++ wsX20 ++ (vx_atS RX2 41 "java/lang/IndexOutOfBoundsException" ["java/lang/RuntimeException", "java/lang/Exception"]).filter goodWord)
def wsL_repaid : List Cond := .codeWith yL_repaid cL_repaid 5 (some .int) [(0, 10, 13, 13), (0, 10, 17, 15)] :: ([.classLink RL 13 "java/lang/IndexOutOfBoundsException", .classLink RL 15 "java/lang/IllegalArgumentException", .methodLink RL 77 yX2_repaid, .instanceMethod yX2_repaid, .selects RX2 yX2_repaid yX2_repaid, .initialized RX2, .code yX2_repaid cX2_repaid 4 (some .int), .fieldLink RX2 164 "HarvestLender$Farmer" "repaid" "[J", .methodLink RX2 68 yX2_farmerAt, .instanceMethod yX2_farmerAt, .selects RX2 yX2_farmerAt yX2_farmerAt, .code yX2_farmerAt cX2_farmerAt 2 (some (.object "HarvestLender$Farmer")), .classLink RX2 37 "java/lang/IndexOutOfBoundsException", .initialized "java/lang/IndexOutOfBoundsException", .fieldLink RX2 21 "HarvestLender" "count" "I", .fieldLink RX2 17 "HarvestLender" "rows" "[LHarvestLender$Farmer;", .methodLink RX2 45 yX2_requireRange, .static yX2_requireRange, .code yX2_requireRange cX2_requireRange 3 none, .classLink RX2 175 "java/lang/IllegalArgumentException", .initialized "java/lang/IllegalArgumentException"] ++ wsX10 ++ wsX20 ++ (vx_atS RX2 41 "java/lang/IndexOutOfBoundsException" ["java/lang/RuntimeException", "java/lang/Exception"]).filter goodWord ++ (vx_atS RX2 179 "java/lang/IllegalArgumentException" ["java/lang/RuntimeException", "java/lang/Exception"]).filter goodWord)
def wsL_charged : List Cond := .codeWith yL_charged cL_charged 4 (some .int) [(0, 9, 12, 13)] :: ([.classLink RL 13 "java/lang/IndexOutOfBoundsException", .methodLink RL 80 yX2_charged, .instanceMethod yX2_charged, .selects RX2 yX2_charged yX2_charged, .initialized RX2, .code yX2_charged cX2_charged 2 (some .int), .fieldLink RX2 168 "HarvestLender$Farmer" "charged" "J", .methodLink RX2 68 yX2_farmerAt, .instanceMethod yX2_farmerAt, .selects RX2 yX2_farmerAt yX2_farmerAt, .code yX2_farmerAt cX2_farmerAt 2 (some (.object "HarvestLender$Farmer")), .classLink RX2 37 "java/lang/IndexOutOfBoundsException", .initialized "java/lang/IndexOutOfBoundsException", .fieldLink RX2 21 "HarvestLender" "count" "I", .fieldLink RX2 17 "HarvestLender" "rows" "[LHarvestLender$Farmer;"] ++ wsX10 ++ wsX20 ++ (vx_atS RX2 41 "java/lang/IndexOutOfBoundsException" ["java/lang/RuntimeException", "java/lang/Exception"]).filter goodWord)
def wsL_law0_r1 : List Cond := [Cond.classLink RL 8 RX2, Cond.instantiable RX2 5, Cond.initialized RX2, Cond.classLink RL 84 RX3, Cond.instantiable RX3 24, Cond.initialized RX3, Cond.arrayClass .long, Cond.methodLink RL 83 yX2_init, Cond.instanceMethod yX2_init, Cond.code yX2_init cX2_init 2 none, Cond.methodLink RX2 1 objectInit, Cond.instanceMethod objectInit, Cond.code objectInit ⟨#[0xb1]⟩ 1 none, Cond.classLink RX2 9 RX0, Cond.fieldLink RX2 11 "HarvestLender" "crops" "[LHarvestLender$Crop;", Cond.classLink RX2 15 RX1, Cond.fieldLink RX2 17 "HarvestLender" "rows" "[LHarvestLender$Farmer;", Cond.fieldLink RX2 21 "HarvestLender" "count" "I", Cond.fieldLink RX2 25 "HarvestLender" "season" "I", Cond.fieldLink RX2 28 "HarvestLender" "stage" "I", Cond.instantiable RX0 3, Cond.initialized RX0, Cond.instantiable RX1 17, Cond.initialized RX1]
def wsL_law0_r2 : List Cond := [Cond.methodLink RX2 31 yX0_init, Cond.instanceMethod yX0_init, Cond.code yX0_init cX0_init 2 none, Cond.methodLink RX0 3 objectInit, Cond.arrayClass .int, Cond.fieldLink RX0 9 "HarvestLender$Crop" "needs" "[I", Cond.fieldLink RX0 15 "HarvestLender$Crop" "price" "I", Cond.fieldLink RX0 19 "HarvestLender$Crop" "normal" "I", Cond.instanceMethod yX1_init, Cond.code yX1_init cX1_init 1 none, Cond.methodLink RX1 3 objectInit, Cond.fieldLink RX1 9 "HarvestLender$Farmer" "group" "I", Cond.fieldLink RX1 15 "HarvestLender$Farmer" "purse" "J", Cond.fieldLink RX1 19 "HarvestLender$Farmer" "debt" "J", Cond.fieldLink RX1 22 "HarvestLender$Farmer" "pledgeDebt" "J", Cond.fieldLink RX1 25 "HarvestLender$Farmer" "charged" "J", Cond.fieldLink RX1 28 "HarvestLender$Farmer" "called" "J", Cond.fieldLink RX1 31 "HarvestLender$Farmer" "repaid" "[J", Cond.fieldLink RX1 35 "HarvestLender$Farmer" "instalments" "[J", Cond.fieldLink RX1 38 "HarvestLender$Farmer" "instalmentsLeft" "I", Cond.fieldLink RX1 41 "HarvestLender$Farmer" "grain" "I", Cond.fieldLink RX1 44 "HarvestLender$Farmer" "pledgedGrain" "I", Cond.fieldLink RX1 47 "HarvestLender$Farmer" "grainCrop" "I", Cond.fieldLink RX1 50 "HarvestLender$Farmer" "plantedCrop" "I"]
def wsL_law0_r3 : List Cond := [Cond.fieldLink RX1 53 "HarvestLender$Farmer" "hectares" "I", Cond.fieldLink RX1 56 "HarvestLender$Farmer" "coverPercent" "I", Cond.fieldLink RX1 59 "HarvestLender$Farmer" "yieldPercent" "I", Cond.fieldLink RX1 62 "HarvestLender$Farmer" "drawn" "I", Cond.methodLink RL 86 yX3_init, Cond.instanceMethod yX3_init, Cond.code yX3_init cX3_init 2 none, Cond.methodLink RX3 1 objectInit, Cond.fieldLink RX3 7 "HarvestLenderModel" "needs" "[I", Cond.fieldLink RX3 13 "HarvestLenderModel" "prices" "[I", Cond.fieldLink RX3 16 "HarvestLenderModel" "normals" "[I", Cond.fieldLink RX3 19 "HarvestLenderModel" "groups" "[I", Cond.fieldLink RX3 22 "HarvestLenderModel" "purses" "[I", Cond.fieldLink RX3 25 "HarvestLenderModel" "debts" "[I", Cond.fieldLink RX3 28 "HarvestLenderModel" "grainCrops" "[I", Cond.fieldLink RX3 31 "HarvestLenderModel" "grains" "[I", Cond.fieldLink RX3 34 "HarvestLenderModel" "pledged" "[I", Cond.fieldLink RX3 37 "HarvestLenderModel" "pledgeDebts" "[I", Cond.fieldLink RX3 40 "HarvestLenderModel" "rows" "[I", Cond.fieldLink RX3 43 "HarvestLenderModel" "parts" "[I", Cond.fieldLink RX3 46 "HarvestLenderModel" "crops" "[I", Cond.fieldLink RX3 49 "HarvestLenderModel" "hectares" "[I", Cond.fieldLink RX3 52 "HarvestLenderModel" "drawn" "[I", Cond.fieldLink RX3 55 "HarvestLenderModel" "covers" "[I"]
def wsL_law0_r4 : List Cond := [Cond.fieldLink RX3 58 "HarvestLenderModel" "yields" "[I", Cond.fieldLink RX3 61 "HarvestLenderModel" "calls" "[I", Cond.fieldLink RX3 64 "HarvestLenderModel" "repaidOf" "[I", Cond.fieldLink RX3 67 "HarvestLenderModel" "charges" "[I", Cond.methodLink RL 87 yL_setNeed, Cond.static yL_setNeed, Cond.initialized RL, Cond.codeWith yL_setNeed cL_setNeed 6 (some .int) [(0, 12, 15, 13), (0, 12, 19, 15)], Cond.classLink RL 13 "java/lang/IndexOutOfBoundsException", Cond.classLink RL 15 "java/lang/IllegalArgumentException", Cond.methodLink RL 7 yX2_setNeed, Cond.instanceMethod yX2_setNeed, Cond.selects RX2 yX2_setNeed yX2_setNeed, Cond.code yX2_setNeed cX2_setNeed 6 (some .int), Cond.classLink RX2 37 "java/lang/IndexOutOfBoundsException", Cond.initialized "java/lang/IndexOutOfBoundsException", Cond.constant RX2 44 (100000), Cond.fieldLink RX2 49 "HarvestLender$Crop" "needs" "[I", Cond.methodLink RX2 33 yX2_cropAt, Cond.instanceMethod yX2_cropAt, Cond.selects RX2 yX2_cropAt yX2_cropAt, Cond.code yX2_cropAt cX2_cropAt 2 (some (.object "HarvestLender$Crop")), Cond.methodLink RX2 45 yX2_requireRange, Cond.static yX2_requireRange]
def wsL_law0_r5 : List Cond := [Cond.code yX2_requireRange cX2_requireRange 3 none, Cond.classLink RX2 175 "java/lang/IllegalArgumentException", Cond.initialized "java/lang/IllegalArgumentException", Cond.methodLink RL 92 yX3_setNeed, Cond.instanceMethod yX3_setNeed, Cond.selects RX3 yX3_setNeed yX3_setNeed, Cond.code yX3_setNeed cX3_setNeed 6 (some .int), Cond.constant RX3 85 (100000), Cond.methodLink RX3 81 yX3_isCrop, Cond.static yX3_isCrop, Cond.code yX3_isCrop cX3_isCrop 1 (some .boolean), Cond.methodLink RX3 74 yX3_in, Cond.static yX3_in, Cond.code yX3_in cX3_in 3 (some .boolean), Cond.methodLink RX3 86 yX3_refused, Cond.instanceMethod yX3_refused, Cond.selects RX3 yX3_refused yX3_refused, Cond.code yX3_refused cX3_refused 2 (some .boolean), Cond.fieldLink RX3 70 "HarvestLenderModel" "refusal" "I", Cond.methodLink RL 93 yX3_thrown, Cond.instanceMethod yX3_thrown, Cond.selects RX3 yX3_thrown yX3_thrown, Cond.code yX3_thrown cX3_thrown 1 (some .int), Cond.methodLink RL 96 yL_setCrop]
def wsL_law0_r6 : List Cond := [Cond.static yL_setCrop, Cond.codeWith yL_setCrop cL_setCrop 6 (some .int) [(0, 12, 15, 13), (0, 12, 19, 15)], Cond.methodLink RL 17 yX2_setCrop, Cond.instanceMethod yX2_setCrop, Cond.selects RX2 yX2_setCrop yX2_setCrop, Cond.code yX2_setCrop cX2_setCrop 6 (some .int), Cond.fieldLink RX2 53 "HarvestLender$Crop" "price" "I", Cond.fieldLink RX2 56 "HarvestLender$Crop" "normal" "I", Cond.methodLink RL 98 yX3_setCrop, Cond.instanceMethod yX3_setCrop, Cond.selects RX3 yX3_setCrop yX3_setCrop, Cond.code yX3_setCrop cX3_setCrop 5 (some .int), Cond.methodLink RL 99 yL_add, Cond.static yL_add, Cond.codeWith yL_add cL_add 4 (some .int) [(0, 9, 12, 13), (0, 9, 15, 24)], Cond.classLink RL 24 "java/lang/IllegalStateException", Cond.methodLink RL 20 yX2_add, Cond.instanceMethod yX2_add, Cond.selects RX2 yX2_add yX2_add, Cond.code yX2_add cX2_add 3 (some .int), Cond.fieldLink RX2 65 "HarvestLender$Farmer" "group" "I", Cond.methodLink RX2 61 yX2_requireState, Cond.static yX2_requireState, Cond.code yX2_requireState cX2_requireState 1 none]
def wsL_law0_r7 : List Cond := [Cond.classLink RX2 180 "java/lang/IllegalStateException", Cond.initialized "java/lang/IllegalStateException", Cond.methodLink RL 102 yX3_add, Cond.instanceMethod yX3_add, Cond.selects RX3 yX3_add yX3_add, Cond.code yX3_add cX3_add 2 (some .int), Cond.fieldLink RX3 78 "HarvestLenderModel" "farmers" "I", Cond.methodLink RX3 89 yX3_clear, Cond.instanceMethod yX3_clear, Cond.selects RX3 yX3_clear yX3_clear, Cond.code yX3_clear cX3_clear 2 none, Cond.methodLink RL 103 yX2_farmers, Cond.instanceMethod yX2_farmers, Cond.selects RX2 yX2_farmers yX2_farmers, Cond.code yX2_farmers cX2_farmers 1 (some .int), Cond.methodLink RL 106 yX3_farmers, Cond.instanceMethod yX3_farmers, Cond.selects RX3 yX3_farmers yX3_farmers, Cond.code yX3_farmers cX3_farmers 1 (some .int), Cond.methodLink RX3 93 yX3_fine, Cond.instanceMethod yX3_fine, Cond.selects RX3 yX3_fine yX3_fine, Cond.code yX3_fine cX3_fine 2 (some .int), Cond.methodLink RL 107 yL_plant]
def wsL_law0_r8 : List Cond := [Cond.static yL_plant, Cond.codeWith yL_plant cL_plant 6 (some .int) [(0, 12, 15, 13), (0, 12, 19, 15), (0, 12, 23, 24)], Cond.methodLink RL 26 yX2_plant, Cond.instanceMethod yX2_plant, Cond.selects RX2 yX2_plant yX2_plant, Cond.code yX2_plant cX2_plant 6 (some .int), Cond.fieldLink RX2 76 "HarvestLender$Farmer" "grain" "I", Cond.fieldLink RX2 79 "HarvestLender$Farmer" "grainCrop" "I", Cond.fieldLink RX2 82 "HarvestLender$Farmer" "plantedCrop" "I", Cond.fieldLink RX2 85 "HarvestLender$Farmer" "hectares" "I", Cond.methodLink RX2 68 yX2_farmerAt, Cond.instanceMethod yX2_farmerAt, Cond.selects RX2 yX2_farmerAt yX2_farmerAt, Cond.code yX2_farmerAt cX2_farmerAt 2 (some (.object "HarvestLender$Farmer")), Cond.methodLink RX2 72 yX1_hasPlanted, Cond.instanceMethod yX1_hasPlanted, Cond.selects RX1 yX1_hasPlanted yX1_hasPlanted, Cond.code yX1_hasPlanted cX1_hasPlanted 1 (some .boolean), Cond.methodLink RX2 88 yX0_needUpTo, Cond.instanceMethod yX0_needUpTo, Cond.selects RX0 yX0_needUpTo yX0_needUpTo, Cond.code yX0_needUpTo cX0_needUpTo 4 (some .int), Cond.methodLink RL 109 yX3_plant, Cond.instanceMethod yX3_plant]
def wsL_law0_r9 : List Cond := [Cond.selects RX3 yX3_plant yX3_plant, Cond.code yX3_plant cX3_plant 6 (some .int), Cond.fieldLink RX3 101 "HarvestLenderModel" "stage" "I", Cond.methodLink RX3 104 yX3_isFarmer, Cond.instanceMethod yX3_isFarmer, Cond.selects RX3 yX3_isFarmer yX3_isFarmer, Cond.code yX3_isFarmer cX3_isFarmer 2 (some .boolean), Cond.methodLink RX3 107 yX3_limitOf, Cond.instanceMethod yX3_limitOf, Cond.selects RX3 yX3_limitOf yX3_limitOf, Cond.code yX3_limitOf cX3_limitOf 4 (some .int), Cond.methodLink RL 110 yL_cover, Cond.static yL_cover, Cond.codeWith yL_cover cL_cover 5 (some .int) [(0, 10, 13, 13), (0, 10, 17, 15), (0, 10, 21, 24)], Cond.methodLink RL 29 yX2_cover, Cond.instanceMethod yX2_cover, Cond.selects RX2 yX2_cover yX2_cover, Cond.code yX2_cover cX2_cover 5 (some .int), Cond.fieldLink RX2 92 "HarvestLender$Farmer" "coverPercent" "I", Cond.methodLink RL 113 yX3_cover, Cond.instanceMethod yX3_cover, Cond.selects RX3 yX3_cover yX3_cover, Cond.code yX3_cover cX3_cover 5 (some .int), Cond.methodLink RL 114 yL_draw]
def wsL_law0_r10 : List Cond := [Cond.static yL_draw, Cond.codeWith yL_draw cL_draw 5 (some .int) [(0, 10, 13, 13), (0, 10, 17, 15), (0, 10, 21, 24)], Cond.methodLink RL 33 yX2_draw, Cond.instanceMethod yX2_draw, Cond.selects RX2 yX2_draw yX2_draw, Cond.code yX2_draw cX2_draw 5 (some .int), Cond.constant RX2 95 (100000000), Cond.fieldLink RX2 100 "HarvestLender$Farmer" "drawn" "I", Cond.methodLink RX2 96 yX2_limitOf, Cond.instanceMethod yX2_limitOf, Cond.selects RX2 yX2_limitOf yX2_limitOf, Cond.code yX2_limitOf cX2_limitOf 2 (some .int), Cond.methodLink RX2 103 yX1_charge, Cond.instanceMethod yX1_charge, Cond.selects RX1 yX1_charge yX1_charge, Cond.code yX1_charge cX1_charge 3 none, Cond.methodLink RL 116 yX3_draw, Cond.instanceMethod yX3_draw, Cond.selects RX3 yX3_draw yX3_draw, Cond.code yX3_draw cX3_draw 5 (some .int), Cond.constant RX3 110 (100000000), Cond.methodLink RX3 111 yX3_charge, Cond.instanceMethod yX3_charge, Cond.selects RX3 yX3_charge yX3_charge]
def wsL_law0_r11 : List Cond := [Cond.code yX3_charge cX3_charge 3 none, Cond.methodLink RL 117 yL_setYield, Cond.static yL_setYield, Cond.codeWith yL_setYield cL_setYield 5 (some .int) [(0, 10, 13, 13), (0, 10, 17, 15), (0, 10, 21, 24)], Cond.methodLink RL 36 yX2_setYield, Cond.instanceMethod yX2_setYield, Cond.selects RX2 yX2_setYield yX2_setYield, Cond.code yX2_setYield cX2_setYield 5 (some .int), Cond.fieldLink RX2 107 "HarvestLender$Farmer" "yieldPercent" "I", Cond.methodLink RL 119 yX3_setYield, Cond.instanceMethod yX3_setYield, Cond.selects RX3 yX3_setYield yX3_setYield, Cond.code yX3_setYield cX3_setYield 4 (some .int), Cond.methodLink RL 120 yL_next, Cond.static yL_next, Cond.codeWith yL_next cL_next 3 (some .int) [(0, 8, 11, 24)], Cond.methodLink RL 39 yX2_next, Cond.instanceMethod yX2_next, Cond.selects RX2 yX2_next yX2_next, Cond.code yX2_next cX2_next 2 (some .int), Cond.methodLink RX2 110 yX1_chargeInterest, Cond.instanceMethod yX1_chargeInterest, Cond.selects RX1 yX1_chargeInterest yX1_chargeInterest, Cond.code yX1_chargeInterest cX1_chargeInterest 1 none]
def wsL_law0_r12 : List Cond := [Cond.constantLong RX1 65 (2), Cond.constantLong RX1 67 (100), Cond.methodLink RX1 69 yX1_charge, Cond.methodLink RX2 113 yX2_harvestAll, Cond.instanceMethod yX2_harvestAll, Cond.selects RX2 yX2_harvestAll yX2_harvestAll, Cond.code yX2_harvestAll cX2_harvestAll 2 none, Cond.methodLink RX2 185 yX1_harvest, Cond.instanceMethod yX1_harvest, Cond.selects RX1 yX1_harvest yX1_harvest, Cond.code yX1_harvest cX1_harvest 5 none, Cond.fieldLink RX1 83 "HarvestLender$Crop" "normal" "I", Cond.fieldLink RX1 88 "HarvestLender$Crop" "price" "I", Cond.methodLink RX1 91 yX1_receive, Cond.instanceMethod yX1_receive, Cond.selects RX1 yX1_receive yX1_receive, Cond.code yX1_receive cX1_receive 6 none, Cond.methodLink RX1 73 Lib.MathLoose.min_long.x, Cond.static Lib.MathLoose.min_long.x, Cond.initialized "java/lang/Math", Cond.code Lib.MathLoose.min_long.x Lib.MathLoose.min_long.code 4 (some .long), Cond.methodLink RX1 79 yX1_lowerDebt, Cond.instanceMethod yX1_lowerDebt, Cond.selects RX1 yX1_lowerDebt yX1_lowerDebt]
def wsL_law0_r13 : List Cond := [Cond.code yX1_lowerDebt cX1_lowerDebt 4 none, Cond.methodLink RL 123 yX3_next, Cond.instanceMethod yX3_next, Cond.selects RX3 yX3_next yX3_next, Cond.code yX3_next cX3_next 2 (some .int), Cond.constantLong RX3 120 (2), Cond.constantLong RX3 115 (100), Cond.methodLink RX3 122 yX3_harvest, Cond.instanceMethod yX3_harvest, Cond.selects RX3 yX3_harvest yX3_harvest, Cond.code yX3_harvest cX3_harvest 4 none, Cond.methodLink RX3 117 yX3_come, Cond.instanceMethod yX3_come, Cond.selects RX3 yX3_come yX3_come, Cond.code yX3_come cX3_come 5 none, Cond.methodLink RX3 97 yX3_lower, Cond.instanceMethod yX3_lower, Cond.selects RX3 yX3_lower yX3_lower, Cond.code yX3_lower cX3_lower 4 none, Cond.methodLink RL 124 yL_pledge, Cond.static yL_pledge, Cond.codeWith yL_pledge cL_pledge 5 (some .int) [(0, 10, 13, 13), (0, 10, 17, 15), (0, 10, 21, 24)], Cond.methodLink RL 43 yX2_pledge, Cond.instanceMethod yX2_pledge]
def wsL_law0_r14 : List Cond := [Cond.selects RX2 yX2_pledge yX2_pledge, Cond.code yX2_pledge cX2_pledge 4 (some .int), Cond.constant RX2 116 (1000000), Cond.methodLink RX2 117 yX1_freeGrain, Cond.instanceMethod yX1_freeGrain, Cond.selects RX1 yX1_freeGrain yX1_freeGrain, Cond.code yX1_freeGrain cX1_freeGrain 1 (some .int), Cond.methodLink RX2 121 yX1_pledgeUnits, Cond.instanceMethod yX1_pledgeUnits, Cond.selects RX1 yX1_pledgeUnits yX1_pledgeUnits, Cond.code yX1_pledgeUnits cX1_pledgeUnits 5 (some .long), Cond.constantLong RX1 94 (60), Cond.methodLink RL 126 yX3_pledge, Cond.instanceMethod yX3_pledge, Cond.selects RX3 yX3_pledge yX3_pledge, Cond.code yX3_pledge cX3_pledge 6 (some .int), Cond.constant RX3 125 (1000000), Cond.constantLong RX3 126 (60), Cond.methodLink RL 127 yL_sell, Cond.static yL_sell, Cond.codeWith yL_sell cL_sell 5 (some .int) [(0, 10, 13, 13), (0, 10, 17, 15), (0, 10, 21, 24)], Cond.methodLink RL 46 yX2_sell, Cond.instanceMethod yX2_sell, Cond.selects RX2 yX2_sell yX2_sell]
def wsL_law0_r15 : List Cond := [Cond.code yX2_sell cX2_sell 4 (some .int), Cond.methodLink RX2 125 yX1_sellUnits, Cond.instanceMethod yX1_sellUnits, Cond.selects RX1 yX1_sellUnits yX1_sellUnits, Cond.code yX1_sellUnits cX1_sellUnits 9 (some .long), Cond.methodLink RX1 100 Lib.Math.min.name, Cond.static Lib.Math.min.name, Cond.code Lib.Math.min.name Lib.Math.min.code 2 (some .int), Cond.methodLink RX1 96 yX1_freeGrain, Cond.methodLink RX1 103 yX1_moveRestOfPledgeDebt, Cond.instanceMethod yX1_moveRestOfPledgeDebt, Cond.selects RX1 yX1_moveRestOfPledgeDebt yX1_moveRestOfPledgeDebt, Cond.code yX1_moveRestOfPledgeDebt cX1_moveRestOfPledgeDebt 1 none, Cond.methodLink RL 129 yX3_sell, Cond.instanceMethod yX3_sell, Cond.selects RX3 yX3_sell yX3_sell, Cond.code yX3_sell cX3_sell 9 (some .int), Cond.methodLink RL 130 yL_repay, Cond.static yL_repay, Cond.codeWith yL_repay cL_repay 5 (some .int) [(0, 10, 13, 13), (0, 10, 17, 15), (0, 10, 21, 24)], Cond.methodLink RL 49 yX2_repay, Cond.instanceMethod yX2_repay, Cond.selects RX2 yX2_repay yX2_repay, Cond.code yX2_repay cX2_repay 4 (some .int)]
def wsL_law0_r16 : List Cond := [Cond.fieldLink RX2 128 "HarvestLender$Farmer" "debt" "J", Cond.fieldLink RX2 132 "HarvestLender$Farmer" "purse" "J", Cond.methodLink RX2 135 yX1_repayFromPurse, Cond.instanceMethod yX1_repayFromPurse, Cond.selects RX1 yX1_repayFromPurse yX1_repayFromPurse, Cond.code yX1_repayFromPurse cX1_repayFromPurse 3 none, Cond.methodLink RL 132 yX3_repay, Cond.instanceMethod yX3_repay, Cond.selects RX3 yX3_repay yX3_repay, Cond.code yX3_repay cX3_repay 5 (some .int), Cond.methodLink RL 133 yL_close, Cond.static yL_close, Cond.codeWith yL_close cL_close 3 (some .int) [(0, 8, 11, 24)], Cond.methodLink RL 52 yX2_close, Cond.instanceMethod yX2_close, Cond.selects RX2 yX2_close yX2_close, Cond.code yX2_close cX2_close 2 (some .int), Cond.methodLink RX2 138 yX1_settleFromPurse, Cond.instanceMethod yX1_settleFromPurse, Cond.selects RX1 yX1_settleFromPurse yX1_settleFromPurse, Cond.code yX1_settleFromPurse cX1_settleFromPurse 1 none, Cond.methodLink RX1 106 yX1_takeInstalment, Cond.instanceMethod yX1_takeInstalment, Cond.selects RX1 yX1_takeInstalment yX1_takeInstalment]
def wsL_law0_r17 : List Cond := [Cond.code yX1_takeInstalment cX1_takeInstalment 2 (some .long), Cond.methodLink RX1 110 yX1_repayFromPurse, Cond.methodLink RX2 141 yX2_settleRest, Cond.instanceMethod yX2_settleRest, Cond.selects RX2 yX2_settleRest yX2_settleRest, Cond.code yX2_settleRest cX2_settleRest 2 none, Cond.methodLink RX2 189 yX1_mayRoll, Cond.instanceMethod yX1_mayRoll, Cond.selects RX1 yX1_mayRoll yX1_mayRoll, Cond.code yX1_mayRoll cX1_mayRoll 1 (some .boolean), Cond.methodLink RX1 113 yX1_hasPlanted, Cond.methodLink RX2 192 yX1_rollDebt, Cond.instanceMethod yX1_rollDebt, Cond.selects RX1 yX1_rollDebt yX1_rollDebt, Cond.code yX1_rollDebt cX1_rollDebt 4 none, Cond.constantLong RX1 117 (3), Cond.methodLink RX2 195 yX2_collectFromGroup, Cond.instanceMethod yX2_collectFromGroup, Cond.selects RX2 yX2_collectFromGroup yX2_collectFromGroup, Cond.code yX2_collectFromGroup cX2_collectFromGroup 3 none, Cond.methodLink RX2 198 yX1_payFor, Cond.instanceMethod yX1_payFor, Cond.selects RX1 yX1_payFor yX1_payFor, Cond.code yX1_payFor cX1_payFor 4 none]
def wsL_law0_r18 : List Cond := [Cond.constantLong RX1 119 (20000), Cond.methodLink RX2 145 yX1_forgetSeason, Cond.instanceMethod yX1_forgetSeason, Cond.selects RX1 yX1_forgetSeason yX1_forgetSeason, Cond.code yX1_forgetSeason cX1_forgetSeason 1 none, Cond.methodLink RL 135 yX3_close, Cond.instanceMethod yX3_close, Cond.selects RX3 yX3_close yX3_close, Cond.code yX3_close cX3_close 3 (some .int), Cond.fieldLink RX3 128 "HarvestLenderModel" "season" "I", Cond.methodLink RX3 131 yX3_settle, Cond.instanceMethod yX3_settle, Cond.selects RX3 yX3_settle yX3_settle, Cond.code yX3_settle cX3_settle 3 none, Cond.methodLink RX3 134 yX3_roll, Cond.instanceMethod yX3_roll, Cond.selects RX3 yX3_roll yX3_roll, Cond.code yX3_roll cX3_roll 3 none, Cond.methodLink RX3 137 yX3_call, Cond.instanceMethod yX3_call, Cond.selects RX3 yX3_call yX3_call, Cond.code yX3_call cX3_call 5 none, Cond.methodLink RL 136 yX2_season, Cond.instanceMethod yX2_season]
def wsL_law0_r19 : List Cond := [Cond.selects RX2 yX2_season yX2_season, Cond.code yX2_season cX2_season 1 (some .int), Cond.methodLink RL 139 yX3_season, Cond.instanceMethod yX3_season, Cond.selects RX3 yX3_season yX3_season, Cond.code yX3_season cX3_season 1 (some .int), Cond.methodLink RL 140 yX2_stage, Cond.instanceMethod yX2_stage, Cond.selects RX2 yX2_stage yX2_stage, Cond.code yX2_stage cX2_stage 1 (some .int), Cond.methodLink RL 143 yX3_stage, Cond.instanceMethod yX3_stage, Cond.selects RX3 yX3_stage yX3_stage, Cond.code yX3_stage cX3_stage 1 (some .int), Cond.methodLink RL 144 yL_limit, Cond.static yL_limit, Cond.codeWith yL_limit cL_limit 4 (some .int) [(0, 9, 12, 13)], Cond.methodLink RL 55 yX2_limit, Cond.instanceMethod yX2_limit, Cond.selects RX2 yX2_limit yX2_limit, Cond.code yX2_limit cX2_limit 2 (some .int), Cond.methodLink RL 146 yX3_limit, Cond.instanceMethod yX3_limit, Cond.selects RX3 yX3_limit yX3_limit]
def wsL_law0_r20 : List Cond := [Cond.code yX3_limit cX3_limit 2 (some .int), Cond.methodLink RX3 140 yX3_noFarmer, Cond.instanceMethod yX3_noFarmer, Cond.selects RX3 yX3_noFarmer yX3_noFarmer, Cond.code yX3_noFarmer cX3_noFarmer 2 (some .boolean), Cond.methodLink RL 147 yL_debt, Cond.static yL_debt, Cond.codeWith yL_debt cL_debt 4 (some .int) [(0, 9, 12, 13)], Cond.methodLink RL 58 yX2_debt, Cond.instanceMethod yX2_debt, Cond.selects RX2 yX2_debt yX2_debt, Cond.code yX2_debt cX2_debt 2 (some .int), Cond.methodLink RL 149 yX3_debt, Cond.instanceMethod yX3_debt, Cond.selects RX3 yX3_debt yX3_debt, Cond.code yX3_debt cX3_debt 2 (some .int), Cond.methodLink RL 150 yL_owes, Cond.static yL_owes, Cond.codeWith yL_owes cL_owes 4 (some .int) [(0, 9, 12, 13)], Cond.methodLink RL 61 yX2_owes, Cond.instanceMethod yX2_owes, Cond.selects RX2 yX2_owes yX2_owes, Cond.code yX2_owes cX2_owes 3 (some .int), Cond.fieldLink RX2 148 "HarvestLender$Farmer" "pledgeDebt" "J"]
def wsL_law0_r21 : List Cond := [Cond.methodLink RX2 151 yX1_instalmentSum, Cond.instanceMethod yX1_instalmentSum, Cond.selects RX1 yX1_instalmentSum yX1_instalmentSum, Cond.code yX1_instalmentSum cX1_instalmentSum 4 (some .long), Cond.methodLink RL 152 yX3_owes, Cond.instanceMethod yX3_owes, Cond.selects RX3 yX3_owes yX3_owes, Cond.code yX3_owes cX3_owes 4 (some .int), Cond.methodLink RL 153 yL_instalments, Cond.static yL_instalments, Cond.codeWith yL_instalments cL_instalments 4 (some .int) [(0, 9, 12, 13)], Cond.methodLink RL 64 yX2_instalments, Cond.instanceMethod yX2_instalments, Cond.selects RX2 yX2_instalments yX2_instalments, Cond.code yX2_instalments cX2_instalments 2 (some .int), Cond.fieldLink RX2 155 "HarvestLender$Farmer" "instalmentsLeft" "I", Cond.methodLink RL 155 yX3_instalments, Cond.instanceMethod yX3_instalments, Cond.selects RX3 yX3_instalments yX3_instalments, Cond.code yX3_instalments cX3_instalments 2 (some .int), Cond.methodLink RL 156 yL_purse, Cond.static yL_purse, Cond.codeWith yL_purse cL_purse 4 (some .int) [(0, 9, 12, 13)], Cond.methodLink RL 67 yX2_purse]
def wsL_law0_r22 : List Cond := [Cond.instanceMethod yX2_purse, Cond.selects RX2 yX2_purse yX2_purse, Cond.code yX2_purse cX2_purse 2 (some .int), Cond.methodLink RL 158 yX3_purse, Cond.instanceMethod yX3_purse, Cond.selects RX3 yX3_purse yX3_purse, Cond.code yX3_purse cX3_purse 2 (some .int), Cond.methodLink RL 159 yL_grain, Cond.static yL_grain, Cond.codeWith yL_grain cL_grain 5 (some .int) [(0, 10, 13, 13)], Cond.methodLink RL 70 yX2_grain, Cond.instanceMethod yX2_grain, Cond.selects RX2 yX2_grain yX2_grain, Cond.code yX2_grain cX2_grain 4 (some .int), Cond.fieldLink RX2 158 "HarvestLender$Farmer" "pledgedGrain" "I", Cond.methodLink RL 162 yX3_grain, Cond.instanceMethod yX3_grain, Cond.selects RX3 yX3_grain yX3_grain, Cond.code yX3_grain cX3_grain 3 (some .int), Cond.methodLink RL 163 yL_called, Cond.static yL_called, Cond.codeWith yL_called cL_called 4 (some .int) [(0, 9, 12, 13)], Cond.methodLink RL 74 yX2_called, Cond.instanceMethod yX2_called]
def wsL_law0_r23 : List Cond := [Cond.selects RX2 yX2_called yX2_called, Cond.code yX2_called cX2_called 2 (some .int), Cond.fieldLink RX2 161 "HarvestLender$Farmer" "called" "J", Cond.methodLink RL 165 yX3_called, Cond.instanceMethod yX3_called, Cond.selects RX3 yX3_called yX3_called, Cond.code yX3_called cX3_called 2 (some .int), Cond.methodLink RL 166 yL_repaid, Cond.static yL_repaid, Cond.codeWith yL_repaid cL_repaid 5 (some .int) [(0, 10, 13, 13), (0, 10, 17, 15)], Cond.methodLink RL 77 yX2_repaid, Cond.instanceMethod yX2_repaid, Cond.selects RX2 yX2_repaid yX2_repaid, Cond.code yX2_repaid cX2_repaid 4 (some .int), Cond.fieldLink RX2 164 "HarvestLender$Farmer" "repaid" "[J", Cond.methodLink RL 168 yX3_repaid, Cond.instanceMethod yX3_repaid, Cond.selects RX3 yX3_repaid yX3_repaid, Cond.code yX3_repaid cX3_repaid 3 (some .int), Cond.methodLink RL 169 yL_charged, Cond.static yL_charged, Cond.codeWith yL_charged cL_charged 4 (some .int) [(0, 9, 12, 13)], Cond.methodLink RL 80 yX2_charged, Cond.instanceMethod yX2_charged]
def wsL_law0_r24 : List Cond := [Cond.selects RX2 yX2_charged yX2_charged, Cond.code yX2_charged cX2_charged 2 (some .int), Cond.fieldLink RX2 168 "HarvestLender$Farmer" "charged" "J", Cond.methodLink RL 171 yX3_charged, Cond.instanceMethod yX3_charged, Cond.selects RX3 yX3_charged yX3_charged, Cond.code yX3_charged cX3_charged 2 (some .int)]
def wsL_law0 : List Cond := (wsL_law0_r1 ++ (wsL_law0_r2 ++ (wsL_law0_r3 ++ (wsL_law0_r4 ++ (wsL_law0_r5 ++ (wsL_law0_r6 ++ (wsL_law0_r7 ++ (wsL_law0_r8 ++ (wsL_law0_r9 ++ (wsL_law0_r10 ++ (wsL_law0_r11 ++ (wsL_law0_r12 ++ (wsL_law0_r13 ++ (wsL_law0_r14 ++ (wsL_law0_r15 ++ (wsL_law0_r16 ++ (wsL_law0_r17 ++ (wsL_law0_r18 ++ (wsL_law0_r19 ++ (wsL_law0_r20 ++ (wsL_law0_r21 ++ (wsL_law0_r22 ++ (wsL_law0_r23 ++ wsL_law0_r24))))))))))))))))))))))) ++ wsX20 ++ wsX30 ++ wsX00 ++ wsX10 ++ ([] : List Cond)
def wsL_law : List Cond := wsL_law0 ++ (vx_atS RX2 41 "java/lang/IndexOutOfBoundsException" ["java/lang/RuntimeException", "java/lang/Exception"]).filter goodWord ++ (vx_atS RX2 179 "java/lang/IllegalArgumentException" ["java/lang/RuntimeException", "java/lang/Exception"]).filter goodWord ++ (vx_atS RX2 184 "java/lang/IllegalStateException" ["java/lang/RuntimeException", "java/lang/Exception"]).filter goodWord
abbrev vwCl : List vw_C := [(RX0, TX0, 3), (RX1, TX1, 17), (RX2, TX2, 5), (RX3, TX3, 24)]
end
section
set_option maxRecDepth 100000 in
set_option maxHeartbeats 4000000 in
theorem wsL_in_r1 : ∀ w ∈ wsL_law0_r1, w ∈ lw_tbl := List.forall_mem_cons.mpr ⟨List.mem_of_getElem? (i := 32) (by decide +kernel), List.forall_mem_cons.mpr ⟨List.mem_of_getElem? (i := 33) (by decide +kernel), List.forall_mem_cons.mpr ⟨List.mem_of_getElem? (i := 21) (by decide +kernel), List.forall_mem_cons.mpr ⟨List.mem_of_getElem? (i := 544) (by decide +kernel), List.forall_mem_cons.mpr ⟨List.mem_of_getElem? (i := 545) (by decide +kernel), List.forall_mem_cons.mpr ⟨List.mem_of_getElem? (i := 24) (by decide +kernel), List.forall_mem_cons.mpr ⟨List.mem_of_getElem? (i := 138) (by decide +kernel), List.forall_mem_cons.mpr ⟨List.mem_of_getElem? (i := 34) (by decide +kernel), List.forall_mem_cons.mpr ⟨List.mem_of_getElem? (i := 35) (by decide +kernel), List.forall_mem_cons.mpr ⟨List.mem_of_getElem? (i := 36) rfl, List.forall_mem_cons.mpr ⟨List.mem_of_getElem? (i := 37) (by decide +kernel), List.forall_mem_cons.mpr ⟨List.mem_of_getElem? (i := 38) (by decide +kernel), List.forall_mem_cons.mpr ⟨List.mem_of_getElem? (i := 39) rfl, List.forall_mem_cons.mpr ⟨List.mem_of_getElem? (i := 40) (by decide +kernel), List.forall_mem_cons.mpr ⟨List.mem_of_getElem? (i := 139) (by decide +kernel), List.forall_mem_cons.mpr ⟨List.mem_of_getElem? (i := 42) (by decide +kernel), List.forall_mem_cons.mpr ⟨List.mem_of_getElem? (i := 140) (by decide +kernel), List.forall_mem_cons.mpr ⟨List.mem_of_getElem? (i := 141) (by decide +kernel), List.forall_mem_cons.mpr ⟨List.mem_of_getElem? (i := 142) (by decide +kernel), List.forall_mem_cons.mpr ⟨List.mem_of_getElem? (i := 143) (by decide +kernel), List.forall_mem_cons.mpr ⟨List.mem_of_getElem? (i := 44) (by decide +kernel), List.forall_mem_cons.mpr ⟨List.mem_of_getElem? (i := 22) (by decide +kernel), List.forall_mem_cons.mpr ⟨List.mem_of_getElem? (i := 65) (by decide +kernel), List.forall_mem_cons.mpr ⟨List.mem_of_getElem? (i := 23) (by decide +kernel), fun _ h => absurd h List.not_mem_nil⟩⟩⟩⟩⟩⟩⟩⟩⟩⟩⟩⟩⟩⟩⟩⟩⟩⟩⟩⟩⟩⟩⟩⟩
set_option maxRecDepth 100000 in
set_option maxHeartbeats 4000000 in
theorem wsL_in_r2 : ∀ w ∈ wsL_law0_r2, w ∈ lw_tbl := List.forall_mem_cons.mpr ⟨List.mem_of_getElem? (i := 45) (by decide +kernel), List.forall_mem_cons.mpr ⟨List.mem_of_getElem? (i := 46) (by decide +kernel), List.forall_mem_cons.mpr ⟨List.mem_of_getElem? (i := 47) rfl, List.forall_mem_cons.mpr ⟨List.mem_of_getElem? (i := 48) (by decide +kernel), List.forall_mem_cons.mpr ⟨List.mem_of_getElem? (i := 64) (by decide +kernel), List.forall_mem_cons.mpr ⟨List.mem_of_getElem? (i := 49) (by decide +kernel), List.forall_mem_cons.mpr ⟨List.mem_of_getElem? (i := 51) (by decide +kernel), List.forall_mem_cons.mpr ⟨List.mem_of_getElem? (i := 54) (by decide +kernel), List.forall_mem_cons.mpr ⟨List.mem_of_getElem? (i := 67) (by decide +kernel), List.forall_mem_cons.mpr ⟨List.mem_of_getElem? (i := 68) rfl, List.forall_mem_cons.mpr ⟨List.mem_of_getElem? (i := 69) (by decide +kernel), List.forall_mem_cons.mpr ⟨List.mem_of_getElem? (i := 70) (by decide +kernel), List.forall_mem_cons.mpr ⟨List.mem_of_getElem? (i := 72) (by decide +kernel), List.forall_mem_cons.mpr ⟨List.mem_of_getElem? (i := 74) (by decide +kernel), List.forall_mem_cons.mpr ⟨List.mem_of_getElem? (i := 76) (by decide +kernel), List.forall_mem_cons.mpr ⟨List.mem_of_getElem? (i := 78) (by decide +kernel), List.forall_mem_cons.mpr ⟨List.mem_of_getElem? (i := 80) (by decide +kernel), List.forall_mem_cons.mpr ⟨List.mem_of_getElem? (i := 82) (by decide +kernel), List.forall_mem_cons.mpr ⟨List.mem_of_getElem? (i := 84) (by decide +kernel), List.forall_mem_cons.mpr ⟨List.mem_of_getElem? (i := 85) (by decide +kernel), List.forall_mem_cons.mpr ⟨List.mem_of_getElem? (i := 87) (by decide +kernel), List.forall_mem_cons.mpr ⟨List.mem_of_getElem? (i := 89) (by decide +kernel), List.forall_mem_cons.mpr ⟨List.mem_of_getElem? (i := 91) (by decide +kernel), List.forall_mem_cons.mpr ⟨List.mem_of_getElem? (i := 93) (by decide +kernel), fun _ h => absurd h List.not_mem_nil⟩⟩⟩⟩⟩⟩⟩⟩⟩⟩⟩⟩⟩⟩⟩⟩⟩⟩⟩⟩⟩⟩⟩⟩
set_option maxRecDepth 100000 in
set_option maxHeartbeats 4000000 in
theorem wsL_in_r3 : ∀ w ∈ wsL_law0_r3, w ∈ lw_tbl := List.forall_mem_cons.mpr ⟨List.mem_of_getElem? (i := 95) (by decide +kernel), List.forall_mem_cons.mpr ⟨List.mem_of_getElem? (i := 97) (by decide +kernel), List.forall_mem_cons.mpr ⟨List.mem_of_getElem? (i := 99) (by decide +kernel), List.forall_mem_cons.mpr ⟨List.mem_of_getElem? (i := 101) (by decide +kernel), List.forall_mem_cons.mpr ⟨List.mem_of_getElem? (i := 546) (by decide +kernel), List.forall_mem_cons.mpr ⟨List.mem_of_getElem? (i := 547) (by decide +kernel), List.forall_mem_cons.mpr ⟨List.mem_of_getElem? (i := 548) rfl, List.forall_mem_cons.mpr ⟨List.mem_of_getElem? (i := 549) (by decide +kernel), List.forall_mem_cons.mpr ⟨List.mem_of_getElem? (i := 553) (by decide +kernel), List.forall_mem_cons.mpr ⟨List.mem_of_getElem? (i := 554) (by decide +kernel), List.forall_mem_cons.mpr ⟨List.mem_of_getElem? (i := 555) (by decide +kernel), List.forall_mem_cons.mpr ⟨List.mem_of_getElem? (i := 557) (by decide +kernel), List.forall_mem_cons.mpr ⟨List.mem_of_getElem? (i := 558) (by decide +kernel), List.forall_mem_cons.mpr ⟨List.mem_of_getElem? (i := 559) (by decide +kernel), List.forall_mem_cons.mpr ⟨List.mem_of_getElem? (i := 560) (by decide +kernel), List.forall_mem_cons.mpr ⟨List.mem_of_getElem? (i := 561) (by decide +kernel), List.forall_mem_cons.mpr ⟨List.mem_of_getElem? (i := 562) (by decide +kernel), List.forall_mem_cons.mpr ⟨List.mem_of_getElem? (i := 563) (by decide +kernel), List.forall_mem_cons.mpr ⟨List.mem_of_getElem? (i := 564) (by decide +kernel), List.forall_mem_cons.mpr ⟨List.mem_of_getElem? (i := 565) (by decide +kernel), List.forall_mem_cons.mpr ⟨List.mem_of_getElem? (i := 566) (by decide +kernel), List.forall_mem_cons.mpr ⟨List.mem_of_getElem? (i := 567) (by decide +kernel), List.forall_mem_cons.mpr ⟨List.mem_of_getElem? (i := 568) (by decide +kernel), List.forall_mem_cons.mpr ⟨List.mem_of_getElem? (i := 569) (by decide +kernel), fun _ h => absurd h List.not_mem_nil⟩⟩⟩⟩⟩⟩⟩⟩⟩⟩⟩⟩⟩⟩⟩⟩⟩⟩⟩⟩⟩⟩⟩⟩
set_option maxRecDepth 100000 in
set_option maxHeartbeats 4000000 in
theorem wsL_in_r4 : ∀ w ∈ wsL_law0_r4, w ∈ lw_tbl := List.forall_mem_cons.mpr ⟨List.mem_of_getElem? (i := 570) (by decide +kernel), List.forall_mem_cons.mpr ⟨List.mem_of_getElem? (i := 571) (by decide +kernel), List.forall_mem_cons.mpr ⟨List.mem_of_getElem? (i := 572) (by decide +kernel), List.forall_mem_cons.mpr ⟨List.mem_of_getElem? (i := 573) (by decide +kernel), List.forall_mem_cons.mpr ⟨List.mem_of_getElem? (i := 167) (by decide +kernel), List.forall_mem_cons.mpr ⟨List.mem_of_getElem? (i := 168) (by decide +kernel), List.forall_mem_cons.mpr ⟨List.mem_of_getElem? (i := 20) (by decide +kernel), List.forall_mem_cons.mpr ⟨List.mem_of_getElem? (i := 169) rfl, List.forall_mem_cons.mpr ⟨List.mem_of_getElem? (i := 170) (by decide +kernel), List.forall_mem_cons.mpr ⟨List.mem_of_getElem? (i := 171) (by decide +kernel), List.forall_mem_cons.mpr ⟨List.mem_of_getElem? (i := 172) (by decide +kernel), List.forall_mem_cons.mpr ⟨List.mem_of_getElem? (i := 173) (by decide +kernel), List.forall_mem_cons.mpr ⟨List.mem_of_getElem? (i := 174) (by decide +kernel), List.forall_mem_cons.mpr ⟨List.mem_of_getElem? (i := 175) rfl, List.forall_mem_cons.mpr ⟨List.mem_of_getElem? (i := 180) (by decide +kernel), List.forall_mem_cons.mpr ⟨List.mem_of_getElem? (i := 28) (by decide +kernel), List.forall_mem_cons.mpr ⟨List.mem_of_getElem? (i := 249) (by decide +kernel), List.forall_mem_cons.mpr ⟨List.mem_of_getElem? (i := 50) (by decide +kernel), List.forall_mem_cons.mpr ⟨List.mem_of_getElem? (i := 176) (by decide +kernel), List.forall_mem_cons.mpr ⟨List.mem_of_getElem? (i := 178) (by decide +kernel), List.forall_mem_cons.mpr ⟨List.mem_of_getElem? (i := 0) (by decide +kernel), List.forall_mem_cons.mpr ⟨List.mem_of_getElem? (i := 179) rfl, List.forall_mem_cons.mpr ⟨List.mem_of_getElem? (i := 250) (by decide +kernel), List.forall_mem_cons.mpr ⟨List.mem_of_getElem? (i := 251) (by decide +kernel), fun _ h => absurd h List.not_mem_nil⟩⟩⟩⟩⟩⟩⟩⟩⟩⟩⟩⟩⟩⟩⟩⟩⟩⟩⟩⟩⟩⟩⟩⟩
set_option maxRecDepth 100000 in
set_option maxHeartbeats 4000000 in
theorem wsL_in_r5 : ∀ w ∈ wsL_law0_r5, w ∈ lw_tbl := List.forall_mem_cons.mpr ⟨List.mem_of_getElem? (i := 252) rfl, List.forall_mem_cons.mpr ⟨List.mem_of_getElem? (i := 253) (by decide +kernel), List.forall_mem_cons.mpr ⟨List.mem_of_getElem? (i := 29) (by decide +kernel), List.forall_mem_cons.mpr ⟨List.mem_of_getElem? (i := 627) (by decide +kernel), List.forall_mem_cons.mpr ⟨List.mem_of_getElem? (i := 628) (by decide +kernel), List.forall_mem_cons.mpr ⟨List.mem_of_getElem? (i := 629) (by decide +kernel), List.forall_mem_cons.mpr ⟨List.mem_of_getElem? (i := 630) rfl, List.forall_mem_cons.mpr ⟨List.mem_of_getElem? (i := 637) (by decide +kernel), List.forall_mem_cons.mpr ⟨List.mem_of_getElem? (i := 631) (by decide +kernel), List.forall_mem_cons.mpr ⟨List.mem_of_getElem? (i := 632) (by decide +kernel), List.forall_mem_cons.mpr ⟨List.mem_of_getElem? (i := 633) rfl, List.forall_mem_cons.mpr ⟨List.mem_of_getElem? (i := 634) (by decide +kernel), List.forall_mem_cons.mpr ⟨List.mem_of_getElem? (i := 635) (by decide +kernel), List.forall_mem_cons.mpr ⟨List.mem_of_getElem? (i := 636) rfl, List.forall_mem_cons.mpr ⟨List.mem_of_getElem? (i := 638) (by decide +kernel), List.forall_mem_cons.mpr ⟨List.mem_of_getElem? (i := 640) (by decide +kernel), List.forall_mem_cons.mpr ⟨List.mem_of_getElem? (i := 7) (by decide +kernel), List.forall_mem_cons.mpr ⟨List.mem_of_getElem? (i := 641) rfl, List.forall_mem_cons.mpr ⟨List.mem_of_getElem? (i := 550) (by decide +kernel), List.forall_mem_cons.mpr ⟨List.mem_of_getElem? (i := 623) (by decide +kernel), List.forall_mem_cons.mpr ⟨List.mem_of_getElem? (i := 624) (by decide +kernel), List.forall_mem_cons.mpr ⟨List.mem_of_getElem? (i := 625) (by decide +kernel), List.forall_mem_cons.mpr ⟨List.mem_of_getElem? (i := 626) rfl, List.forall_mem_cons.mpr ⟨List.mem_of_getElem? (i := 269) (by decide +kernel), fun _ h => absurd h List.not_mem_nil⟩⟩⟩⟩⟩⟩⟩⟩⟩⟩⟩⟩⟩⟩⟩⟩⟩⟩⟩⟩⟩⟩⟩⟩
set_option maxRecDepth 100000 in
set_option maxHeartbeats 4000000 in
theorem wsL_in_r6 : ∀ w ∈ wsL_law0_r6, w ∈ lw_tbl := List.forall_mem_cons.mpr ⟨List.mem_of_getElem? (i := 270) (by decide +kernel), List.forall_mem_cons.mpr ⟨List.mem_of_getElem? (i := 271) rfl, List.forall_mem_cons.mpr ⟨List.mem_of_getElem? (i := 272) (by decide +kernel), List.forall_mem_cons.mpr ⟨List.mem_of_getElem? (i := 273) (by decide +kernel), List.forall_mem_cons.mpr ⟨List.mem_of_getElem? (i := 274) (by decide +kernel), List.forall_mem_cons.mpr ⟨List.mem_of_getElem? (i := 275) rfl, List.forall_mem_cons.mpr ⟨List.mem_of_getElem? (i := 52) (by decide +kernel), List.forall_mem_cons.mpr ⟨List.mem_of_getElem? (i := 55) (by decide +kernel), List.forall_mem_cons.mpr ⟨List.mem_of_getElem? (i := 642) (by decide +kernel), List.forall_mem_cons.mpr ⟨List.mem_of_getElem? (i := 643) (by decide +kernel), List.forall_mem_cons.mpr ⟨List.mem_of_getElem? (i := 644) (by decide +kernel), List.forall_mem_cons.mpr ⟨List.mem_of_getElem? (i := 645) rfl, List.forall_mem_cons.mpr ⟨List.mem_of_getElem? (i := 276) (by decide +kernel), List.forall_mem_cons.mpr ⟨List.mem_of_getElem? (i := 277) (by decide +kernel), List.forall_mem_cons.mpr ⟨List.mem_of_getElem? (i := 278) rfl, List.forall_mem_cons.mpr ⟨List.mem_of_getElem? (i := 279) (by decide +kernel), List.forall_mem_cons.mpr ⟨List.mem_of_getElem? (i := 280) (by decide +kernel), List.forall_mem_cons.mpr ⟨List.mem_of_getElem? (i := 281) (by decide +kernel), List.forall_mem_cons.mpr ⟨List.mem_of_getElem? (i := 282) (by decide +kernel), List.forall_mem_cons.mpr ⟨List.mem_of_getElem? (i := 283) rfl, List.forall_mem_cons.mpr ⟨List.mem_of_getElem? (i := 71) (by decide +kernel), List.forall_mem_cons.mpr ⟨List.mem_of_getElem? (i := 285) (by decide +kernel), List.forall_mem_cons.mpr ⟨List.mem_of_getElem? (i := 286) (by decide +kernel), List.forall_mem_cons.mpr ⟨List.mem_of_getElem? (i := 287) rfl, fun _ h => absurd h List.not_mem_nil⟩⟩⟩⟩⟩⟩⟩⟩⟩⟩⟩⟩⟩⟩⟩⟩⟩⟩⟩⟩⟩⟩⟩⟩
set_option maxRecDepth 100000 in
set_option maxHeartbeats 4000000 in
theorem wsL_in_r7 : ∀ w ∈ wsL_law0_r7, w ∈ lw_tbl := List.forall_mem_cons.mpr ⟨List.mem_of_getElem? (i := 288) (by decide +kernel), List.forall_mem_cons.mpr ⟨List.mem_of_getElem? (i := 30) (by decide +kernel), List.forall_mem_cons.mpr ⟨List.mem_of_getElem? (i := 646) (by decide +kernel), List.forall_mem_cons.mpr ⟨List.mem_of_getElem? (i := 647) (by decide +kernel), List.forall_mem_cons.mpr ⟨List.mem_of_getElem? (i := 648) (by decide +kernel), List.forall_mem_cons.mpr ⟨List.mem_of_getElem? (i := 649) rfl, List.forall_mem_cons.mpr ⟨List.mem_of_getElem? (i := 556) (by decide +kernel), List.forall_mem_cons.mpr ⟨List.mem_of_getElem? (i := 650) (by decide +kernel), List.forall_mem_cons.mpr ⟨List.mem_of_getElem? (i := 652) (by decide +kernel), List.forall_mem_cons.mpr ⟨List.mem_of_getElem? (i := 8) (by decide +kernel), List.forall_mem_cons.mpr ⟨List.mem_of_getElem? (i := 653) rfl, List.forall_mem_cons.mpr ⟨List.mem_of_getElem? (i := 155) (by decide +kernel), List.forall_mem_cons.mpr ⟨List.mem_of_getElem? (i := 156) (by decide +kernel), List.forall_mem_cons.mpr ⟨List.mem_of_getElem? (i := 157) (by decide +kernel), List.forall_mem_cons.mpr ⟨List.mem_of_getElem? (i := 158) rfl, List.forall_mem_cons.mpr ⟨List.mem_of_getElem? (i := 654) (by decide +kernel), List.forall_mem_cons.mpr ⟨List.mem_of_getElem? (i := 655) (by decide +kernel), List.forall_mem_cons.mpr ⟨List.mem_of_getElem? (i := 656) (by decide +kernel), List.forall_mem_cons.mpr ⟨List.mem_of_getElem? (i := 657) rfl, List.forall_mem_cons.mpr ⟨List.mem_of_getElem? (i := 658) (by decide +kernel), List.forall_mem_cons.mpr ⟨List.mem_of_getElem? (i := 660) (by decide +kernel), List.forall_mem_cons.mpr ⟨List.mem_of_getElem? (i := 9) (by decide +kernel), List.forall_mem_cons.mpr ⟨List.mem_of_getElem? (i := 661) rfl, List.forall_mem_cons.mpr ⟨List.mem_of_getElem? (i := 304) (by decide +kernel), fun _ h => absurd h List.not_mem_nil⟩⟩⟩⟩⟩⟩⟩⟩⟩⟩⟩⟩⟩⟩⟩⟩⟩⟩⟩⟩⟩⟩⟩⟩
set_option maxRecDepth 100000 in
set_option maxHeartbeats 4000000 in
theorem wsL_in_r8 : ∀ w ∈ wsL_law0_r8, w ∈ lw_tbl := List.forall_mem_cons.mpr ⟨List.mem_of_getElem? (i := 305) (by decide +kernel), List.forall_mem_cons.mpr ⟨List.mem_of_getElem? (i := 306) rfl, List.forall_mem_cons.mpr ⟨List.mem_of_getElem? (i := 307) (by decide +kernel), List.forall_mem_cons.mpr ⟨List.mem_of_getElem? (i := 308) (by decide +kernel), List.forall_mem_cons.mpr ⟨List.mem_of_getElem? (i := 309) (by decide +kernel), List.forall_mem_cons.mpr ⟨List.mem_of_getElem? (i := 310) rfl, List.forall_mem_cons.mpr ⟨List.mem_of_getElem? (i := 88) (by decide +kernel), List.forall_mem_cons.mpr ⟨List.mem_of_getElem? (i := 92) (by decide +kernel), List.forall_mem_cons.mpr ⟨List.mem_of_getElem? (i := 94) (by decide +kernel), List.forall_mem_cons.mpr ⟨List.mem_of_getElem? (i := 96) (by decide +kernel), List.forall_mem_cons.mpr ⟨List.mem_of_getElem? (i := 311) (by decide +kernel), List.forall_mem_cons.mpr ⟨List.mem_of_getElem? (i := 313) (by decide +kernel), List.forall_mem_cons.mpr ⟨List.mem_of_getElem? (i := 2) (by decide +kernel), List.forall_mem_cons.mpr ⟨List.mem_of_getElem? (i := 314) rfl, List.forall_mem_cons.mpr ⟨List.mem_of_getElem? (i := 316) (by decide +kernel), List.forall_mem_cons.mpr ⟨List.mem_of_getElem? (i := 317) (by decide +kernel), List.forall_mem_cons.mpr ⟨List.mem_of_getElem? (i := 318) (by decide +kernel), List.forall_mem_cons.mpr ⟨List.mem_of_getElem? (i := 319) rfl, List.forall_mem_cons.mpr ⟨List.mem_of_getElem? (i := 320) (by decide +kernel), List.forall_mem_cons.mpr ⟨List.mem_of_getElem? (i := 321) (by decide +kernel), List.forall_mem_cons.mpr ⟨List.mem_of_getElem? (i := 322) (by decide +kernel), List.forall_mem_cons.mpr ⟨List.mem_of_getElem? (i := 323) rfl, List.forall_mem_cons.mpr ⟨List.mem_of_getElem? (i := 662) (by decide +kernel), List.forall_mem_cons.mpr ⟨List.mem_of_getElem? (i := 663) (by decide +kernel), fun _ h => absurd h List.not_mem_nil⟩⟩⟩⟩⟩⟩⟩⟩⟩⟩⟩⟩⟩⟩⟩⟩⟩⟩⟩⟩⟩⟩⟩⟩
set_option maxRecDepth 100000 in
set_option maxHeartbeats 4000000 in
theorem wsL_in_r9 : ∀ w ∈ wsL_law0_r9, w ∈ lw_tbl := List.forall_mem_cons.mpr ⟨List.mem_of_getElem? (i := 664) (by decide +kernel), List.forall_mem_cons.mpr ⟨List.mem_of_getElem? (i := 665) rfl, List.forall_mem_cons.mpr ⟨List.mem_of_getElem? (i := 552) (by decide +kernel), List.forall_mem_cons.mpr ⟨List.mem_of_getElem? (i := 666) (by decide +kernel), List.forall_mem_cons.mpr ⟨List.mem_of_getElem? (i := 668) (by decide +kernel), List.forall_mem_cons.mpr ⟨List.mem_of_getElem? (i := 10) (by decide +kernel), List.forall_mem_cons.mpr ⟨List.mem_of_getElem? (i := 669) rfl, List.forall_mem_cons.mpr ⟨List.mem_of_getElem? (i := 670) (by decide +kernel), List.forall_mem_cons.mpr ⟨List.mem_of_getElem? (i := 672) (by decide +kernel), List.forall_mem_cons.mpr ⟨List.mem_of_getElem? (i := 11) (by decide +kernel), List.forall_mem_cons.mpr ⟨List.mem_of_getElem? (i := 673) rfl, List.forall_mem_cons.mpr ⟨List.mem_of_getElem? (i := 324) (by decide +kernel), List.forall_mem_cons.mpr ⟨List.mem_of_getElem? (i := 325) (by decide +kernel), List.forall_mem_cons.mpr ⟨List.mem_of_getElem? (i := 326) rfl, List.forall_mem_cons.mpr ⟨List.mem_of_getElem? (i := 327) (by decide +kernel), List.forall_mem_cons.mpr ⟨List.mem_of_getElem? (i := 328) (by decide +kernel), List.forall_mem_cons.mpr ⟨List.mem_of_getElem? (i := 329) (by decide +kernel), List.forall_mem_cons.mpr ⟨List.mem_of_getElem? (i := 330) rfl, List.forall_mem_cons.mpr ⟨List.mem_of_getElem? (i := 98) (by decide +kernel), List.forall_mem_cons.mpr ⟨List.mem_of_getElem? (i := 674) (by decide +kernel), List.forall_mem_cons.mpr ⟨List.mem_of_getElem? (i := 675) (by decide +kernel), List.forall_mem_cons.mpr ⟨List.mem_of_getElem? (i := 676) (by decide +kernel), List.forall_mem_cons.mpr ⟨List.mem_of_getElem? (i := 677) rfl, List.forall_mem_cons.mpr ⟨List.mem_of_getElem? (i := 331) (by decide +kernel), fun _ h => absurd h List.not_mem_nil⟩⟩⟩⟩⟩⟩⟩⟩⟩⟩⟩⟩⟩⟩⟩⟩⟩⟩⟩⟩⟩⟩⟩⟩
set_option maxRecDepth 100000 in
set_option maxHeartbeats 4000000 in
theorem wsL_in_r10 : ∀ w ∈ wsL_law0_r10, w ∈ lw_tbl := List.forall_mem_cons.mpr ⟨List.mem_of_getElem? (i := 332) (by decide +kernel), List.forall_mem_cons.mpr ⟨List.mem_of_getElem? (i := 333) rfl, List.forall_mem_cons.mpr ⟨List.mem_of_getElem? (i := 334) (by decide +kernel), List.forall_mem_cons.mpr ⟨List.mem_of_getElem? (i := 335) (by decide +kernel), List.forall_mem_cons.mpr ⟨List.mem_of_getElem? (i := 336) (by decide +kernel), List.forall_mem_cons.mpr ⟨List.mem_of_getElem? (i := 337) rfl, List.forall_mem_cons.mpr ⟨List.mem_of_getElem? (i := 338) (by decide +kernel), List.forall_mem_cons.mpr ⟨List.mem_of_getElem? (i := 102) (by decide +kernel), List.forall_mem_cons.mpr ⟨List.mem_of_getElem? (i := 339) (by decide +kernel), List.forall_mem_cons.mpr ⟨List.mem_of_getElem? (i := 341) (by decide +kernel), List.forall_mem_cons.mpr ⟨List.mem_of_getElem? (i := 3) (by decide +kernel), List.forall_mem_cons.mpr ⟨List.mem_of_getElem? (i := 342) rfl, List.forall_mem_cons.mpr ⟨List.mem_of_getElem? (i := 343) (by decide +kernel), List.forall_mem_cons.mpr ⟨List.mem_of_getElem? (i := 344) (by decide +kernel), List.forall_mem_cons.mpr ⟨List.mem_of_getElem? (i := 345) (by decide +kernel), List.forall_mem_cons.mpr ⟨List.mem_of_getElem? (i := 346) rfl, List.forall_mem_cons.mpr ⟨List.mem_of_getElem? (i := 678) (by decide +kernel), List.forall_mem_cons.mpr ⟨List.mem_of_getElem? (i := 679) (by decide +kernel), List.forall_mem_cons.mpr ⟨List.mem_of_getElem? (i := 680) (by decide +kernel), List.forall_mem_cons.mpr ⟨List.mem_of_getElem? (i := 681) rfl, List.forall_mem_cons.mpr ⟨List.mem_of_getElem? (i := 682) (by decide +kernel), List.forall_mem_cons.mpr ⟨List.mem_of_getElem? (i := 683) (by decide +kernel), List.forall_mem_cons.mpr ⟨List.mem_of_getElem? (i := 685) (by decide +kernel), List.forall_mem_cons.mpr ⟨List.mem_of_getElem? (i := 12) (by decide +kernel), fun _ h => absurd h List.not_mem_nil⟩⟩⟩⟩⟩⟩⟩⟩⟩⟩⟩⟩⟩⟩⟩⟩⟩⟩⟩⟩⟩⟩⟩⟩
set_option maxRecDepth 100000 in
set_option maxHeartbeats 4000000 in
theorem wsL_in_r11 : ∀ w ∈ wsL_law0_r11, w ∈ lw_tbl := List.forall_mem_cons.mpr ⟨List.mem_of_getElem? (i := 686) rfl, List.forall_mem_cons.mpr ⟨List.mem_of_getElem? (i := 347) (by decide +kernel), List.forall_mem_cons.mpr ⟨List.mem_of_getElem? (i := 348) (by decide +kernel), List.forall_mem_cons.mpr ⟨List.mem_of_getElem? (i := 349) rfl, List.forall_mem_cons.mpr ⟨List.mem_of_getElem? (i := 350) (by decide +kernel), List.forall_mem_cons.mpr ⟨List.mem_of_getElem? (i := 351) (by decide +kernel), List.forall_mem_cons.mpr ⟨List.mem_of_getElem? (i := 352) (by decide +kernel), List.forall_mem_cons.mpr ⟨List.mem_of_getElem? (i := 353) rfl, List.forall_mem_cons.mpr ⟨List.mem_of_getElem? (i := 100) (by decide +kernel), List.forall_mem_cons.mpr ⟨List.mem_of_getElem? (i := 687) (by decide +kernel), List.forall_mem_cons.mpr ⟨List.mem_of_getElem? (i := 688) (by decide +kernel), List.forall_mem_cons.mpr ⟨List.mem_of_getElem? (i := 689) (by decide +kernel), List.forall_mem_cons.mpr ⟨List.mem_of_getElem? (i := 690) rfl, List.forall_mem_cons.mpr ⟨List.mem_of_getElem? (i := 354) (by decide +kernel), List.forall_mem_cons.mpr ⟨List.mem_of_getElem? (i := 355) (by decide +kernel), List.forall_mem_cons.mpr ⟨List.mem_of_getElem? (i := 356) rfl, List.forall_mem_cons.mpr ⟨List.mem_of_getElem? (i := 357) (by decide +kernel), List.forall_mem_cons.mpr ⟨List.mem_of_getElem? (i := 358) (by decide +kernel), List.forall_mem_cons.mpr ⟨List.mem_of_getElem? (i := 359) (by decide +kernel), List.forall_mem_cons.mpr ⟨List.mem_of_getElem? (i := 360) rfl, List.forall_mem_cons.mpr ⟨List.mem_of_getElem? (i := 361) (by decide +kernel), List.forall_mem_cons.mpr ⟨List.mem_of_getElem? (i := 362) (by decide +kernel), List.forall_mem_cons.mpr ⟨List.mem_of_getElem? (i := 363) (by decide +kernel), List.forall_mem_cons.mpr ⟨List.mem_of_getElem? (i := 364) rfl, fun _ h => absurd h List.not_mem_nil⟩⟩⟩⟩⟩⟩⟩⟩⟩⟩⟩⟩⟩⟩⟩⟩⟩⟩⟩⟩⟩⟩⟩⟩
set_option maxRecDepth 100000 in
set_option maxHeartbeats 4000000 in
theorem wsL_in_r12 : ∀ w ∈ wsL_law0_r12, w ∈ lw_tbl := List.forall_mem_cons.mpr ⟨List.mem_of_getElem? (i := 365) (by decide +kernel), List.forall_mem_cons.mpr ⟨List.mem_of_getElem? (i := 366) (by decide +kernel), List.forall_mem_cons.mpr ⟨List.mem_of_getElem? (i := 367) (by decide +kernel), List.forall_mem_cons.mpr ⟨List.mem_of_getElem? (i := 368) (by decide +kernel), List.forall_mem_cons.mpr ⟨List.mem_of_getElem? (i := 370) (by decide +kernel), List.forall_mem_cons.mpr ⟨List.mem_of_getElem? (i := 4) (by decide +kernel), List.forall_mem_cons.mpr ⟨List.mem_of_getElem? (i := 371) rfl, List.forall_mem_cons.mpr ⟨List.mem_of_getElem? (i := 372) (by decide +kernel), List.forall_mem_cons.mpr ⟨List.mem_of_getElem? (i := 373) (by decide +kernel), List.forall_mem_cons.mpr ⟨List.mem_of_getElem? (i := 374) (by decide +kernel), List.forall_mem_cons.mpr ⟨List.mem_of_getElem? (i := 375) rfl, List.forall_mem_cons.mpr ⟨List.mem_of_getElem? (i := 56) (by decide +kernel), List.forall_mem_cons.mpr ⟨List.mem_of_getElem? (i := 53) (by decide +kernel), List.forall_mem_cons.mpr ⟨List.mem_of_getElem? (i := 376) (by decide +kernel), List.forall_mem_cons.mpr ⟨List.mem_of_getElem? (i := 377) (by decide +kernel), List.forall_mem_cons.mpr ⟨List.mem_of_getElem? (i := 378) (by decide +kernel), List.forall_mem_cons.mpr ⟨List.mem_of_getElem? (i := 379) rfl, List.forall_mem_cons.mpr ⟨List.mem_of_getElem? (i := 380) (by decide +kernel), List.forall_mem_cons.mpr ⟨List.mem_of_getElem? (i := 381) (by decide +kernel), List.forall_mem_cons.mpr ⟨List.mem_of_getElem? (i := 31) (by decide +kernel), List.forall_mem_cons.mpr ⟨List.mem_of_getElem? (i := 382) rfl, List.forall_mem_cons.mpr ⟨List.mem_of_getElem? (i := 383) (by decide +kernel), List.forall_mem_cons.mpr ⟨List.mem_of_getElem? (i := 384) (by decide +kernel), List.forall_mem_cons.mpr ⟨List.mem_of_getElem? (i := 385) (by decide +kernel), fun _ h => absurd h List.not_mem_nil⟩⟩⟩⟩⟩⟩⟩⟩⟩⟩⟩⟩⟩⟩⟩⟩⟩⟩⟩⟩⟩⟩⟩⟩
set_option maxRecDepth 100000 in
set_option maxHeartbeats 4000000 in
theorem wsL_in_r13 : ∀ w ∈ wsL_law0_r13, w ∈ lw_tbl := List.forall_mem_cons.mpr ⟨List.mem_of_getElem? (i := 386) rfl, List.forall_mem_cons.mpr ⟨List.mem_of_getElem? (i := 691) (by decide +kernel), List.forall_mem_cons.mpr ⟨List.mem_of_getElem? (i := 692) (by decide +kernel), List.forall_mem_cons.mpr ⟨List.mem_of_getElem? (i := 693) (by decide +kernel), List.forall_mem_cons.mpr ⟨List.mem_of_getElem? (i := 694) rfl, List.forall_mem_cons.mpr ⟨List.mem_of_getElem? (i := 695) (by decide +kernel), List.forall_mem_cons.mpr ⟨List.mem_of_getElem? (i := 696) (by decide +kernel), List.forall_mem_cons.mpr ⟨List.mem_of_getElem? (i := 697) (by decide +kernel), List.forall_mem_cons.mpr ⟨List.mem_of_getElem? (i := 699) (by decide +kernel), List.forall_mem_cons.mpr ⟨List.mem_of_getElem? (i := 13) (by decide +kernel), List.forall_mem_cons.mpr ⟨List.mem_of_getElem? (i := 700) rfl, List.forall_mem_cons.mpr ⟨List.mem_of_getElem? (i := 701) (by decide +kernel), List.forall_mem_cons.mpr ⟨List.mem_of_getElem? (i := 703) (by decide +kernel), List.forall_mem_cons.mpr ⟨List.mem_of_getElem? (i := 14) (by decide +kernel), List.forall_mem_cons.mpr ⟨List.mem_of_getElem? (i := 704) rfl, List.forall_mem_cons.mpr ⟨List.mem_of_getElem? (i := 705) (by decide +kernel), List.forall_mem_cons.mpr ⟨List.mem_of_getElem? (i := 707) (by decide +kernel), List.forall_mem_cons.mpr ⟨List.mem_of_getElem? (i := 15) (by decide +kernel), List.forall_mem_cons.mpr ⟨List.mem_of_getElem? (i := 708) rfl, List.forall_mem_cons.mpr ⟨List.mem_of_getElem? (i := 387) (by decide +kernel), List.forall_mem_cons.mpr ⟨List.mem_of_getElem? (i := 388) (by decide +kernel), List.forall_mem_cons.mpr ⟨List.mem_of_getElem? (i := 389) rfl, List.forall_mem_cons.mpr ⟨List.mem_of_getElem? (i := 390) (by decide +kernel), List.forall_mem_cons.mpr ⟨List.mem_of_getElem? (i := 391) (by decide +kernel), fun _ h => absurd h List.not_mem_nil⟩⟩⟩⟩⟩⟩⟩⟩⟩⟩⟩⟩⟩⟩⟩⟩⟩⟩⟩⟩⟩⟩⟩⟩
set_option maxRecDepth 100000 in
set_option maxHeartbeats 4000000 in
theorem wsL_in_r14 : ∀ w ∈ wsL_law0_r14, w ∈ lw_tbl := List.forall_mem_cons.mpr ⟨List.mem_of_getElem? (i := 392) (by decide +kernel), List.forall_mem_cons.mpr ⟨List.mem_of_getElem? (i := 393) rfl, List.forall_mem_cons.mpr ⟨List.mem_of_getElem? (i := 394) (by decide +kernel), List.forall_mem_cons.mpr ⟨List.mem_of_getElem? (i := 395) (by decide +kernel), List.forall_mem_cons.mpr ⟨List.mem_of_getElem? (i := 396) (by decide +kernel), List.forall_mem_cons.mpr ⟨List.mem_of_getElem? (i := 397) (by decide +kernel), List.forall_mem_cons.mpr ⟨List.mem_of_getElem? (i := 398) rfl, List.forall_mem_cons.mpr ⟨List.mem_of_getElem? (i := 399) (by decide +kernel), List.forall_mem_cons.mpr ⟨List.mem_of_getElem? (i := 400) (by decide +kernel), List.forall_mem_cons.mpr ⟨List.mem_of_getElem? (i := 401) (by decide +kernel), List.forall_mem_cons.mpr ⟨List.mem_of_getElem? (i := 402) rfl, List.forall_mem_cons.mpr ⟨List.mem_of_getElem? (i := 403) (by decide +kernel), List.forall_mem_cons.mpr ⟨List.mem_of_getElem? (i := 709) (by decide +kernel), List.forall_mem_cons.mpr ⟨List.mem_of_getElem? (i := 710) (by decide +kernel), List.forall_mem_cons.mpr ⟨List.mem_of_getElem? (i := 711) (by decide +kernel), List.forall_mem_cons.mpr ⟨List.mem_of_getElem? (i := 712) rfl, List.forall_mem_cons.mpr ⟨List.mem_of_getElem? (i := 713) (by decide +kernel), List.forall_mem_cons.mpr ⟨List.mem_of_getElem? (i := 714) (by decide +kernel), List.forall_mem_cons.mpr ⟨List.mem_of_getElem? (i := 404) (by decide +kernel), List.forall_mem_cons.mpr ⟨List.mem_of_getElem? (i := 405) (by decide +kernel), List.forall_mem_cons.mpr ⟨List.mem_of_getElem? (i := 406) rfl, List.forall_mem_cons.mpr ⟨List.mem_of_getElem? (i := 407) (by decide +kernel), List.forall_mem_cons.mpr ⟨List.mem_of_getElem? (i := 408) (by decide +kernel), List.forall_mem_cons.mpr ⟨List.mem_of_getElem? (i := 409) (by decide +kernel), fun _ h => absurd h List.not_mem_nil⟩⟩⟩⟩⟩⟩⟩⟩⟩⟩⟩⟩⟩⟩⟩⟩⟩⟩⟩⟩⟩⟩⟩⟩
set_option maxRecDepth 100000 in
set_option maxHeartbeats 4000000 in
theorem wsL_in_r15 : ∀ w ∈ wsL_law0_r15, w ∈ lw_tbl := List.forall_mem_cons.mpr ⟨List.mem_of_getElem? (i := 410) rfl, List.forall_mem_cons.mpr ⟨List.mem_of_getElem? (i := 411) (by decide +kernel), List.forall_mem_cons.mpr ⟨List.mem_of_getElem? (i := 412) (by decide +kernel), List.forall_mem_cons.mpr ⟨List.mem_of_getElem? (i := 413) (by decide +kernel), List.forall_mem_cons.mpr ⟨List.mem_of_getElem? (i := 414) rfl, List.forall_mem_cons.mpr ⟨List.mem_of_getElem? (i := 416) (by decide +kernel), List.forall_mem_cons.mpr ⟨List.mem_of_getElem? (i := 417) (by decide +kernel), List.forall_mem_cons.mpr ⟨List.mem_of_getElem? (i := 418) rfl, List.forall_mem_cons.mpr ⟨List.mem_of_getElem? (i := 415) (by decide +kernel), List.forall_mem_cons.mpr ⟨List.mem_of_getElem? (i := 419) (by decide +kernel), List.forall_mem_cons.mpr ⟨List.mem_of_getElem? (i := 420) (by decide +kernel), List.forall_mem_cons.mpr ⟨List.mem_of_getElem? (i := 421) (by decide +kernel), List.forall_mem_cons.mpr ⟨List.mem_of_getElem? (i := 422) rfl, List.forall_mem_cons.mpr ⟨List.mem_of_getElem? (i := 715) (by decide +kernel), List.forall_mem_cons.mpr ⟨List.mem_of_getElem? (i := 716) (by decide +kernel), List.forall_mem_cons.mpr ⟨List.mem_of_getElem? (i := 717) (by decide +kernel), List.forall_mem_cons.mpr ⟨List.mem_of_getElem? (i := 718) rfl, List.forall_mem_cons.mpr ⟨List.mem_of_getElem? (i := 423) (by decide +kernel), List.forall_mem_cons.mpr ⟨List.mem_of_getElem? (i := 424) (by decide +kernel), List.forall_mem_cons.mpr ⟨List.mem_of_getElem? (i := 425) rfl, List.forall_mem_cons.mpr ⟨List.mem_of_getElem? (i := 426) (by decide +kernel), List.forall_mem_cons.mpr ⟨List.mem_of_getElem? (i := 427) (by decide +kernel), List.forall_mem_cons.mpr ⟨List.mem_of_getElem? (i := 428) (by decide +kernel), List.forall_mem_cons.mpr ⟨List.mem_of_getElem? (i := 429) rfl, fun _ h => absurd h List.not_mem_nil⟩⟩⟩⟩⟩⟩⟩⟩⟩⟩⟩⟩⟩⟩⟩⟩⟩⟩⟩⟩⟩⟩⟩⟩
set_option maxRecDepth 100000 in
set_option maxHeartbeats 4000000 in
theorem wsL_in_r16 : ∀ w ∈ wsL_law0_r16, w ∈ lw_tbl := List.forall_mem_cons.mpr ⟨List.mem_of_getElem? (i := 75) (by decide +kernel), List.forall_mem_cons.mpr ⟨List.mem_of_getElem? (i := 73) (by decide +kernel), List.forall_mem_cons.mpr ⟨List.mem_of_getElem? (i := 430) (by decide +kernel), List.forall_mem_cons.mpr ⟨List.mem_of_getElem? (i := 431) (by decide +kernel), List.forall_mem_cons.mpr ⟨List.mem_of_getElem? (i := 432) (by decide +kernel), List.forall_mem_cons.mpr ⟨List.mem_of_getElem? (i := 433) rfl, List.forall_mem_cons.mpr ⟨List.mem_of_getElem? (i := 719) (by decide +kernel), List.forall_mem_cons.mpr ⟨List.mem_of_getElem? (i := 720) (by decide +kernel), List.forall_mem_cons.mpr ⟨List.mem_of_getElem? (i := 721) (by decide +kernel), List.forall_mem_cons.mpr ⟨List.mem_of_getElem? (i := 722) rfl, List.forall_mem_cons.mpr ⟨List.mem_of_getElem? (i := 434) (by decide +kernel), List.forall_mem_cons.mpr ⟨List.mem_of_getElem? (i := 435) (by decide +kernel), List.forall_mem_cons.mpr ⟨List.mem_of_getElem? (i := 436) rfl, List.forall_mem_cons.mpr ⟨List.mem_of_getElem? (i := 437) (by decide +kernel), List.forall_mem_cons.mpr ⟨List.mem_of_getElem? (i := 438) (by decide +kernel), List.forall_mem_cons.mpr ⟨List.mem_of_getElem? (i := 439) (by decide +kernel), List.forall_mem_cons.mpr ⟨List.mem_of_getElem? (i := 440) rfl, List.forall_mem_cons.mpr ⟨List.mem_of_getElem? (i := 441) (by decide +kernel), List.forall_mem_cons.mpr ⟨List.mem_of_getElem? (i := 442) (by decide +kernel), List.forall_mem_cons.mpr ⟨List.mem_of_getElem? (i := 443) (by decide +kernel), List.forall_mem_cons.mpr ⟨List.mem_of_getElem? (i := 444) rfl, List.forall_mem_cons.mpr ⟨List.mem_of_getElem? (i := 445) (by decide +kernel), List.forall_mem_cons.mpr ⟨List.mem_of_getElem? (i := 446) (by decide +kernel), List.forall_mem_cons.mpr ⟨List.mem_of_getElem? (i := 447) (by decide +kernel), fun _ h => absurd h List.not_mem_nil⟩⟩⟩⟩⟩⟩⟩⟩⟩⟩⟩⟩⟩⟩⟩⟩⟩⟩⟩⟩⟩⟩⟩⟩
set_option maxRecDepth 100000 in
set_option maxHeartbeats 4000000 in
theorem wsL_in_r17 : ∀ w ∈ wsL_law0_r17, w ∈ lw_tbl := List.forall_mem_cons.mpr ⟨List.mem_of_getElem? (i := 448) rfl, List.forall_mem_cons.mpr ⟨List.mem_of_getElem? (i := 449) (by decide +kernel), List.forall_mem_cons.mpr ⟨List.mem_of_getElem? (i := 450) (by decide +kernel), List.forall_mem_cons.mpr ⟨List.mem_of_getElem? (i := 452) (by decide +kernel), List.forall_mem_cons.mpr ⟨List.mem_of_getElem? (i := 5) (by decide +kernel), List.forall_mem_cons.mpr ⟨List.mem_of_getElem? (i := 453) rfl, List.forall_mem_cons.mpr ⟨List.mem_of_getElem? (i := 454) (by decide +kernel), List.forall_mem_cons.mpr ⟨List.mem_of_getElem? (i := 455) (by decide +kernel), List.forall_mem_cons.mpr ⟨List.mem_of_getElem? (i := 456) (by decide +kernel), List.forall_mem_cons.mpr ⟨List.mem_of_getElem? (i := 457) rfl, List.forall_mem_cons.mpr ⟨List.mem_of_getElem? (i := 458) (by decide +kernel), List.forall_mem_cons.mpr ⟨List.mem_of_getElem? (i := 459) (by decide +kernel), List.forall_mem_cons.mpr ⟨List.mem_of_getElem? (i := 460) (by decide +kernel), List.forall_mem_cons.mpr ⟨List.mem_of_getElem? (i := 461) (by decide +kernel), List.forall_mem_cons.mpr ⟨List.mem_of_getElem? (i := 462) rfl, List.forall_mem_cons.mpr ⟨List.mem_of_getElem? (i := 463) (by decide +kernel), List.forall_mem_cons.mpr ⟨List.mem_of_getElem? (i := 464) (by decide +kernel), List.forall_mem_cons.mpr ⟨List.mem_of_getElem? (i := 466) (by decide +kernel), List.forall_mem_cons.mpr ⟨List.mem_of_getElem? (i := 6) (by decide +kernel), List.forall_mem_cons.mpr ⟨List.mem_of_getElem? (i := 467) rfl, List.forall_mem_cons.mpr ⟨List.mem_of_getElem? (i := 468) (by decide +kernel), List.forall_mem_cons.mpr ⟨List.mem_of_getElem? (i := 469) (by decide +kernel), List.forall_mem_cons.mpr ⟨List.mem_of_getElem? (i := 470) (by decide +kernel), List.forall_mem_cons.mpr ⟨List.mem_of_getElem? (i := 471) rfl, fun _ h => absurd h List.not_mem_nil⟩⟩⟩⟩⟩⟩⟩⟩⟩⟩⟩⟩⟩⟩⟩⟩⟩⟩⟩⟩⟩⟩⟩⟩
set_option maxRecDepth 100000 in
set_option maxHeartbeats 4000000 in
theorem wsL_in_r18 : ∀ w ∈ wsL_law0_r18, w ∈ lw_tbl := List.forall_mem_cons.mpr ⟨List.mem_of_getElem? (i := 472) (by decide +kernel), List.forall_mem_cons.mpr ⟨List.mem_of_getElem? (i := 473) (by decide +kernel), List.forall_mem_cons.mpr ⟨List.mem_of_getElem? (i := 474) (by decide +kernel), List.forall_mem_cons.mpr ⟨List.mem_of_getElem? (i := 475) (by decide +kernel), List.forall_mem_cons.mpr ⟨List.mem_of_getElem? (i := 476) rfl, List.forall_mem_cons.mpr ⟨List.mem_of_getElem? (i := 723) (by decide +kernel), List.forall_mem_cons.mpr ⟨List.mem_of_getElem? (i := 724) (by decide +kernel), List.forall_mem_cons.mpr ⟨List.mem_of_getElem? (i := 725) (by decide +kernel), List.forall_mem_cons.mpr ⟨List.mem_of_getElem? (i := 726) rfl, List.forall_mem_cons.mpr ⟨List.mem_of_getElem? (i := 551) (by decide +kernel), List.forall_mem_cons.mpr ⟨List.mem_of_getElem? (i := 727) (by decide +kernel), List.forall_mem_cons.mpr ⟨List.mem_of_getElem? (i := 729) (by decide +kernel), List.forall_mem_cons.mpr ⟨List.mem_of_getElem? (i := 16) (by decide +kernel), List.forall_mem_cons.mpr ⟨List.mem_of_getElem? (i := 730) rfl, List.forall_mem_cons.mpr ⟨List.mem_of_getElem? (i := 731) (by decide +kernel), List.forall_mem_cons.mpr ⟨List.mem_of_getElem? (i := 733) (by decide +kernel), List.forall_mem_cons.mpr ⟨List.mem_of_getElem? (i := 17) (by decide +kernel), List.forall_mem_cons.mpr ⟨List.mem_of_getElem? (i := 734) rfl, List.forall_mem_cons.mpr ⟨List.mem_of_getElem? (i := 735) (by decide +kernel), List.forall_mem_cons.mpr ⟨List.mem_of_getElem? (i := 737) (by decide +kernel), List.forall_mem_cons.mpr ⟨List.mem_of_getElem? (i := 18) (by decide +kernel), List.forall_mem_cons.mpr ⟨List.mem_of_getElem? (i := 738) rfl, List.forall_mem_cons.mpr ⟨List.mem_of_getElem? (i := 159) (by decide +kernel), List.forall_mem_cons.mpr ⟨List.mem_of_getElem? (i := 160) (by decide +kernel), fun _ h => absurd h List.not_mem_nil⟩⟩⟩⟩⟩⟩⟩⟩⟩⟩⟩⟩⟩⟩⟩⟩⟩⟩⟩⟩⟩⟩⟩⟩
set_option maxRecDepth 100000 in
set_option maxHeartbeats 4000000 in
theorem wsL_in_r19 : ∀ w ∈ wsL_law0_r19, w ∈ lw_tbl := List.forall_mem_cons.mpr ⟨List.mem_of_getElem? (i := 161) (by decide +kernel), List.forall_mem_cons.mpr ⟨List.mem_of_getElem? (i := 162) rfl, List.forall_mem_cons.mpr ⟨List.mem_of_getElem? (i := 739) (by decide +kernel), List.forall_mem_cons.mpr ⟨List.mem_of_getElem? (i := 740) (by decide +kernel), List.forall_mem_cons.mpr ⟨List.mem_of_getElem? (i := 741) (by decide +kernel), List.forall_mem_cons.mpr ⟨List.mem_of_getElem? (i := 742) rfl, List.forall_mem_cons.mpr ⟨List.mem_of_getElem? (i := 163) (by decide +kernel), List.forall_mem_cons.mpr ⟨List.mem_of_getElem? (i := 164) (by decide +kernel), List.forall_mem_cons.mpr ⟨List.mem_of_getElem? (i := 165) (by decide +kernel), List.forall_mem_cons.mpr ⟨List.mem_of_getElem? (i := 166) rfl, List.forall_mem_cons.mpr ⟨List.mem_of_getElem? (i := 743) (by decide +kernel), List.forall_mem_cons.mpr ⟨List.mem_of_getElem? (i := 744) (by decide +kernel), List.forall_mem_cons.mpr ⟨List.mem_of_getElem? (i := 745) (by decide +kernel), List.forall_mem_cons.mpr ⟨List.mem_of_getElem? (i := 746) rfl, List.forall_mem_cons.mpr ⟨List.mem_of_getElem? (i := 477) (by decide +kernel), List.forall_mem_cons.mpr ⟨List.mem_of_getElem? (i := 478) (by decide +kernel), List.forall_mem_cons.mpr ⟨List.mem_of_getElem? (i := 479) rfl, List.forall_mem_cons.mpr ⟨List.mem_of_getElem? (i := 480) (by decide +kernel), List.forall_mem_cons.mpr ⟨List.mem_of_getElem? (i := 481) (by decide +kernel), List.forall_mem_cons.mpr ⟨List.mem_of_getElem? (i := 482) (by decide +kernel), List.forall_mem_cons.mpr ⟨List.mem_of_getElem? (i := 483) rfl, List.forall_mem_cons.mpr ⟨List.mem_of_getElem? (i := 747) (by decide +kernel), List.forall_mem_cons.mpr ⟨List.mem_of_getElem? (i := 748) (by decide +kernel), List.forall_mem_cons.mpr ⟨List.mem_of_getElem? (i := 749) (by decide +kernel), fun _ h => absurd h List.not_mem_nil⟩⟩⟩⟩⟩⟩⟩⟩⟩⟩⟩⟩⟩⟩⟩⟩⟩⟩⟩⟩⟩⟩⟩⟩
set_option maxRecDepth 100000 in
set_option maxHeartbeats 4000000 in
theorem wsL_in_r20 : ∀ w ∈ wsL_law0_r20, w ∈ lw_tbl := List.forall_mem_cons.mpr ⟨List.mem_of_getElem? (i := 750) rfl, List.forall_mem_cons.mpr ⟨List.mem_of_getElem? (i := 751) (by decide +kernel), List.forall_mem_cons.mpr ⟨List.mem_of_getElem? (i := 753) (by decide +kernel), List.forall_mem_cons.mpr ⟨List.mem_of_getElem? (i := 19) (by decide +kernel), List.forall_mem_cons.mpr ⟨List.mem_of_getElem? (i := 754) rfl, List.forall_mem_cons.mpr ⟨List.mem_of_getElem? (i := 484) (by decide +kernel), List.forall_mem_cons.mpr ⟨List.mem_of_getElem? (i := 485) (by decide +kernel), List.forall_mem_cons.mpr ⟨List.mem_of_getElem? (i := 486) rfl, List.forall_mem_cons.mpr ⟨List.mem_of_getElem? (i := 487) (by decide +kernel), List.forall_mem_cons.mpr ⟨List.mem_of_getElem? (i := 488) (by decide +kernel), List.forall_mem_cons.mpr ⟨List.mem_of_getElem? (i := 489) (by decide +kernel), List.forall_mem_cons.mpr ⟨List.mem_of_getElem? (i := 490) rfl, List.forall_mem_cons.mpr ⟨List.mem_of_getElem? (i := 755) (by decide +kernel), List.forall_mem_cons.mpr ⟨List.mem_of_getElem? (i := 756) (by decide +kernel), List.forall_mem_cons.mpr ⟨List.mem_of_getElem? (i := 757) (by decide +kernel), List.forall_mem_cons.mpr ⟨List.mem_of_getElem? (i := 758) rfl, List.forall_mem_cons.mpr ⟨List.mem_of_getElem? (i := 491) (by decide +kernel), List.forall_mem_cons.mpr ⟨List.mem_of_getElem? (i := 492) (by decide +kernel), List.forall_mem_cons.mpr ⟨List.mem_of_getElem? (i := 493) rfl, List.forall_mem_cons.mpr ⟨List.mem_of_getElem? (i := 494) (by decide +kernel), List.forall_mem_cons.mpr ⟨List.mem_of_getElem? (i := 495) (by decide +kernel), List.forall_mem_cons.mpr ⟨List.mem_of_getElem? (i := 496) (by decide +kernel), List.forall_mem_cons.mpr ⟨List.mem_of_getElem? (i := 497) rfl, List.forall_mem_cons.mpr ⟨List.mem_of_getElem? (i := 77) (by decide +kernel), fun _ h => absurd h List.not_mem_nil⟩⟩⟩⟩⟩⟩⟩⟩⟩⟩⟩⟩⟩⟩⟩⟩⟩⟩⟩⟩⟩⟩⟩⟩
set_option maxRecDepth 100000 in
set_option maxHeartbeats 4000000 in
theorem wsL_in_r21 : ∀ w ∈ wsL_law0_r21, w ∈ lw_tbl := List.forall_mem_cons.mpr ⟨List.mem_of_getElem? (i := 498) (by decide +kernel), List.forall_mem_cons.mpr ⟨List.mem_of_getElem? (i := 499) (by decide +kernel), List.forall_mem_cons.mpr ⟨List.mem_of_getElem? (i := 500) (by decide +kernel), List.forall_mem_cons.mpr ⟨List.mem_of_getElem? (i := 501) rfl, List.forall_mem_cons.mpr ⟨List.mem_of_getElem? (i := 759) (by decide +kernel), List.forall_mem_cons.mpr ⟨List.mem_of_getElem? (i := 760) (by decide +kernel), List.forall_mem_cons.mpr ⟨List.mem_of_getElem? (i := 761) (by decide +kernel), List.forall_mem_cons.mpr ⟨List.mem_of_getElem? (i := 762) rfl, List.forall_mem_cons.mpr ⟨List.mem_of_getElem? (i := 502) (by decide +kernel), List.forall_mem_cons.mpr ⟨List.mem_of_getElem? (i := 503) (by decide +kernel), List.forall_mem_cons.mpr ⟨List.mem_of_getElem? (i := 504) rfl, List.forall_mem_cons.mpr ⟨List.mem_of_getElem? (i := 505) (by decide +kernel), List.forall_mem_cons.mpr ⟨List.mem_of_getElem? (i := 506) (by decide +kernel), List.forall_mem_cons.mpr ⟨List.mem_of_getElem? (i := 507) (by decide +kernel), List.forall_mem_cons.mpr ⟨List.mem_of_getElem? (i := 508) rfl, List.forall_mem_cons.mpr ⟨List.mem_of_getElem? (i := 86) (by decide +kernel), List.forall_mem_cons.mpr ⟨List.mem_of_getElem? (i := 763) (by decide +kernel), List.forall_mem_cons.mpr ⟨List.mem_of_getElem? (i := 764) (by decide +kernel), List.forall_mem_cons.mpr ⟨List.mem_of_getElem? (i := 765) (by decide +kernel), List.forall_mem_cons.mpr ⟨List.mem_of_getElem? (i := 766) rfl, List.forall_mem_cons.mpr ⟨List.mem_of_getElem? (i := 509) (by decide +kernel), List.forall_mem_cons.mpr ⟨List.mem_of_getElem? (i := 510) (by decide +kernel), List.forall_mem_cons.mpr ⟨List.mem_of_getElem? (i := 511) rfl, List.forall_mem_cons.mpr ⟨List.mem_of_getElem? (i := 512) (by decide +kernel), fun _ h => absurd h List.not_mem_nil⟩⟩⟩⟩⟩⟩⟩⟩⟩⟩⟩⟩⟩⟩⟩⟩⟩⟩⟩⟩⟩⟩⟩⟩
set_option maxRecDepth 100000 in
set_option maxHeartbeats 4000000 in
theorem wsL_in_r22 : ∀ w ∈ wsL_law0_r22, w ∈ lw_tbl := List.forall_mem_cons.mpr ⟨List.mem_of_getElem? (i := 513) (by decide +kernel), List.forall_mem_cons.mpr ⟨List.mem_of_getElem? (i := 514) (by decide +kernel), List.forall_mem_cons.mpr ⟨List.mem_of_getElem? (i := 515) rfl, List.forall_mem_cons.mpr ⟨List.mem_of_getElem? (i := 767) (by decide +kernel), List.forall_mem_cons.mpr ⟨List.mem_of_getElem? (i := 768) (by decide +kernel), List.forall_mem_cons.mpr ⟨List.mem_of_getElem? (i := 769) (by decide +kernel), List.forall_mem_cons.mpr ⟨List.mem_of_getElem? (i := 770) rfl, List.forall_mem_cons.mpr ⟨List.mem_of_getElem? (i := 516) (by decide +kernel), List.forall_mem_cons.mpr ⟨List.mem_of_getElem? (i := 517) (by decide +kernel), List.forall_mem_cons.mpr ⟨List.mem_of_getElem? (i := 518) rfl, List.forall_mem_cons.mpr ⟨List.mem_of_getElem? (i := 519) (by decide +kernel), List.forall_mem_cons.mpr ⟨List.mem_of_getElem? (i := 520) (by decide +kernel), List.forall_mem_cons.mpr ⟨List.mem_of_getElem? (i := 521) (by decide +kernel), List.forall_mem_cons.mpr ⟨List.mem_of_getElem? (i := 522) rfl, List.forall_mem_cons.mpr ⟨List.mem_of_getElem? (i := 90) (by decide +kernel), List.forall_mem_cons.mpr ⟨List.mem_of_getElem? (i := 771) (by decide +kernel), List.forall_mem_cons.mpr ⟨List.mem_of_getElem? (i := 772) (by decide +kernel), List.forall_mem_cons.mpr ⟨List.mem_of_getElem? (i := 773) (by decide +kernel), List.forall_mem_cons.mpr ⟨List.mem_of_getElem? (i := 774) rfl, List.forall_mem_cons.mpr ⟨List.mem_of_getElem? (i := 523) (by decide +kernel), List.forall_mem_cons.mpr ⟨List.mem_of_getElem? (i := 524) (by decide +kernel), List.forall_mem_cons.mpr ⟨List.mem_of_getElem? (i := 525) rfl, List.forall_mem_cons.mpr ⟨List.mem_of_getElem? (i := 526) (by decide +kernel), List.forall_mem_cons.mpr ⟨List.mem_of_getElem? (i := 527) (by decide +kernel), fun _ h => absurd h List.not_mem_nil⟩⟩⟩⟩⟩⟩⟩⟩⟩⟩⟩⟩⟩⟩⟩⟩⟩⟩⟩⟩⟩⟩⟩⟩
set_option maxRecDepth 100000 in
set_option maxHeartbeats 4000000 in
theorem wsL_in_r23 : ∀ w ∈ wsL_law0_r23, w ∈ lw_tbl := List.forall_mem_cons.mpr ⟨List.mem_of_getElem? (i := 528) (by decide +kernel), List.forall_mem_cons.mpr ⟨List.mem_of_getElem? (i := 529) rfl, List.forall_mem_cons.mpr ⟨List.mem_of_getElem? (i := 81) (by decide +kernel), List.forall_mem_cons.mpr ⟨List.mem_of_getElem? (i := 775) (by decide +kernel), List.forall_mem_cons.mpr ⟨List.mem_of_getElem? (i := 776) (by decide +kernel), List.forall_mem_cons.mpr ⟨List.mem_of_getElem? (i := 777) (by decide +kernel), List.forall_mem_cons.mpr ⟨List.mem_of_getElem? (i := 778) rfl, List.forall_mem_cons.mpr ⟨List.mem_of_getElem? (i := 530) (by decide +kernel), List.forall_mem_cons.mpr ⟨List.mem_of_getElem? (i := 531) (by decide +kernel), List.forall_mem_cons.mpr ⟨List.mem_of_getElem? (i := 532) rfl, List.forall_mem_cons.mpr ⟨List.mem_of_getElem? (i := 533) (by decide +kernel), List.forall_mem_cons.mpr ⟨List.mem_of_getElem? (i := 534) (by decide +kernel), List.forall_mem_cons.mpr ⟨List.mem_of_getElem? (i := 535) (by decide +kernel), List.forall_mem_cons.mpr ⟨List.mem_of_getElem? (i := 536) rfl, List.forall_mem_cons.mpr ⟨List.mem_of_getElem? (i := 83) (by decide +kernel), List.forall_mem_cons.mpr ⟨List.mem_of_getElem? (i := 779) (by decide +kernel), List.forall_mem_cons.mpr ⟨List.mem_of_getElem? (i := 780) (by decide +kernel), List.forall_mem_cons.mpr ⟨List.mem_of_getElem? (i := 781) (by decide +kernel), List.forall_mem_cons.mpr ⟨List.mem_of_getElem? (i := 782) rfl, List.forall_mem_cons.mpr ⟨List.mem_of_getElem? (i := 537) (by decide +kernel), List.forall_mem_cons.mpr ⟨List.mem_of_getElem? (i := 538) (by decide +kernel), List.forall_mem_cons.mpr ⟨List.mem_of_getElem? (i := 539) rfl, List.forall_mem_cons.mpr ⟨List.mem_of_getElem? (i := 540) (by decide +kernel), List.forall_mem_cons.mpr ⟨List.mem_of_getElem? (i := 541) (by decide +kernel), fun _ h => absurd h List.not_mem_nil⟩⟩⟩⟩⟩⟩⟩⟩⟩⟩⟩⟩⟩⟩⟩⟩⟩⟩⟩⟩⟩⟩⟩⟩
set_option maxRecDepth 100000 in
set_option maxHeartbeats 4000000 in
theorem wsL_in_r24 : ∀ w ∈ wsL_law0_r24, w ∈ lw_tbl := List.forall_mem_cons.mpr ⟨List.mem_of_getElem? (i := 542) (by decide +kernel), List.forall_mem_cons.mpr ⟨List.mem_of_getElem? (i := 543) rfl, List.forall_mem_cons.mpr ⟨List.mem_of_getElem? (i := 79) (by decide +kernel), List.forall_mem_cons.mpr ⟨List.mem_of_getElem? (i := 783) (by decide +kernel), List.forall_mem_cons.mpr ⟨List.mem_of_getElem? (i := 784) (by decide +kernel), List.forall_mem_cons.mpr ⟨List.mem_of_getElem? (i := 785) (by decide +kernel), List.forall_mem_cons.mpr ⟨List.mem_of_getElem? (i := 786) rfl, fun _ h => absurd h List.not_mem_nil⟩⟩⟩⟩⟩⟩⟩
set_option maxRecDepth 100000 in
set_option maxHeartbeats 4000000 in
theorem wsL_in_X2 : ∀ w ∈ wsX20, w ∈ lw_tbl := by decide +kernel
set_option maxRecDepth 100000 in
set_option maxHeartbeats 4000000 in
theorem wsL_in_X3 : ∀ w ∈ wsX30, w ∈ lw_tbl := by decide +kernel
set_option maxRecDepth 100000 in
set_option maxHeartbeats 4000000 in
theorem wsL_in_X0 : ∀ w ∈ wsX00, w ∈ lw_tbl := by decide +kernel
set_option maxRecDepth 100000 in
set_option maxHeartbeats 4000000 in
theorem wsL_in_X1 : ∀ w ∈ wsX10, w ∈ lw_tbl := by decide +kernel
theorem wsL_law_in0 : ∀ w ∈ wsL_law0, w ∈ lw_tbl := fun w h => (List.mem_append.mp h).elim (fun h => (List.mem_append.mp h).elim (fun h => (List.mem_append.mp h).elim (fun h => (List.mem_append.mp h).elim (fun h => (List.mem_append.mp h).elim (fun h => (List.mem_append.mp h).elim (fun h => wsL_in_r1 w h) (fun h => (List.mem_append.mp h).elim (fun h => wsL_in_r2 w h) (fun h => (List.mem_append.mp h).elim (fun h => wsL_in_r3 w h) (fun h => (List.mem_append.mp h).elim (fun h => wsL_in_r4 w h) (fun h => (List.mem_append.mp h).elim (fun h => wsL_in_r5 w h) (fun h => (List.mem_append.mp h).elim (fun h => wsL_in_r6 w h) (fun h => (List.mem_append.mp h).elim (fun h => wsL_in_r7 w h) (fun h => (List.mem_append.mp h).elim (fun h => wsL_in_r8 w h) (fun h => (List.mem_append.mp h).elim (fun h => wsL_in_r9 w h) (fun h => (List.mem_append.mp h).elim (fun h => wsL_in_r10 w h) (fun h => (List.mem_append.mp h).elim (fun h => wsL_in_r11 w h) (fun h => (List.mem_append.mp h).elim (fun h => wsL_in_r12 w h) (fun h => (List.mem_append.mp h).elim (fun h => wsL_in_r13 w h) (fun h => (List.mem_append.mp h).elim (fun h => wsL_in_r14 w h) (fun h => (List.mem_append.mp h).elim (fun h => wsL_in_r15 w h) (fun h => (List.mem_append.mp h).elim (fun h => wsL_in_r16 w h) (fun h => (List.mem_append.mp h).elim (fun h => wsL_in_r17 w h) (fun h => (List.mem_append.mp h).elim (fun h => wsL_in_r18 w h) (fun h => (List.mem_append.mp h).elim (fun h => wsL_in_r19 w h) (fun h => (List.mem_append.mp h).elim (fun h => wsL_in_r20 w h) (fun h => (List.mem_append.mp h).elim (fun h => wsL_in_r21 w h) (fun h => (List.mem_append.mp h).elim (fun h => wsL_in_r22 w h) (fun h => (List.mem_append.mp h).elim (fun h => wsL_in_r23 w h) (fun h => wsL_in_r24 w h)))))))))))))))))))))))) (fun h => wsL_in_X2 w h)) (fun h => wsL_in_X3 w h)) (fun h => wsL_in_X0 w h)) (fun h => wsL_in_X1 w h)) (fun h => absurd h List.not_mem_nil)
theorem wsL_law_x0 : ∀ w ∈ (vx_atS RX2 41 "java/lang/IndexOutOfBoundsException" ["java/lang/RuntimeException", "java/lang/Exception"]).filter goodWord, w ∈ lw_tbl := by decide +kernel
theorem wsL_law_x1 : ∀ w ∈ (vx_atS RX2 179 "java/lang/IllegalArgumentException" ["java/lang/RuntimeException", "java/lang/Exception"]).filter goodWord, w ∈ lw_tbl := by decide +kernel
theorem wsL_law_x2 : ∀ w ∈ (vx_atS RX2 184 "java/lang/IllegalStateException" ["java/lang/RuntimeException", "java/lang/Exception"]).filter goodWord, w ∈ lw_tbl := by decide +kernel
theorem wsL_law_in : ∀ w ∈ wsL_law, w ∈ lw_tbl := fun w h => (List.mem_append.mp h).elim (fun h => (List.mem_append.mp h).elim (fun h => (List.mem_append.mp h).elim (fun h => wsL_law_in0 w h) (fun h => wsL_law_x0 w h)) (fun h => wsL_law_x1 w h)) (fun h => wsL_law_x2 w h)
theorem inlX0 : ∀ w ∈ wsX00, w ∈ wsL_law := fun _ h => List.mem_append_left _ (List.mem_append_left _ (List.mem_append_left _ (List.mem_append_left _ (List.mem_append_left _ (List.mem_append_right _ h)))))
theorem inX0 : ∀ w ∈ wsX00, w ∈ lw_tbl := fun w h => wsL_law_in w (inlX0 w h)
theorem inlX1 : ∀ w ∈ wsX10, w ∈ wsL_law := fun _ h => List.mem_append_left _ (List.mem_append_left _ (List.mem_append_left _ (List.mem_append_left _ (List.mem_append_right _ h))))
theorem inX1 : ∀ w ∈ wsX10, w ∈ lw_tbl := fun w h => wsL_law_in w (inlX1 w h)
theorem inlX2 : ∀ w ∈ wsX20, w ∈ wsL_law := fun _ h => List.mem_append_left _ (List.mem_append_left _ (List.mem_append_left _ (List.mem_append_left _ (List.mem_append_left _ (List.mem_append_left _ (List.mem_append_left _ (List.mem_append_right _ h)))))))
theorem inX2 : ∀ w ∈ wsX20, w ∈ lw_tbl := fun w h => wsL_law_in w (inlX2 w h)
theorem inlX3 : ∀ w ∈ wsX30, w ∈ wsL_law := fun _ h => List.mem_append_left _ (List.mem_append_left _ (List.mem_append_left _ (List.mem_append_left _ (List.mem_append_left _ (List.mem_append_left _ (List.mem_append_right _ h))))))
theorem inX3 : ∀ w ∈ wsX30, w ∈ lw_tbl := fun w h => wsL_law_in w (inlX3 w h)
theorem inJ9 : ∀ w ∈ wsJ90, w ∈ lw_tbl := by decide +kernel
theorem inJ0 : ∀ w ∈ wsJ00, w ∈ lw_tbl := by decide +kernel
end
section
theorem zz_last : True := trivial
end
