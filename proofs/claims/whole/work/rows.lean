section
-- ===== PART A: goes FIRST, ahead of the names: the tables' words, and 'selects' of the private methods out of them =====
/-- a private method of a class that the tables say can be made, by its rows of tables_1 -/
def lw_okq (q : MethodName × Nat) : Prop := (q.1.cls ≠ "java/lang/invoke/MethodHandle" ∧ q.1.cls ≠ "java/lang/invoke/VarHandle") ∧ Cond.instantiable q.1.cls q.2 ∈ tables_1 ∧ Cond.privateMethod q.1 ∈ tables_1 ∧ Cond.instanceMethod q.1 ∈ tables_1
theorem lw_p0 : lw_okq (⟨"HarvestLender", "cropAt", "(I)LHarvestLender$Crop;"⟩, 5) := ⟨⟨by decide +kernel, by decide +kernel⟩, List.mem_of_getElem? (i := 13) (by decide +kernel), List.mem_of_getElem? (i := 157) (by decide +kernel), List.mem_of_getElem? (i := 158) (by decide +kernel)⟩
theorem lw_p1 : lw_okq (⟨"java/lang/Throwable", "fillInStackTrace", "(I)Ljava/lang/Throwable;"⟩, 6) := ⟨⟨by decide +kernel, by decide +kernel⟩, List.mem_of_getElem? (i := 199) (by decide +kernel), List.mem_of_getElem? (i := 197) (by decide +kernel), List.mem_of_getElem? (i := 198) (by decide +kernel)⟩
theorem lw_p2 : lw_okq (⟨"HarvestLender", "farmerAt", "(I)LHarvestLender$Farmer;"⟩, 5) := ⟨⟨by decide +kernel, by decide +kernel⟩, List.mem_of_getElem? (i := 13) (by decide +kernel), List.mem_of_getElem? (i := 292) (by decide +kernel), List.mem_of_getElem? (i := 293) (by decide +kernel)⟩
theorem lw_p3 : lw_okq (⟨"HarvestLender", "limitOf", "(LHarvestLender$Farmer;)I"⟩, 5) := ⟨⟨by decide +kernel, by decide +kernel⟩, List.mem_of_getElem? (i := 13) (by decide +kernel), List.mem_of_getElem? (i := 320) (by decide +kernel), List.mem_of_getElem? (i := 321) (by decide +kernel)⟩
theorem lw_p4 : lw_okq (⟨"HarvestLender", "harvestAll", "()V"⟩, 5) := ⟨⟨by decide +kernel, by decide +kernel⟩, List.mem_of_getElem? (i := 13) (by decide +kernel), List.mem_of_getElem? (i := 349) (by decide +kernel), List.mem_of_getElem? (i := 350) (by decide +kernel)⟩
theorem lw_p5 : lw_okq (⟨"HarvestLender", "settleRest", "(LHarvestLender$Farmer;)V"⟩, 5) := ⟨⟨by decide +kernel, by decide +kernel⟩, List.mem_of_getElem? (i := 13) (by decide +kernel), List.mem_of_getElem? (i := 431) (by decide +kernel), List.mem_of_getElem? (i := 432) (by decide +kernel)⟩
theorem lw_p6 : lw_okq (⟨"HarvestLender", "collectFromGroup", "(LHarvestLender$Farmer;)V"⟩, 5) := ⟨⟨by decide +kernel, by decide +kernel⟩, List.mem_of_getElem? (i := 13) (by decide +kernel), List.mem_of_getElem? (i := 445) (by decide +kernel), List.mem_of_getElem? (i := 446) (by decide +kernel)⟩
theorem lw_p7 : lw_okq (⟨"HarvestLenderModel", "refused", "(I)Z"⟩, 24) := ⟨⟨by decide +kernel, by decide +kernel⟩, List.mem_of_getElem? (i := 525) (by decide +kernel), List.mem_of_getElem? (i := 619) (by decide +kernel), List.mem_of_getElem? (i := 620) (by decide +kernel)⟩
theorem lw_p8 : lw_okq (⟨"HarvestLenderModel", "clear", "(I)V"⟩, 24) := ⟨⟨by decide +kernel, by decide +kernel⟩, List.mem_of_getElem? (i := 525) (by decide +kernel), List.mem_of_getElem? (i := 631) (by decide +kernel), List.mem_of_getElem? (i := 632) (by decide +kernel)⟩
theorem lw_p9 : lw_okq (⟨"HarvestLenderModel", "fine", "(I)I"⟩, 24) := ⟨⟨by decide +kernel, by decide +kernel⟩, List.mem_of_getElem? (i := 525) (by decide +kernel), List.mem_of_getElem? (i := 639) (by decide +kernel), List.mem_of_getElem? (i := 640) (by decide +kernel)⟩
theorem lw_p10 : lw_okq (⟨"HarvestLenderModel", "isFarmer", "(I)Z"⟩, 24) := ⟨⟨by decide +kernel, by decide +kernel⟩, List.mem_of_getElem? (i := 525) (by decide +kernel), List.mem_of_getElem? (i := 647) (by decide +kernel), List.mem_of_getElem? (i := 648) (by decide +kernel)⟩
theorem lw_p11 : lw_okq (⟨"HarvestLenderModel", "limitOf", "(I)I"⟩, 24) := ⟨⟨by decide +kernel, by decide +kernel⟩, List.mem_of_getElem? (i := 525) (by decide +kernel), List.mem_of_getElem? (i := 651) (by decide +kernel), List.mem_of_getElem? (i := 652) (by decide +kernel)⟩
theorem lw_p12 : lw_okq (⟨"HarvestLenderModel", "charge", "(II)V"⟩, 24) := ⟨⟨by decide +kernel, by decide +kernel⟩, List.mem_of_getElem? (i := 525) (by decide +kernel), List.mem_of_getElem? (i := 664) (by decide +kernel), List.mem_of_getElem? (i := 665) (by decide +kernel)⟩
theorem lw_p13 : lw_okq (⟨"HarvestLenderModel", "harvest", "(I)V"⟩, 24) := ⟨⟨by decide +kernel, by decide +kernel⟩, List.mem_of_getElem? (i := 525) (by decide +kernel), List.mem_of_getElem? (i := 678) (by decide +kernel), List.mem_of_getElem? (i := 679) (by decide +kernel)⟩
theorem lw_p14 : lw_okq (⟨"HarvestLenderModel", "come", "(III)V"⟩, 24) := ⟨⟨by decide +kernel, by decide +kernel⟩, List.mem_of_getElem? (i := 525) (by decide +kernel), List.mem_of_getElem? (i := 682) (by decide +kernel), List.mem_of_getElem? (i := 683) (by decide +kernel)⟩
theorem lw_p15 : lw_okq (⟨"HarvestLenderModel", "lower", "(III)V"⟩, 24) := ⟨⟨by decide +kernel, by decide +kernel⟩, List.mem_of_getElem? (i := 525) (by decide +kernel), List.mem_of_getElem? (i := 686) (by decide +kernel), List.mem_of_getElem? (i := 687) (by decide +kernel)⟩
def lw_privs_1 : List (MethodName × Nat) := [(⟨"HarvestLender", "cropAt", "(I)LHarvestLender$Crop;"⟩, 5), (⟨"java/lang/Throwable", "fillInStackTrace", "(I)Ljava/lang/Throwable;"⟩, 6), (⟨"HarvestLender", "farmerAt", "(I)LHarvestLender$Farmer;"⟩, 5), (⟨"HarvestLender", "limitOf", "(LHarvestLender$Farmer;)I"⟩, 5), (⟨"HarvestLender", "harvestAll", "()V"⟩, 5), (⟨"HarvestLender", "settleRest", "(LHarvestLender$Farmer;)V"⟩, 5), (⟨"HarvestLender", "collectFromGroup", "(LHarvestLender$Farmer;)V"⟩, 5), (⟨"HarvestLenderModel", "refused", "(I)Z"⟩, 24), (⟨"HarvestLenderModel", "clear", "(I)V"⟩, 24), (⟨"HarvestLenderModel", "fine", "(I)I"⟩, 24), (⟨"HarvestLenderModel", "isFarmer", "(I)Z"⟩, 24), (⟨"HarvestLenderModel", "limitOf", "(I)I"⟩, 24), (⟨"HarvestLenderModel", "charge", "(II)V"⟩, 24), (⟨"HarvestLenderModel", "harvest", "(I)V"⟩, 24), (⟨"HarvestLenderModel", "come", "(III)V"⟩, 24), (⟨"HarvestLenderModel", "lower", "(III)V"⟩, 24)]
theorem lw_r1 : ∀ q ∈ lw_privs_1, lw_okq q := List.forall_mem_cons.mpr ⟨lw_p0, List.forall_mem_cons.mpr ⟨lw_p1, List.forall_mem_cons.mpr ⟨lw_p2, List.forall_mem_cons.mpr ⟨lw_p3, List.forall_mem_cons.mpr ⟨lw_p4, List.forall_mem_cons.mpr ⟨lw_p5, List.forall_mem_cons.mpr ⟨lw_p6, List.forall_mem_cons.mpr ⟨lw_p7, List.forall_mem_cons.mpr ⟨lw_p8, List.forall_mem_cons.mpr ⟨lw_p9, List.forall_mem_cons.mpr ⟨lw_p10, List.forall_mem_cons.mpr ⟨lw_p11, List.forall_mem_cons.mpr ⟨lw_p12, List.forall_mem_cons.mpr ⟨lw_p13, List.forall_mem_cons.mpr ⟨lw_p14, List.forall_mem_cons.mpr ⟨lw_p15, fun _ h => absurd h List.not_mem_nil⟩⟩⟩⟩⟩⟩⟩⟩⟩⟩⟩⟩⟩⟩⟩⟩
theorem lw_p16 : lw_okq (⟨"HarvestLenderModel", "settle", "(I)V"⟩, 24) := ⟨⟨by decide +kernel, by decide +kernel⟩, List.mem_of_getElem? (i := 525) (by decide +kernel), List.mem_of_getElem? (i := 708) (by decide +kernel), List.mem_of_getElem? (i := 709) (by decide +kernel)⟩
theorem lw_p17 : lw_okq (⟨"HarvestLenderModel", "roll", "(I)V"⟩, 24) := ⟨⟨by decide +kernel, by decide +kernel⟩, List.mem_of_getElem? (i := 525) (by decide +kernel), List.mem_of_getElem? (i := 712) (by decide +kernel), List.mem_of_getElem? (i := 713) (by decide +kernel)⟩
theorem lw_p18 : lw_okq (⟨"HarvestLenderModel", "call", "(I)V"⟩, 24) := ⟨⟨by decide +kernel, by decide +kernel⟩, List.mem_of_getElem? (i := 525) (by decide +kernel), List.mem_of_getElem? (i := 716) (by decide +kernel), List.mem_of_getElem? (i := 717) (by decide +kernel)⟩
theorem lw_p19 : lw_okq (⟨"HarvestLenderModel", "noFarmer", "(I)Z"⟩, 24) := ⟨⟨by decide +kernel, by decide +kernel⟩, List.mem_of_getElem? (i := 525) (by decide +kernel), List.mem_of_getElem? (i := 732) (by decide +kernel), List.mem_of_getElem? (i := 733) (by decide +kernel)⟩
def lw_privs_2 : List (MethodName × Nat) := [(⟨"HarvestLenderModel", "settle", "(I)V"⟩, 24), (⟨"HarvestLenderModel", "roll", "(I)V"⟩, 24), (⟨"HarvestLenderModel", "call", "(I)V"⟩, 24), (⟨"HarvestLenderModel", "noFarmer", "(I)Z"⟩, 24)]
theorem lw_r2 : ∀ q ∈ lw_privs_2, lw_okq q := List.forall_mem_cons.mpr ⟨lw_p16, List.forall_mem_cons.mpr ⟨lw_p17, List.forall_mem_cons.mpr ⟨lw_p18, List.forall_mem_cons.mpr ⟨lw_p19, fun _ h => absurd h List.not_mem_nil⟩⟩⟩⟩
def lw_privs : List (MethodName × Nat) := lw_privs_1 ++ (lw_privs_2)
def lw_tbl : List Cond := k2_sels lw_privs ++ tables_1
theorem lw_privs_ok : ∀ q ∈ lw_privs, lw_okq q := by
  show ∀ q ∈ lw_privs_1 ++ (lw_privs_2), lw_okq q
  exact List.forall_mem_append.mpr ⟨lw_r1, lw_r2⟩
end
section
/-! ===== BEGIN words of one list among another's, by their places ===== -/
theorem goodIn_r {big : List Cond} (ws : List Cond) (ps : List Nat) (hp : ws = ps.filterMap (fun i => big[i]?)) (h : ws.all goodWord = true) : GoodIn big ws := by
  intro w hw
  have h1 := List.all_eq_true.mp h w hw
  rw [hp] at hw
  obtain ⟨i, -, hi⟩ := List.mem_filterMap.mp hw
  have hm : w ∈ big := by first | exact List.mem_of_getElem? hi | exact List.getElem?_mem hi
  exact ⟨hm, good_of_word h1⟩
theorem goodIn_app {big a b : List Cond} (ha : GoodIn big a) (hb : GoodIn big b) : GoodIn big (a ++ b) := fun w h => (List.mem_append.mp h).elim (ha w) (hb w)
theorem goodIn_ca {big a b : List Cond} {c : Cond} (ha : GoodIn big (c :: a)) (hb : GoodIn big b) : GoodIn big (c :: (a ++ b)) := fun w h => (List.mem_cons.mp h).elim (fun e => ha w (List.mem_cons.mpr (Or.inl e))) (fun h => (List.mem_append.mp h).elim (fun h => ha w (List.mem_cons.mpr (Or.inr h))) (hb w))
theorem goodIn_sub {big ws : List Cond} (hm : ∀ w ∈ ws, w ∈ big) (h : ws.all goodWord = true) : GoodIn big ws := fun w hw => ⟨hm w hw, good_of_word (List.all_eq_true.mp h w hw)⟩
/-! ===== END ===== -/

/-! ===== BEGIN exceptions that leave a method, and their catching by the caller (launches without stack traces) ===== -/
section VXA
/-! The laws vx_back, vx_callV, vx_callS, vx_callSW, vx_throw0, vx_throwS follow proofs of the library, with one case more: JvmDerived/Free/Laws.lean (Back.of_free), Shelf42/LK1.lean (callV, callS), Shelf/KitTraced.lean (throwNew0V, throwNewS). -/
/-- where a method has thrown q: the class by its name, the cell, what was written, the world -/
def vx_T (XC : String → State → State → Prop) (st : State) (q : Addr) (t : State) (mc ms : Nat) (free : Addr → Prop) : Prop :=
  ∃ (E : String) (ce : Cell) (L : List Loc), XC E st t ∧ t.heap[q]? = some ce ∧ ce.vm = .none ∧ st.vm.findClass E = some ce.cls ∧ st.WarmedH t.vm ∧ st.sameButNew ({ t with vm := st.vm } : State) L mc ms ∧ ∀ z ∈ L, free z.base
def vx_Q (Qc : Array Value → State → Outcome → State → Prop) (XC : String → State → State → Prop) (mc ms : Nat) (free : Addr → Prop) : Array Value → State → Outcome → State → Prop := fun a st o t =>
  (Qc a st o t ∧ ∃ L, FrameEnd st o t L mc ms ∧ ∀ q ∈ L, free q.base) ∨ ∃ q, o = .threw q ∧ vx_T XC st q t mc ms free
/-- a callee that returns or throws -/
def vx_Met (l : Launch) (y : MethodName) (ws : List Cond) (rm : Room) (Pc : Array Value → State → Prop) (Qc : Array Value → State → Outcome → State → Prop) (XC : String → State → State → Prop) (mc ms : Nat) (free : Addr → Prop) : Prop :=
  MetFree l y (headSpec ws rm) Pc (fun _ _ _ _ _ => True) (vx_Q Qc XC mc ms free)
def vx_Post (XC : String → State → State → Prop) (mc ms : Nat) (free : Addr → Prop) : Pt → Array Value → Addr → Pt → Prop := fun A a q B =>
  ∃ (g : JFrame) (mk : MethodId) (t : State) (L : List Loc) (E : String) (ce : Cell), B.U.heap = t.heap ∧ B.U.vm = t.vm ∧ XC E (A.U.calling g mk a) t ∧ t.heap[q]? = some ce ∧ ce.vm = .none ∧ A.U.vm.findClass E = some ce.cls ∧ B.locs = A.locs ++ L ∧ (∀ z ∈ L, free z.base) ∧ B.cells = A.cells + mc ∧ B.slots = A.slots + ms
def vx_Back (l : Launch) (R : Room) (p : Program) (e : Env) (below : List Frame) (s : State) (sargs : Array Value) (y : MethodName) (len W9 : Nat)
    (Pre : Pt → Array Value → Prop) (Post : Pt → Array Value → Option Value → Pt → Prop) (PostX : Pt → Array Value → Addr → Pt → Prop) : Prop :=
  ∀ (m : MethodId) (meth : Method) (c : Code) (A : Pt) (g : JFrame) (ig : Instr) (mk : MethodId) (a : Array Value),
    Stand p l e R s m sargs below meth c A.U A.locs A.cells A.slots → g.method = m → g.locals.size = c.maxLocals → decode c.code g.pc = .ok (ig, len) →
    2 * g.monitorRoom + (g.stack.map fun v => v.category).sum ≤ W9 → A.U.methodNamed? y = some mk → Pre A a →
    (∃ (v : Option Value) (B : Pt), Stand p l e R s m sargs below meth c B.U B.locs B.cells B.slots ∧ Post A a v B ∧
      Steps p.tables e below (doInvoke e (A.U.setTop g) [] mk a).1 (B.U.setTop { g with pc := g.pc + len, stack := v.toList ++ g.stack })) ∨
    (∃ (q : Addr) (B : Pt), Stand p l e R s m sargs below meth c B.U B.locs B.cells B.slots ∧ PostX A a q B ∧
      Steps p.tables e below (doInvoke e (A.U.setTop g) [] mk a).1 ((B.U.setTop g).pushFrame (.throwing q)))
section Payer
variable {l : Launch} {R : Room} {p : Program} {e : Env} {below : List Frame} {s : State} {sargs : Array Value} {y : MethodName} {len W9 : Nat}
theorem vx_back {ws : List Cond} {rm : Room} {Pc : Array Value → State → Prop} {Qc : Array Value → State → Outcome → State → Prop} {XC : String → State → State → Prop} {mc ms : Nat} {free : Addr → Prop} {bytes : ByteArray} {maxL : Nat} {ret : Option FieldType}
    (hM : vx_Met l y ws rm Pc Qc XC mc ms free) (hblind : FrameBlind Pc) (hrc : rm.cells = mc) (hrs : rm.slots = ms)
    (hframes : rm.frames + 1 ≤ R.frames) (hlocals : W9 + (maxL + 11) + rm.locals ≤ R.locals)
    (hws : ∀ w ∈ ws, ∀ a' U, s.WarmedH U.vm → w.before a' U = true) (hcode : Cond.code y bytes maxL ret ∈ ws) (hinit : ∀ a' U, s.WarmedH U.vm → (Cond.initialized y.cls).before a' U = true) :
    vx_Back l R p e below s sargs y len W9 (PreOf R mc ms Pc) (PostOf Qc mc ms free) (vx_Post XC mc ms free) := by
  intro m meth c A g ig mk a X hg hsize hdg hW hn hp
  have h1 : (headSpec ws rm).pre.before a A.U = true := atoms_intro fun w hw => hws w hw _ _ X.warmed
  have h2 : (Cond.code y bytes maxL ret).before a A.U = true := hws _ hcode _ _ X.warmed
  have h3 : (Cond.initialized y.cls).before a A.U = true := hinit _ _ X.warmed
  have h4 : A.cells + (headSpec ws rm).room.cells ≤ R.cells := by rw [show (headSpec ws rm).room.cells = mc from hrc]; exact hp.1
  have h5 : A.slots + (headSpec ws rm).room.slots ≤ R.slots := by rw [show (headSpec ws rm).room.slots = ms from hrs]; exact hp.2.1
  have hPc : Pc a (A.U.calling g mk a) := hblind _ _ _ _ hp.2.2
  obtain ⟨U, Ls, c0, s0⟩ := A
  dsimp only [Pt.U, Pt.locs, Pt.cells, Pt.slots] at h1 h2 h3 h4 h5 X hn hPc ⊢
  obtain ⟨methY, cY, hmY, hcY, -, hlY, -, -, -, -⟩ := Cond.code_spec hn h2
  obtain ⟨kY, hkY, -⟩ := className_of_methodNamed hn
  have hinitY : kY.init = .initialized := Cond.initialized_spec (findClass_of_methodNamed hn) hkY h3
  have h : At U g.method c below := by rw [hg]; exact X.here
  have hlocals9 : W9 + (maxL + 11) + (headSpec ws rm).room.locals ≤ R.locals := hlocals
  have happ : (headSpec ws rm).appliesLoose y e.platform (U.calling g mk a) = true :=
    Spec.appliesLoose_calling (g := g) h hdg hn hkY hinitY
      (X.room_calling (g := g) (R' := (headSpec ws rm).room) hsize hmY hcY hframes (by rw [hlY]; omega) h4 h5) h1
  obtain ⟨mid, hmid⟩ := h.above
  have hfr : (U.setTop g).frames = (.java g :: mid) ++ below := by rw [State.frames_setTop' g h.top, hmid]; rfl
  obtain ⟨o, s₂, hsteps, -, hend, hq⟩ := Steps.callFree hM p X.admits X.cas X.clock (acts := []) hfr happ hPc trivial
  have hq' : vx_Q Qc XC mc ms free a (U.calling g mk a) o s₂ := hq
  rw [State.frames_setTop' g h.top] at hend
  obtain ⟨g₀, hg0⟩ := Option.isSome_iff_exists.mp h.top
  obtain ⟨r, hr⟩ := State.topJava?_eq_some.mp hg0
  have hr' : (({ U with heap := s₂.heap, slotsUsed := s₂.slotsUsed } : State).setVm s₂.vm).frames = .java g₀ :: r := hr
  rcases hq' with ⟨hqc, L, hfe, hL⟩ | ⟨q, rfl, E, ce, L, hx, hce, hcv, hcl, hW₂, hsm, hL⟩
  · obtain ⟨⟨v, rfl⟩, hW₂, e2, q2, q3, q4, q5, q6⟩ := id hfe
    have e3 : s₂ = ({ (U.calling g mk a).setFrames s₂.frames with heap := s₂.heap, slotsUsed := s₂.slotsUsed } : State).setVm s₂.vm := by
      have : s₂ = ({ s₂ with vm := (U.calling g mk a).vm } : State).setVm s₂.vm := rfl
      rw [e2] at this
      exact this
    obtain ⟨c₂, i₂, len₂, hc₂, hd₂, hf₂⟩ := hend
    have hW' : U.WarmedH s₂.vm := hW₂
    have hcc : c₂ = c := by
      have h1 : s₂.code? g.method = U.code? g.method := by
        rw [State.code?_eq, State.code?_eq, hW'.alike.method?]
      exact Option.some.inj (hc₂.symm.trans (h1.trans h.code))
    subst hcc
    have hlen : len₂ = len := by rw [hdg] at hd₂; cases hd₂; rfl
    subst hlen
    have hs₂ : s₂ = (({ U with heap := s₂.heap, slotsUsed := s₂.slotsUsed } : State).setVm s₂.vm).setTop { g with pc := g.pc + len₂, stack := v.toList ++ g.stack } := by
      refine e3.trans ?_
      rw [hf₂, State.calling_eq h.top, State.setFrames_setFrames, State.setTop_of_frames _ hr', hr]
      rfl
    have hsame : U.sameButNew ({ U with heap := s₂.heap, slotsUsed := s₂.slotsUsed } : State) L mc ms := by
      refine ⟨?_, q2, q3, q4, q5, q6⟩
      obtain ⟨t, ht, -⟩ := State.frames_cons hr
      show ({ U with heap := s₂.heap, slotsUsed := s₂.slotsUsed } : State) = { U.setFrames U.frames with heap := s₂.heap, slotsUsed := s₂.slotsUsed }
      rw [State.setFrames_self ht]
    subst hg
    refine Or.inl ⟨v, ⟨(({ U with heap := s₂.heap, slotsUsed := s₂.slotsUsed } : State).setVm s₂.vm), Ls ++ L, c0 + mc, s0 + ms⟩,
      ⟨X.admits, X.cas, X.clock, X.frames, X.room, X.hears, X.method, X.code, (X.here.setHeapUsed s₂.heap s₂.slotsUsed).setVm hW'.alike, X.tail, State.WarmedH.trans X.warmed hW', X.limits, X.bytes, X.same.trans (hsame.setVm s.vm)⟩,
      ⟨g, mk, s₂, L, rfl, rfl, hqc, rfl, hL, rfl, rfl⟩, ?_⟩
    show Steps p.tables e below _ ((({ U with heap := s₂.heap, slotsUsed := s₂.slotsUsed } : State).setVm s₂.vm).setTop { g with pc := g.pc + len₂, stack := v.toList ++ g.stack })
    rw [← hs₂]
    exact hsteps
  · obtain ⟨e2, q2, q3, q4, q5, q6⟩ := id hsm
    have e3 : s₂ = ({ (U.calling g mk a).setFrames s₂.frames with heap := s₂.heap, slotsUsed := s₂.slotsUsed } : State).setVm s₂.vm := by
      have : s₂ = ({ s₂ with vm := (U.calling g mk a).vm } : State).setVm s₂.vm := rfl
      rw [e2] at this
      exact this
    have hf₂ : s₂.frames = .throwing q :: .java g :: U.frames.tail := hend
    have hW' : U.WarmedH s₂.vm := hW₂
    have hs₂ : s₂ = ((({ U with heap := s₂.heap, slotsUsed := s₂.slotsUsed } : State).setVm s₂.vm).setTop g).pushFrame (.throwing q) := by
      refine e3.trans ?_
      rw [hf₂, State.calling_eq h.top, State.setFrames_setFrames, State.pushFrame, State.frames_setTop _ hr', State.setTop_of_frames _ hr', State.setFrames_setFrames, hr]
      rfl
    have hsame : U.sameButNew ({ U with heap := s₂.heap, slotsUsed := s₂.slotsUsed } : State) L mc ms := by
      refine ⟨?_, q2, q3, q4, q5, q6⟩
      obtain ⟨t, ht, -⟩ := State.frames_cons hr
      show ({ U with heap := s₂.heap, slotsUsed := s₂.slotsUsed } : State) = { U.setFrames U.frames with heap := s₂.heap, slotsUsed := s₂.slotsUsed }
      rw [State.setFrames_self ht]
    subst hg
    refine Or.inr ⟨q, ⟨(({ U with heap := s₂.heap, slotsUsed := s₂.slotsUsed } : State).setVm s₂.vm), Ls ++ L, c0 + mc, s0 + ms⟩,
      ⟨X.admits, X.cas, X.clock, X.frames, X.room, X.hears, X.method, X.code, (X.here.setHeapUsed s₂.heap s₂.slotsUsed).setVm hW'.alike, X.tail, State.WarmedH.trans X.warmed hW', X.limits, X.bytes, X.same.trans (hsame.setVm s.vm)⟩,
      ⟨g, mk, s₂, L, E, ce, rfl, rfl, hx, hce, hcv, hcl, rfl, hL, rfl, rfl⟩, ?_⟩
    show Steps p.tables e below _ (((({ U with heap := s₂.heap, slotsUsed := s₂.slotsUsed } : State).setVm s₂.vm).setTop g).pushFrame (.throwing q))
    rw [← hs₂]
    exact hsteps
end Payer
section Calls
variable {p : Program} {l : Launch} {e : Env} {R : Room} {s : State} {m : MethodId} {args : Array Value} {below : List Frame} {meth : Method} {c : Code} {T : State} {locs : List Loc} {cells slots : Nat}
theorem vx_callV (X : Stand p l e R s m args below meth c T locs cells slots) (hexec : p.tables.exec = Jvm.exec) {own C : String} {index : Nat} {y : MethodName} {bytes : ByteArray} {maxL : Nat} {ret : Option FieldType}
    (hown : s.vm.findClass own = some m.cls) (hlink : (Cond.methodLink own index y).before args s = true) (hinst : (Cond.instanceMethod y).before args s = true) (hsel : (Cond.selects C y y).before args s = true)
    (hcode : (Cond.code y bytes maxL ret).before args s = true) (hy : y.cls ≠ "java/lang/invoke/MethodHandle" ∧ y.cls ≠ "java/lang/invoke/VarHandle")
    {W9 : Nat} {Pre : Pt → Array Value → Prop} {Post : Pt → Array Value → Option Value → Pt → Prop} {PostX : Pt → Array Value → Addr → Pt → Prop} (hK : vx_Back l R p e below s args y 3 W9 Pre Post PostX)
    {b : Addr} {cellB : Cell} (hcell : T.heap[b]? = some cellB) (hobj : cellB.vm.isStatics = false) (hcls : s.vm.findClass C = some cellB.cls)
    {g : JFrame} (hg : g.method = m) (hsize : g.locals.size = c.maxLocals) {argsL rest : List Value} (hlen : ∀ sig, parseMethodDescriptor y.desc = some sig → argsL.length = sig.parameters.length)
    (hstack : g.stack = argsL.reverse ++ .ref b :: rest) (hW : 2 * g.monitorRoom + (rest.map fun v => v.category).sum ≤ W9) (hdg : decode c.code g.pc = .ok (.invokevirtual index, 3))
    (hpre : ∀ vm₁, s.WarmedH vm₁ → Pre ⟨T.setVm vm₁, locs, cells, slots⟩ (Value.ref b :: argsL).toArray) :
    (∃ (v : Option Value) (vm₁ : Vm) (B : Pt), s.WarmedH vm₁ ∧ Stand p l e R s m args below meth c B.U B.locs B.cells B.slots ∧ Post ⟨T.setVm vm₁, locs, cells, slots⟩ (Value.ref b :: argsL).toArray v B ∧
      ∀ target, Steps p.tables e below (B.U.setTop { g with pc := g.pc + 3, stack := v.toList ++ rest }) target → Steps p.tables e below (T.setTop g) target) ∨
    (∃ (q : Addr) (vm₁ : Vm) (B : Pt), s.WarmedH vm₁ ∧ Stand p l e R s m args below meth c B.U B.locs B.cells B.slots ∧ PostX ⟨T.setVm vm₁, locs, cells, slots⟩ (Value.ref b :: argsL).toArray q B ∧
      Steps p.tables e below (T.setTop g) ((B.U.setTop { g with stack := rest }).pushFrame (.throwing q))) := by
  obtain ⟨mk, methM, hnamed, hmethM, hstM, habM⟩ := Cond.instanceMethod_spec hinst
  obtain ⟨methM', cM, hmethM', -, -, -, -, -, -, hsigM⟩ := Cond.code_spec hnamed hcode
  cases hmethM.symm.trans hmethM'
  obtain ⟨c2, r2, m2, q1, q2, q3, q4, kP, hkP, hkPi⟩ := Cond.selects_spec hsel
  cases hcls.symm.trans q1
  cases (State.methodFound?_of_named hnamed hy).symm.trans q2
  cases hnamed.symm.trans q3
  have hselP : selectMethod e.platform s.vm cellB.cls mk = .method mk := by rw [Launch.admits_selectMethod X.admits]; exact q4
  obtain ⟨vm₁, X₁, hstep₁⟩ := X.invokevirtual hexec hown hlink hnamed hmethM hstM hkP hkPi hy (a := b) (cell := cellB) hcell
    (fun z h => by rw [h] at hobj; cases hobj) hselP hmethM habM hkP hkPi (g := g) hg (argsL := argsL) (rest := rest) (hlen _ hsigM) hstack hdg
  rcases hK m meth c ⟨T.setVm vm₁, locs, cells, slots⟩ { g with stack := rest } (.invokevirtual index) mk (Value.ref b :: argsL).toArray X₁ hg hsize hdg hW (X₁.named hnamed) (hpre vm₁ X₁.warmed) with ⟨v, B, X', hpost, hsteps⟩ | ⟨q, B, X', hpost, hsteps⟩
  · exact Or.inl ⟨v, vm₁, B, X₁.warmed, X', hpost, fun target h => hstep₁ _ fun acts => by rw [doInvoke_state]; exact hsteps.trans h⟩
  · exact Or.inr ⟨q, vm₁, B, X₁.warmed, X', hpost, hstep₁ _ fun acts => by rw [doInvoke_state]; exact hsteps⟩
theorem vx_callS (X : Stand p l e R s m args below meth c T locs cells slots) (hexec : p.tables.exec = Jvm.exec) {own : String} {index : Nat} {y : MethodName} {bytes : ByteArray} {maxL : Nat} {ret : Option FieldType}
    (hown : s.vm.findClass own = some m.cls) (hlink : (Cond.methodLink own index y).before args s = true) (hstat : (Cond.static y).before args s = true) (hinit : (Cond.initialized y.cls).before args s = true)
    (hcode : (Cond.code y bytes maxL ret).before args s = true) (hy : y.cls ≠ "java/lang/invoke/MethodHandle" ∧ y.cls ≠ "java/lang/invoke/VarHandle")
    {W9 : Nat} {Pre : Pt → Array Value → Prop} {Post : Pt → Array Value → Option Value → Pt → Prop} {PostX : Pt → Array Value → Addr → Pt → Prop} (hK : vx_Back l R p e below s args y 3 W9 Pre Post PostX)
    {g : JFrame} (hg : g.method = m) (hsize : g.locals.size = c.maxLocals) {argsL rest : List Value} (hlen : ∀ sig, parseMethodDescriptor y.desc = some sig → argsL.length = sig.parameters.length)
    (hstack : g.stack = argsL.reverse ++ rest) (hW : 2 * g.monitorRoom + (rest.map fun v => v.category).sum ≤ W9) (hdg : decode c.code g.pc = .ok (.invokestatic index, 3))
    (hpre : ∀ vm₁, s.WarmedH vm₁ → Pre ⟨T.setVm vm₁, locs, cells, slots⟩ argsL.toArray) :
    (∃ (v : Option Value) (vm₁ : Vm) (B : Pt), s.WarmedH vm₁ ∧ Stand p l e R s m args below meth c B.U B.locs B.cells B.slots ∧ Post ⟨T.setVm vm₁, locs, cells, slots⟩ argsL.toArray v B ∧
      ∀ target, Steps p.tables e below (B.U.setTop { g with pc := g.pc + 3, stack := v.toList ++ rest }) target → Steps p.tables e below (T.setTop g) target) ∨
    (∃ (q : Addr) (vm₁ : Vm) (B : Pt), s.WarmedH vm₁ ∧ Stand p l e R s m args below meth c B.U B.locs B.cells B.slots ∧ PostX ⟨T.setVm vm₁, locs, cells, slots⟩ argsL.toArray q B ∧
      Steps p.tables e below (T.setTop g) ((B.U.setTop { g with stack := rest }).pushFrame (.throwing q))) := by
  obtain ⟨mk, hnamed⟩ := Cond.code_named hcode
  obtain ⟨methM, cM, hmethM, -, -, -, -, -, -, hsigM⟩ := Cond.code_spec hnamed hcode
  have hstatic : methM.isStatic = true := Cond.static_spec hnamed hmethM hstat
  obtain ⟨kP, hkP, -⟩ := className_of_methodNamed hnamed
  have hinitP : kP.init = .initialized := Cond.initialized_spec (findClass_of_methodNamed hnamed) hkP hinit
  obtain ⟨vm₁, X₁, hstep₁⟩ := X.invokestatic hexec hown hlink hnamed hmethM hstatic hkP hinitP hy (g := g) hg (argsL := argsL) (rest := rest) (hlen _ hsigM) hstack hdg
  rcases hK m meth c ⟨T.setVm vm₁, locs, cells, slots⟩ { g with stack := rest } (.invokestatic index) mk argsL.toArray X₁ hg hsize hdg hW (X₁.named hnamed) (hpre vm₁ X₁.warmed) with ⟨v, B, X', hpost, hsteps⟩ | ⟨q, B, X', hpost, hsteps⟩
  · exact Or.inl ⟨v, vm₁, B, X₁.warmed, X', hpost, fun target h => hstep₁ _ fun acts => by rw [doInvoke_state]; exact hsteps.trans h⟩
  · exact Or.inr ⟨q, vm₁, B, X₁.warmed, X', hpost, hstep₁ _ fun acts => by rw [doInvoke_state]; exact hsteps⟩
end Calls
theorem vx_cls {s : State} {T : State} {vm₁ : Vm} {E : String} {k : ClassId} (hW : s.WarmedH vm₁) (h : (T.setVm vm₁).vm.findClass E = some k) : s.vm.findClass E = some k := by
  have h1 : vm₁.findClass E = some k := h
  rw [hW.alike.findClass] at h1
  exact h1
/-- the method's frame g, with q thrown over it -/
def vx_W (p : Program) (l : Launch) (e : Env) (R : Room) (s : State) (m : MethodId) (args : Array Value) (below : List Frame) (meth : Method) (c : Code) (H : Heap) (locs : List Loc) (cells slots : Nat) (Q : State → Prop) (g : JFrame) (q : Addr) : Prop :=
  ∀ T : State, T.heap = H → Stand p l e R s m args below meth c T locs cells slots → ∃ t, Steps p.tables e below ((T.setTop g).pushFrame (.throwing q)) t ∧ Q t
def vx_Run (p : Program) (l : Launch) (e : Env) (R : Room) (s : State) (m : MethodId) (args : Array Value) (below : List Frame) (meth : Method) (c : Code) (H : Heap) (locs : List Loc) (cells slots mc ms : Nat) (g : JFrame) (rest : List Value) (Qa : State → Outcome → State → Prop) (XC : String → State → State → Prop) (free : Addr → Prop) : Prop :=
  ∀ T : State, T.heap = H → Stand p l e R s m args below meth c T locs cells slots →
    (∃ (v : Option Value) (st₀ t T' : State) (L : List Loc), st₀.heap = H ∧ Stand p l e R s m args below meth c T' (locs ++ L) (cells + mc) (slots + ms) ∧ (∀ q ∈ L, free q.base) ∧ T'.heap = t.heap ∧ T'.vm = t.vm ∧ Qa st₀ (.returned v) t ∧
      Goes p e below T g T' { g with pc := g.pc + 3, stack := v.toList ++ rest }) ∨
    (∃ (q : Addr) (st₀ t T' : State) (L : List Loc) (E : String) (ce : Cell), st₀.heap = H ∧ Stand p l e R s m args below meth c T' (locs ++ L) (cells + mc) (slots + ms) ∧ (∀ z ∈ L, free z.base) ∧ T'.heap = t.heap ∧ T'.vm = t.vm ∧ XC E st₀ t ∧ t.heap[q]? = some ce ∧ ce.vm = .none ∧ s.vm.findClass E = some ce.cls ∧
      Steps p.tables e below (T.setTop g) ((T'.setTop { g with stack := rest }).pushFrame (.throwing q)))
def vx_X {S : Type} (px : S → Prop) (B : String → S → State → Prop) (A : Nat → Prop) : String → State → State → Prop := fun E st t => ∃ u : S, px u ∧ B E u t ∧ va_F A st t
section Runs
variable {p : Program} {l : Launch} {e : Env} {R : Room} {s : State} {m : MethodId} {args : Array Value} {below : List Frame} {meth : Method} {c : Code} {H : Heap} {locs : List Loc} {cells slots : Nat}
variable {y : MethodName} {bytes cc : ByteArray} {maxL nL mc ms n index : Nat} {ret : Option FieldType} {ws : List Cond} {rm : Room} {Pc : Array Value → State → Prop} {Qc : Array Value → State → Outcome → State → Prop} {XC : String → State → State → Prop} {free : Addr → Prop} {Ts : List Cond} {own C : String} {b : Addr} {As rest : List Value} {g : JFrame}
theorem vx_callBack (cb : CallB R s args own index y bytes maxL ret ws rm mc ms n) (hM : vx_Met l y ws rm Pc Qc XC mc ms free) (hbl : FrameBlind Pc) : vx_Back l R p e below s args y 3 8 (PreOf R mc ms Pc) (PostOf Qc mc ms free) (vx_Post XC mc ms free) := by
  obtain ⟨hrc, hrs, hfr, hlo, hws, hcw, -, hini, -⟩ := cb
  exact vx_back (bytes := bytes) (maxL := maxL) (ret := ret) hM hbl hrc hrs hfr hlo hws hcw (fun a' U hW => word_at hW (Or.inl (by first | rfl | simp [Cond.onTables, Cond.keeps, Cond.steady])) hini)
theorem vx_runV (S : CallFix p m c cc nL s args Ts own) (hM : vx_Met l y ws rm Pc Qc XC mc ms free) (cw : CallW R s args own C index y bytes maxL ret ws rm mc ms n) (hp : PreV s H C b Pc As)
    (hg : g.method = m) (hn : As.length = n) (hsize : g.locals.size = nL) (hstack : g.stack = As.reverse ++ .ref b :: rest) (hW : 2 * g.monitorRoom + (rest.map fun v => v.category).sum ≤ 8) (hdg : decode cc g.pc = .ok (.invokevirtual index, 3)) (hf : cells + mc ≤ R.cells ∧ slots + ms ≤ R.slots) :
    vx_Run p l e R s m args below meth c H locs cells slots mc ms g rest (Qc (Value.ref b :: As).toArray) XC free := by
  have hK : vx_Back l R p e below s args y 3 8 (PreOf R mc ms Pc) (PostOf Qc mc ms free) (vx_Post XC mc ms free) := vx_callBack cw.1 hM hp.1
  obtain ⟨⟨-, -, -, -, -, -, hcode, -, hy, hlen, hl⟩, hin, hse⟩ := cw
  obtain ⟨hx, hb, hml, ho, -⟩ := S
  obtain ⟨-, ⟨cellB, hcB, hoB, hclB⟩, hPc⟩ := hp
  intro T hT X
  rcases vx_callV X hx (C := C) (bytes := bytes) (maxL := maxL) (ret := ret) ho hl hin hse hcode hy hK (by rw [hT]; exact hcB) hoB hclB hg (hsize.trans hml.symm) (argsL := As) (rest := rest) (fun sig h => hn.trans (hlen sig h)) hstack hW (by rw [hb]; exact hdg)
    (fun vm₁ hW₁ => ⟨hf.1, hf.2, hPc (T.setVm vm₁) hT hW₁⟩) with ⟨v, vm₁, ⟨U', l2, c2, s2⟩, hW₁, X', ⟨g', mk, t, L, e1, e2, hq, h1, hL, h2, h3⟩, st⟩ | ⟨q, vm₁, ⟨U', l2, c2, s2⟩, hW₁, X', ⟨g', mk, t, L, E, ce, e1, e2, hq, hce, hcv, hcl, h1, hL, h2, h3⟩, st⟩
  · dsimp only [Pt.U, Pt.locs, Pt.cells, Pt.slots] at X' e1 e2 h1 h2 h3 st
    subst h1; subst h2; subst h3
    exact Or.inl ⟨v, (T.setVm vm₁).calling g' mk (Value.ref b :: As).toArray, t, U', L, hT, X', hL, e1, e2, hq, st⟩
  · dsimp only [Pt.U, Pt.locs, Pt.cells, Pt.slots] at X' e1 e2 h1 h2 h3 st hcl
    subst h1; subst h2; subst h3
    exact Or.inr ⟨q, (T.setVm vm₁).calling g' mk (Value.ref b :: As).toArray, t, U', L, E, ce, hT, X', hL, e1, e2, hq, hce, hcv, vx_cls hW₁ hcl, st⟩
theorem vx_runS (S : CallFix p m c cc nL s args Ts own) (hM : vx_Met l y ws rm Pc Qc XC mc ms free) (cw : CallB R s args own index y bytes maxL ret ws rm mc ms n ∧ (Cond.static y).before args s = true) (hp : PreS s H Pc As)
    (hg : g.method = m) (hn : As.length = n) (hsize : g.locals.size = nL) (hstack : g.stack = As.reverse ++ rest) (hW : 2 * g.monitorRoom + (rest.map fun v => v.category).sum ≤ 8) (hdg : decode cc g.pc = .ok (.invokestatic index, 3)) (hf : cells + mc ≤ R.cells ∧ slots + ms ≤ R.slots) :
    vx_Run p l e R s m args below meth c H locs cells slots mc ms g rest (Qc As.toArray) XC free := by
  have hK : vx_Back l R p e below s args y 3 8 (PreOf R mc ms Pc) (PostOf Qc mc ms free) (vx_Post XC mc ms free) := vx_callBack cw.1 hM hp.1
  obtain ⟨⟨-, -, -, -, -, -, hcode, hini, hy, hlen, hl⟩, hstt⟩ := cw
  obtain ⟨hx, hb, hml, ho, -⟩ := S
  intro T hT X
  rcases vx_callS X hx (bytes := bytes) (maxL := maxL) (ret := ret) ho hl hstt hini hcode hy hK hg (hsize.trans hml.symm) (argsL := As) (rest := rest) (fun sig h => hn.trans (hlen sig h)) hstack hW (by rw [hb]; exact hdg)
    (fun vm₁ hW₁ => ⟨hf.1, hf.2, hp.2 (T.setVm vm₁) hT hW₁⟩) with ⟨v, vm₁, ⟨U', l2, c2, s2⟩, hW₁, X', ⟨g', mk, t, L, e1, e2, hq, h1, hL, h2, h3⟩, st⟩ | ⟨q, vm₁, ⟨U', l2, c2, s2⟩, hW₁, X', ⟨g', mk, t, L, E, ce, e1, e2, hq, hce, hcv, hcl, h1, hL, h2, h3⟩, st⟩
  · dsimp only [Pt.U, Pt.locs, Pt.cells, Pt.slots] at X' e1 e2 h1 h2 h3 st
    subst h1; subst h2; subst h3
    exact Or.inl ⟨v, (T.setVm vm₁).calling g' mk As.toArray, t, U', L, hT, X', hL, e1, e2, hq, st⟩
  · dsimp only [Pt.U, Pt.locs, Pt.cells, Pt.slots] at X' e1 e2 h1 h2 h3 st hcl
    subst h1; subst h2; subst h3
    exact Or.inr ⟨q, (T.setVm vm₁).calling g' mk As.toArray, t, U', L, E, ce, hT, X', hL, e1, e2, hq, hce, hcv, vx_cls hW₁ hcl, st⟩
end Runs
section Rows
variable {p : Program} {l : Launch} {e : Env} {R : Room} {s : State} {m : MethodId} {args : Array Value} {below : List Frame} {meth : Method} {c : Code} {H : Heap} {locs : List Loc} {cells slots : Nat} {Q : State → Prop}
variable {mc ms : Nat} {free : Addr → Prop} {A0 A1 : Nat → Prop} {H0 : Heap} {a : Array Value} {pc : Nat} {ls : Array Slot} {st0 rest : List Value}
theorem vx_keep {st₀ t T' : State} {L : List Loc} (h0 : st₀.heap = H) (e1 : T'.heap = t.heap) (hS : va_S A0 H0 H locs) (hA : ∀ q, q < H.size → A1 q → A0 q) (hf : ∀ q, free q → A0 q) (hL : ∀ q ∈ L, free q.base) (hF : va_F A1 st₀ t) :
    H.size ≤ T'.heap.size ∧ (∀ q : Nat, q < H.size → ¬ A1 q → T'.heap[q]? = H[q]?) ∧ va_S A0 H0 T'.heap (locs ++ L) := by
  obtain ⟨hz, hk⟩ := hF
  rw [h0] at hz hk
  exact ⟨by rw [e1]; exact hz, fun q h1 h2 => by rw [e1]; exact hk q h1 h2,
    ⟨Nat.le_trans hS.1 (by rw [e1]; exact hz), fun q h1 h2 => by rw [e1, hk q (Nat.lt_of_lt_of_le h1 hS.1) (fun z => h2 (hA q (Nat.lt_of_lt_of_le h1 hS.1) z))]; exact hS.2.1 q h1 h2, fun q hq => by
      rcases List.mem_append.mp hq with h | h
      · exact hS.2.2 q h
      · exact hf _ (hL q h)⟩⟩
theorem vx_calli {S SX : Type} {post : Int32 → S → Prop} {px : SX → Prop} {B : S → State → Prop} {BX : String → SX → State → Prop} {AX : Nat → Prop} (hr : vx_Run p l e R s m args below meth c H locs cells slots mc ms (F0 m pc ls st0) rest (va_Qi post B A1 a) (vx_X px BX AX) free) (hS : va_S A0 H0 H locs) (hA : ∀ q, q < H.size → A1 q → A0 q) (hf : ∀ q, free q → A0 q) (hAX : ∀ q, q < H.size → AX q → A0 q)
    (kx : ∀ (E : String) (ce : Cell) (q9 : Addr) (u : SX) (t : State) (H1 : Heap) (locs1 : List Loc), t.heap = H1 → s.vm.Alike t.vm → px u → BX E u t → H.size ≤ H1.size → (∀ q : Nat, q < H.size → ¬ AX q → H1[q]? = H[q]?) → va_S A0 H0 H1 locs1 → H1[q9]? = some ce → ce.vm = .none → s.vm.findClass E = some ce.cls → vx_W p l e R s m args below meth c H1 locs1 (cells + mc) (slots + ms) Q (F0 m pc ls rest) q9)
    (kk : ∀ (r : Int32) (u : S) (t : State) (H1 : Heap) (locs1 : List Loc), t.heap = H1 → s.vm.Alike t.vm → post r u → B u t → H.size ≤ H1.size → (∀ q : Nat, q < H.size → ¬ A1 q → H1[q]? = H[q]?) → va_S A0 H0 H1 locs1 → W p l e R s m args below meth c H1 locs1 (cells + mc) (slots + ms) Q (F0 m (pc + 3) ls (.int r :: rest))) : W p l e R s m args below meth c H locs cells slots Q (F0 m pc ls st0) := by
  intro T hT X
  rcases hr T hT X with ⟨v, st₀, t, T', L, h0, X', hL, e1, e2, ⟨⟨r, u, hv, hp, hb⟩, hF⟩, st⟩ | ⟨q, st₀, t, T', L, E, ce, h0, X', hL, e1, e2, ⟨u, hp, hb, hF⟩, hce, hcv, hcl, st⟩
  · cases hv
    obtain ⟨k1, k2, k3⟩ := vx_keep h0 e1 hS hA hf hL hF
    obtain ⟨t2, a1, b1⟩ := kk r u t T'.heap (locs ++ L) e1.symm (by rw [← e2]; exact X'.warmed.alike) hp hb k1 k2 k3 T' rfl X'
    exact ⟨t2, st t2 a1, b1⟩
  · obtain ⟨k1, k2, k3⟩ := vx_keep h0 e1 hS hAX hf hL hF
    obtain ⟨t2, a1, b1⟩ := kx E ce q u t T'.heap (locs ++ L) e1.symm (by rw [← e2]; exact X'.warmed.alike) hp hb k1 k2 k3 (by rw [e1]; exact hce) hcv hcl T' rfl X'
    exact ⟨t2, st.trans a1, b1⟩
theorem vx_calll {S SX : Type} {post : Int64 → S → Prop} {px : SX → Prop} {B : S → State → Prop} {BX : String → SX → State → Prop} {AX : Nat → Prop} (hr : vx_Run p l e R s m args below meth c H locs cells slots mc ms (F0 m pc ls st0) rest (va_Ql post B A1 a) (vx_X px BX AX) free) (hS : va_S A0 H0 H locs) (hA : ∀ q, q < H.size → A1 q → A0 q) (hf : ∀ q, free q → A0 q) (hAX : ∀ q, q < H.size → AX q → A0 q)
    (kx : ∀ (E : String) (ce : Cell) (q9 : Addr) (u : SX) (t : State) (H1 : Heap) (locs1 : List Loc), t.heap = H1 → s.vm.Alike t.vm → px u → BX E u t → H.size ≤ H1.size → (∀ q : Nat, q < H.size → ¬ AX q → H1[q]? = H[q]?) → va_S A0 H0 H1 locs1 → H1[q9]? = some ce → ce.vm = .none → s.vm.findClass E = some ce.cls → vx_W p l e R s m args below meth c H1 locs1 (cells + mc) (slots + ms) Q (F0 m pc ls rest) q9)
    (kk : ∀ (r : Int64) (u : S) (t : State) (H1 : Heap) (locs1 : List Loc), t.heap = H1 → s.vm.Alike t.vm → post r u → B u t → H.size ≤ H1.size → (∀ q : Nat, q < H.size → ¬ A1 q → H1[q]? = H[q]?) → va_S A0 H0 H1 locs1 → W p l e R s m args below meth c H1 locs1 (cells + mc) (slots + ms) Q (F0 m (pc + 3) ls (.long r :: rest))) : W p l e R s m args below meth c H locs cells slots Q (F0 m pc ls st0) := by
  intro T hT X
  rcases hr T hT X with ⟨v, st₀, t, T', L, h0, X', hL, e1, e2, ⟨⟨r, u, hv, hp, hb⟩, hF⟩, st⟩ | ⟨q, st₀, t, T', L, E, ce, h0, X', hL, e1, e2, ⟨u, hp, hb, hF⟩, hce, hcv, hcl, st⟩
  · cases hv
    obtain ⟨k1, k2, k3⟩ := vx_keep h0 e1 hS hA hf hL hF
    obtain ⟨t2, a1, b1⟩ := kk r u t T'.heap (locs ++ L) e1.symm (by rw [← e2]; exact X'.warmed.alike) hp hb k1 k2 k3 T' rfl X'
    exact ⟨t2, st t2 a1, b1⟩
  · obtain ⟨k1, k2, k3⟩ := vx_keep h0 e1 hS hAX hf hL hF
    obtain ⟨t2, a1, b1⟩ := kx E ce q u t T'.heap (locs ++ L) e1.symm (by rw [← e2]; exact X'.warmed.alike) hp hb k1 k2 k3 (by rw [e1]; exact hce) hcv hcl T' rfl X'
    exact ⟨t2, st.trans a1, b1⟩
theorem vx_callf {S SX : Type} {post : UInt32 → S → Prop} {px : SX → Prop} {B : S → State → Prop} {BX : String → SX → State → Prop} {AX : Nat → Prop} (hr : vx_Run p l e R s m args below meth c H locs cells slots mc ms (F0 m pc ls st0) rest (va_Qf post B A1 a) (vx_X px BX AX) free) (hS : va_S A0 H0 H locs) (hA : ∀ q, q < H.size → A1 q → A0 q) (hf : ∀ q, free q → A0 q) (hAX : ∀ q, q < H.size → AX q → A0 q)
    (kx : ∀ (E : String) (ce : Cell) (q9 : Addr) (u : SX) (t : State) (H1 : Heap) (locs1 : List Loc), t.heap = H1 → s.vm.Alike t.vm → px u → BX E u t → H.size ≤ H1.size → (∀ q : Nat, q < H.size → ¬ AX q → H1[q]? = H[q]?) → va_S A0 H0 H1 locs1 → H1[q9]? = some ce → ce.vm = .none → s.vm.findClass E = some ce.cls → vx_W p l e R s m args below meth c H1 locs1 (cells + mc) (slots + ms) Q (F0 m pc ls rest) q9)
    (kk : ∀ (r : UInt32) (u : S) (t : State) (H1 : Heap) (locs1 : List Loc), t.heap = H1 → s.vm.Alike t.vm → post r u → B u t → H.size ≤ H1.size → (∀ q : Nat, q < H.size → ¬ A1 q → H1[q]? = H[q]?) → va_S A0 H0 H1 locs1 → W p l e R s m args below meth c H1 locs1 (cells + mc) (slots + ms) Q (F0 m (pc + 3) ls (.float r :: rest))) : W p l e R s m args below meth c H locs cells slots Q (F0 m pc ls st0) := by
  intro T hT X
  rcases hr T hT X with ⟨v, st₀, t, T', L, h0, X', hL, e1, e2, ⟨⟨r, u, hv, hp, hb⟩, hF⟩, st⟩ | ⟨q, st₀, t, T', L, E, ce, h0, X', hL, e1, e2, ⟨u, hp, hb, hF⟩, hce, hcv, hcl, st⟩
  · cases hv
    obtain ⟨k1, k2, k3⟩ := vx_keep h0 e1 hS hA hf hL hF
    obtain ⟨t2, a1, b1⟩ := kk r u t T'.heap (locs ++ L) e1.symm (by rw [← e2]; exact X'.warmed.alike) hp hb k1 k2 k3 T' rfl X'
    exact ⟨t2, st t2 a1, b1⟩
  · obtain ⟨k1, k2, k3⟩ := vx_keep h0 e1 hS hAX hf hL hF
    obtain ⟨t2, a1, b1⟩ := kx E ce q u t T'.heap (locs ++ L) e1.symm (by rw [← e2]; exact X'.warmed.alike) hp hb k1 k2 k3 (by rw [e1]; exact hce) hcv hcl T' rfl X'
    exact ⟨t2, st.trans a1, b1⟩
theorem vx_calld {S SX : Type} {post : UInt64 → S → Prop} {px : SX → Prop} {B : S → State → Prop} {BX : String → SX → State → Prop} {AX : Nat → Prop} (hr : vx_Run p l e R s m args below meth c H locs cells slots mc ms (F0 m pc ls st0) rest (va_Qd post B A1 a) (vx_X px BX AX) free) (hS : va_S A0 H0 H locs) (hA : ∀ q, q < H.size → A1 q → A0 q) (hf : ∀ q, free q → A0 q) (hAX : ∀ q, q < H.size → AX q → A0 q)
    (kx : ∀ (E : String) (ce : Cell) (q9 : Addr) (u : SX) (t : State) (H1 : Heap) (locs1 : List Loc), t.heap = H1 → s.vm.Alike t.vm → px u → BX E u t → H.size ≤ H1.size → (∀ q : Nat, q < H.size → ¬ AX q → H1[q]? = H[q]?) → va_S A0 H0 H1 locs1 → H1[q9]? = some ce → ce.vm = .none → s.vm.findClass E = some ce.cls → vx_W p l e R s m args below meth c H1 locs1 (cells + mc) (slots + ms) Q (F0 m pc ls rest) q9)
    (kk : ∀ (r : UInt64) (u : S) (t : State) (H1 : Heap) (locs1 : List Loc), t.heap = H1 → s.vm.Alike t.vm → post r u → B u t → H.size ≤ H1.size → (∀ q : Nat, q < H.size → ¬ A1 q → H1[q]? = H[q]?) → va_S A0 H0 H1 locs1 → W p l e R s m args below meth c H1 locs1 (cells + mc) (slots + ms) Q (F0 m (pc + 3) ls (.double r :: rest))) : W p l e R s m args below meth c H locs cells slots Q (F0 m pc ls st0) := by
  intro T hT X
  rcases hr T hT X with ⟨v, st₀, t, T', L, h0, X', hL, e1, e2, ⟨⟨r, u, hv, hp, hb⟩, hF⟩, st⟩ | ⟨q, st₀, t, T', L, E, ce, h0, X', hL, e1, e2, ⟨u, hp, hb, hF⟩, hce, hcv, hcl, st⟩
  · cases hv
    obtain ⟨k1, k2, k3⟩ := vx_keep h0 e1 hS hA hf hL hF
    obtain ⟨t2, a1, b1⟩ := kk r u t T'.heap (locs ++ L) e1.symm (by rw [← e2]; exact X'.warmed.alike) hp hb k1 k2 k3 T' rfl X'
    exact ⟨t2, st t2 a1, b1⟩
  · obtain ⟨k1, k2, k3⟩ := vx_keep h0 e1 hS hAX hf hL hF
    obtain ⟨t2, a1, b1⟩ := kx E ce q u t T'.heap (locs ++ L) e1.symm (by rw [← e2]; exact X'.warmed.alike) hp hb k1 k2 k3 (by rw [e1]; exact hce) hcv hcl T' rfl X'
    exact ⟨t2, st.trans a1, b1⟩
theorem vx_callv {S SX : Type} {post : S → Prop} {px : SX → Prop} {B : S → State → Prop} {BX : String → SX → State → Prop} {AX : Nat → Prop} (hr : vx_Run p l e R s m args below meth c H locs cells slots mc ms (F0 m pc ls st0) rest (va_Qv post B A1 a) (vx_X px BX AX) free) (hS : va_S A0 H0 H locs) (hA : ∀ q, q < H.size → A1 q → A0 q) (hf : ∀ q, free q → A0 q) (hAX : ∀ q, q < H.size → AX q → A0 q)
    (kx : ∀ (E : String) (ce : Cell) (q9 : Addr) (u : SX) (t : State) (H1 : Heap) (locs1 : List Loc), t.heap = H1 → s.vm.Alike t.vm → px u → BX E u t → H.size ≤ H1.size → (∀ q : Nat, q < H.size → ¬ AX q → H1[q]? = H[q]?) → va_S A0 H0 H1 locs1 → H1[q9]? = some ce → ce.vm = .none → s.vm.findClass E = some ce.cls → vx_W p l e R s m args below meth c H1 locs1 (cells + mc) (slots + ms) Q (F0 m pc ls rest) q9)
    (kk : ∀ (u : S) (t : State) (H1 : Heap) (locs1 : List Loc), t.heap = H1 → s.vm.Alike t.vm → post u → B u t → H.size ≤ H1.size → (∀ q : Nat, q < H.size → ¬ A1 q → H1[q]? = H[q]?) → va_S A0 H0 H1 locs1 → W p l e R s m args below meth c H1 locs1 (cells + mc) (slots + ms) Q (F0 m (pc + 3) ls (rest))) : W p l e R s m args below meth c H locs cells slots Q (F0 m pc ls st0) := by
  intro T hT X
  rcases hr T hT X with ⟨v, st₀, t, T', L, h0, X', hL, e1, e2, ⟨⟨u, hv, hp, hb⟩, hF⟩, st⟩ | ⟨q, st₀, t, T', L, E, ce, h0, X', hL, e1, e2, ⟨u, hp, hb, hF⟩, hce, hcv, hcl, st⟩
  · cases hv
    obtain ⟨k1, k2, k3⟩ := vx_keep h0 e1 hS hA hf hL hF
    obtain ⟨t2, a1, b1⟩ := kk u t T'.heap (locs ++ L) e1.symm (by rw [← e2]; exact X'.warmed.alike) hp hb k1 k2 k3 T' rfl X'
    exact ⟨t2, st t2 a1, b1⟩
  · obtain ⟨k1, k2, k3⟩ := vx_keep h0 e1 hS hAX hf hL hF
    obtain ⟨t2, a1, b1⟩ := kx E ce q u t T'.heap (locs ++ L) e1.symm (by rw [← e2]; exact X'.warmed.alike) hp hb k1 k2 k3 (by rw [e1]; exact hce) hcv hcl T' rfl X'
    exact ⟨t2, st.trans a1, b1⟩
/-- caught by the row x of this method's table; the rows ahead don't take it -/
theorem vx_catch {own name : String} {E : String} {ce : Cell} {q : Addr} (hown : s.vm.findClass own = some m.cls) (pre : List ExceptionTableEntry) (x : ExceptionTableEntry) (suf : List ExceptionTableEntry) (hsplit : c.exceptionTable.toList = pre ++ x :: suf)
    (hpass : ∀ z ∈ pre, covers z pc = false ∨ (z.catchType ≠ 0 ∧ ∃ nm : String, (Cond.classLink own z.catchType nm).before args s = true ∧ va_Nc E nm s)) (hx : covers x pc = true) (h0 : x.catchType ≠ 0)
    (hlink : (Cond.classLink own x.catchType name).before args s = true) (hcast : (Cond.castable E name).before args s = true) (hcell : H[q]? = some ce) (hv : ce.vm = .none) (hcl : s.vm.findClass E = some ce.cls)
    (kk : W p l e R s m args below meth c H locs cells slots Q (F0 m x.handlerPc ls [.ref q])) : vx_W p l e R s m args below meth c H locs cells slots Q (F0 m pc ls rest) q := by
  intro T hT X
  have hpl : e.platform.magicAccessors = ({} : Platform).magicAccessors := by rw [X.admits.platform]
  obtain ⟨c3, c4, hc3, hc4, hasg⟩ := Cond.castable_spec hcast
  cases Option.some.inj (hc3.symm.trans hcl)
  obtain ⟨c5, hc5, hcl5⟩ := Cond.classLink_spec hown hlink e.platform hpl
  cases Option.some.inj (hc4.symm.trans hc5)
  obtain ⟨vm', X', st⟩ := X.thenCaughtThrough q (g := F0 m pc ls rest) rfl (Steps.refl _) (by rw [hT]; exact hcell) (by rw [hv]; rfl) (by obtain ⟨k9, h9, -⟩ := Vm.findClass_spec hcl; exact ⟨k9, h9⟩) pre x suf hsplit
    (fun z hz => by
      rcases hpass z hz with h | ⟨hz0, nm, hl1, hn1⟩
      · exact Or.inl h
      · obtain ⟨c6, hc6, hcl6⟩ := Cond.classLink_spec hown hl1 e.platform hpl
        obtain ⟨a8, b8, h1, h2, h3⟩ := hn1
        cases Option.some.inj (h1.symm.trans hcl)
        cases Option.some.inj (h2.symm.trans hc6)
        exact Or.inr ⟨hz0, _, hcl6, h3⟩) hx (Or.inr ⟨h0, c4, hcl5, hasg⟩)
  obtain ⟨t, a1, b1⟩ := kk (T.setVm vm') hT X'
  exact ⟨t, st.trans a1, b1⟩
end Rows
section Ends
variable {p : Program} {l : Launch} {e : Env} {R : Room} {s : State} {m : MethodId} {args : Array Value} {below : List Frame} {meth : Method} {c : Code} {H : Heap} {locs : List Loc} {cells slots : Nat} {Q : State → Prop}
variable {mc ms : Nat} {free : Addr → Prop} {A0 A1 : Nat → Prop} {H0 : Heap} {a : Array Value} {ls : Array Slot} {st0 rest : List Value}
variable {Qc : Array Value → State → Outcome → State → Prop} {XC : String → State → State → Prop}
/-- what a body that may throw owes at its end -/
def vx_MQ (below : List Frame) (Qc : Array Value → State → Outcome → State → Prop) (XC : String → State → State → Prop) (a : Array Value) (s : State) (mc ms : Nat) (free : Addr → Prop) : State → Prop := fun t =>
  ∃ o, t.status = .running ∧ Ended t below o ∧ vx_Q Qc XC mc ms free a s o t
theorem vx_ret {g : JFrame} {mc ms : Nat} (k : W p l e R s m args below meth c H locs cells slots (MQ below Qc args s mc ms free) g) : W p l e R s m args below meth c H locs cells slots (vx_MQ below Qc XC args s mc ms free) g := by
  intro T hT X
  obtain ⟨t, a1, o, b1, b2, b3, b4⟩ := k T hT X
  exact ⟨t, a1, o, b1, b2, Or.inl ⟨b3, b4⟩⟩
/-- not caught here: it goes on to the caller -/
theorem vx_widen {g : JFrame} {q : Addr} {k n : Nat} (h1 : cells ≤ k) (h2 : slots ≤ n) (kk : vx_W p l e R s m args below meth c H locs k n Q g q) : vx_W p l e R s m args below meth c H locs cells slots Q g q := fun T hT X => kk T hT (stand_widen X h1 h2)
theorem vx_out {pc : Nat} {E : String} {ce : Cell} {q : Addr} {mc ms : Nat} (hout : ∀ x ∈ c.exceptionTable.toList, covers x pc = false) (hlocks : meth.locks = false) (hcell : H[q]? = some ce) (hv : ce.vm = .none) (hcl : s.vm.findClass E = some ce.cls)
    (hx : ∀ t : State, t.heap = H → s.vm.Alike t.vm → XC E s t) (hf : ∀ z ∈ locs, free z.base) (hc : cells ≤ mc) (hs : slots ≤ ms) :
    vx_W p l e R s m args below meth c H locs cells slots (vx_MQ below Qc XC args s mc ms free) (F0 m pc ls rest) q := by
  intro T hT X
  obtain ⟨st1, hrun, hend, hW, hsm⟩ := X.leaveThrown q (g := F0 m pc ls rest) rfl rfl rfl hout hlocks
  have hcell9 : (T.setFrames (.throwing q :: below)).heap[q]? = some ce := by
    show T.heap[q]? = some ce
    rw [hT]; exact hcell
  exact ⟨_, st1, .threw q, hrun, hend, Or.inr ⟨q, rfl, E, ce, locs, hx _ hT hW.alike, hcell9, hv, hcl, hW, hsm.mono hc hs, hf⟩⟩
theorem vx_frame {U : State} {k n : Nat} (h : s.sameButNew ({ U with vm := s.vm } : State) locs k n) : s.heap.size ≤ U.heap.size ∧ ∀ q : Nat, q < s.heap.size → (∀ z ∈ locs, z.base ≠ q) → U.heap[q]? = s.heap[q]? := by
  obtain ⟨-, h2, -, -, -, h6⟩ := h
  refine ⟨h2, fun q hq hz => ?_⟩
  obtain ⟨c9, e1, e2, e3, e4⟩ := h6 q _ (Array.getElem?_eq_getElem hq)
  have hs : c9.slots = (s.heap[q]).slots := Array.ext_getElem? fun i => e4 i fun hm => hz _ hm rfl
  have h9 : c9 = s.heap[q] := by
    rw [hs] at e2
    exact e2
  have e5 : U.heap[q]? = some c9 := e1
  rw [e5, h9, Array.getElem?_eq_getElem hq]
/-- the words of a throw but the four that speak of the heap -/
def vx_no (w : Cond) : Bool := decide (w ≠ .isRef (.static Bundle.tN "UNASSIGNED_STACK" Bundle.steD)) && decide (w ≠ .isRef (.static Bundle.tN "SUPPRESSED_SENTINEL" Bundle.listD)) && decide (w ≠ .laysStatic Bundle.tN "UNASSIGNED_STACK" Bundle.steD) && decide (w ≠ .laysStatic Bundle.tN "SUPPRESSED_SENTINEL" Bundle.listD)
def vx_at0 (own : String) (ic : Nat) (X : String) (names : List String) : List Cond := (Bundle.ownAtoms0 own ic X names).filter vx_no
def vx_atS (own : String) (ic : Nat) (X : String) (names : List String) : List Cond := (Bundle.ownAtoms own ic X names).filter vx_no
/-- a word that the tables alone decide, or a good one -/
def vx_ot (w : Cond) : Bool := w.onTables || goodWord w
theorem vx_ot_at {args a' : Array Value} {s U : State} {w : Cond} (hW : s.WarmedH U.vm) (hvm : s.vm = U.vm) (hg : vx_ot w = true) (h : w.before args s = true) : w.before a' U = true := by
  simp only [vx_ot, Bool.or_eq_true] at hg
  rcases hg with hg | hg
  · exact va_tabs hg hvm h
  · exact word_at hW (good_of_word hg) h
/-- a list's words: the good ones out of the method's own list, the others by premises of their own -/
theorem vx_hat {args : Array Value} {s : State} {L B : List Cond} (h1 : ∀ w ∈ L.filter goodWord, w.before args s = true) (h2 : ∀ w ∈ L.filter (fun w => !goodWord w), w ∈ B) (h3 : ∀ w ∈ B, w.before args s = true) : ∀ w ∈ L, w.before args s = true := by
  intro w hw
  by_cases g : goodWord w = true
  · exact h1 w (List.mem_filter.mpr ⟨hw, g⟩)
  · refine h3 w (h2 w (List.mem_filter.mpr ⟨hw, ?_⟩))
    show (!goodWord w) = true
    cases hgw : goodWord w
    · rfl
    · exact absurd hgw g
theorem vx_c {args : Array Value} {s : State} {w : Cond} {B : List Cond} (h : w.before args s = true) (t : ∀ w ∈ B, w.before args s = true) : ∀ w' ∈ w :: B, w'.before args s = true := fun w' h' => (List.mem_cons.mp h').elim (fun e => by rw [e]; exact h) (t w')
theorem vx_n {args : Array Value} {s : State} : ∀ w ∈ ([] : List Cond), w.before args s = true := fun _ h => nomatch h
theorem vx_own {args : Array Value} {s : State} {L : List Cond} (h1 : ∀ w ∈ L.filter vx_no, w.before args s = true)
    (hU : (Cond.isRef (.static Bundle.tN "UNASSIGNED_STACK" Bundle.steD)).before args s = true) (hN : (Cond.isRef (.static Bundle.tN "SUPPRESSED_SENTINEL" Bundle.listD)).before args s = true)
    (lU : (Cond.laysStatic Bundle.tN "UNASSIGNED_STACK" Bundle.steD).before args s = true) (lN : (Cond.laysStatic Bundle.tN "SUPPRESSED_SENTINEL" Bundle.listD).before args s = true) : ∀ w ∈ L, w.before args s = true := by
  intro w hw
  by_cases e1 : w = .isRef (.static Bundle.tN "UNASSIGNED_STACK" Bundle.steD)
  · rw [e1]; exact hU
  · by_cases e2 : w = .isRef (.static Bundle.tN "SUPPRESSED_SENTINEL" Bundle.listD)
    · rw [e2]; exact hN
    · by_cases e3 : w = .laysStatic Bundle.tN "UNASSIGNED_STACK" Bundle.steD
      · rw [e3]; exact lU
      · by_cases e4 : w = .laysStatic Bundle.tN "SUPPRESSED_SENTINEL" Bundle.listD
        · rw [e4]; exact lN
        · exact h1 w (List.mem_filter.mpr ⟨hw, by unfold vx_no; rw [decide_eq_true e1, decide_eq_true e2, decide_eq_true e3, decide_eq_true e4]; rfl⟩)
/-- where a static field lies, its class's statics cell in H -/
def vx_L (C n d : String) (A : Nat → Prop) (U : State) (H : Heap) : Prop := ∃ (c : ClassId) (k : Class) (i : Nat) (f : Field) (a : Nat) (cell : Cell), U.vm.findClass C = some c ∧ U.fieldFound? C n d = some (c, k, i, f) ∧ f.isStatic = true ∧ k.statics = some a ∧ H[a]? = some cell ∧ cell.vm.isStatics = true ∧ cell.cls = c ∧ f.slot < cell.slots.size ∧ k.staticTypes[f.slot]? = some f.type ∧ ¬ A a
theorem vx_L.moved {C n d : String} {A : Nat → Prop} {u U : State} {H : Heap} (hvm : u.vm.Alike U.vm) (h : vx_L C n d A u H) : vx_L C n d A U H := by
  obtain ⟨c, k, i, f, a, cell, h1, h2, h3, h4, h5, h6, h7, h8, h9, h10⟩ := h
  obtain ⟨k', hi', he⟩ := State.fieldFound?_setVm hvm h2
  exact ⟨c, k', i, f, a, cell, by rw [hvm.findClass]; exact h1, hi', h3, by rw [he]; exact h4, h5, h6, h7, h8, by rw [he]; exact h9, h10⟩
theorem vx_L.kept {C n d : String} {A : Nat → Prop} {U : State} {H H1 : Heap} (h : vx_L C n d A U H) (hq : ∀ a : Nat, a < H.size → ¬ A a → H1[a]? = H[a]?) : vx_L C n d A U H1 := by
  obtain ⟨c, k, i, f, a, cell, h1, h2, h3, h4, h5, h6, h7, h8, h9, h10⟩ := h
  exact ⟨c, k, i, f, a, cell, h1, h2, h3, h4, by rw [hq a (Array.getElem?_eq_some_iff.mp h5).1 h10]; exact h5, h6, h7, h8, h9, h10⟩
theorem vx_L.narrow {C n d : String} {A B : Nat → Prop} {U : State} {H : Heap} (h : vx_L C n d A U H) (hAB : ∀ q, B q → A q) : vx_L C n d B U H := by
  obtain ⟨c, k, i, f, a, cell, h1, h2, h3, h4, h5, h6, h7, h8, h9, h10⟩ := h
  exact ⟨c, k, i, f, a, cell, h1, h2, h3, h4, h5, h6, h7, h8, h9, fun z => h10 (hAB _ z)⟩
theorem vx_L.word {C n d : String} {A : Nat → Prop} {s : State} {args : Array Value} (h : vx_L C n d A s s.heap) : (Cond.laysStatic C n d).before args s = true := by
  obtain ⟨c, k, i, f, a, cell, h1, h2, h3, h4, h5, h6, h7, h8, h9, -⟩ := h
  show (Cond.laysStatic C n d).holds args s none s [] = true
  exact Cond.laysStatic_of h1 h2 h3 h4 h5 h6 h7 h8 h9
/-- .. and what it holds: null or some reference -/
def vx_Zq (C n d : String) (A : Nat → Prop) (U : State) (H : Heap) : Prop := va_Zq C n d A U H ∧ vx_L C n d A U H
theorem vx_Zq.moved {C n d : String} {A : Nat → Prop} {u U : State} {H : Heap} (hvm : u.vm.Alike U.vm) (h : vx_Zq C n d A u H) : vx_Zq C n d A U H := ⟨va_Zq.moved hvm h.1, vx_L.moved hvm h.2⟩
theorem vx_Zq.kept {C n d : String} {A : Nat → Prop} {U : State} {H H1 : Heap} (h : vx_Zq C n d A U H) (hq : ∀ a : Nat, a < H.size → ¬ A a → H1[a]? = H[a]?) : vx_Zq C n d A U H1 := ⟨va_Zq.kept h.1 hq, vx_L.kept h.2 hq⟩
theorem vx_Zq.narrow {C n d : String} {A B : Nat → Prop} {U : State} {H : Heap} (h : vx_Zq C n d A U H) (hAB : ∀ q, B q → A q) : vx_Zq C n d B U H := ⟨va_Zq.narrow h.1 hAB, vx_L.narrow h.2 hAB⟩
theorem vx_Zqof {args : Array Value} {s : State} {C n d : String} {A : Nat → Prop} (hl : (Cond.laysStatic C n d).before args s = true) (hini : (Cond.initialized C).before args s = true) (h : (Cond.isRef (.static C n d)).before args s = true) (hA : ∀ a : Nat, a < s.heap.size → ¬ A a) : vx_Zq C n d A s s.heap := by
  refine ⟨va_Zqof hl hini h hA, ?_⟩
  obtain ⟨c, k, i, f, a, cell, h1, h2, h3, h4, h5, h6, h7, h8, h9⟩ := Cond.laysStatic_spec hl
  exact ⟨c, k, i, f, a, cell, h1, h2, h3, h4, h5, h6, h7, h8, h9, hA a (Array.getElem?_eq_some_iff.mp h5).1⟩
theorem vx_isRef {C n d : String} {v : Value} {A : Nat → Prop} {s : State} {args : Array Value} (h : va_Z C n d v A s s.heap) (hv : v.isRef = true) : (Cond.isRef (.static C n d)).before args s = true := by
  obtain ⟨cf, kf, fi, f, a, cell, h1, h2, h3, h4, h5, h6, h7, -⟩ := h
  have he : (Term.static C n d).eval args s none [] s = some v := by
    simp [Term.eval, State.fieldNamed?, h1, h2, h4, h5, h6, h7]
  simp only [Cond.before, Cond.holds, Cond.value, he]
  cases v <;> simp_all [Value.isRef]
theorem vx_isRefq {C n d : String} {A : Nat → Prop} {s : State} {args : Array Value} (h : va_Zq C n d A s s.heap) : (Cond.isRef (.static C n d)).before args s = true := by
  rcases h with h | ⟨t, h⟩
  · exact vx_isRef h rfl
  · exact vx_isRef h rfl
/-- the same frame, seen from here: as if the method were called anew in this heap -/
theorem vx_rebase {T : State} (X : Stand p l e R s m args below meth c T locs cells slots) {R' : Room} (hf : R'.frames ≤ R.frames) (hl : R'.locals ≤ R.locals) (hc : cells + R'.cells ≤ R.cells) (hs : slots + R'.slots ≤ R.slots) :
    Stand p l e R' ((T.setVm s.vm).setFrames (.invoking m args :: below)) m args below meth c T [] 0 0 := by
  have htop : (T.setVm s.vm).topJava?.isSome := X.here.top
  have hF : ((T.setVm s.vm).setFrames (.invoking m args :: below)).frames = .invoking m args :: below := State.frames_setFrames _ (State.cur_lt_of_top htop)
  obtain ⟨g₀, hg0⟩ := Option.isSome_iff_exists.mp htop
  obtain ⟨r, hr⟩ := State.topJava?_eq_some.mp hg0
  have hl9 : e.platform.stackLimits (T.setVm s.vm).me = e.platform.stackLimits s.me := X.limits
  have hb9 : (T.setVm s.vm).me.stackBytes = s.me.stackBytes := X.bytes
  refine ⟨X.admits, X.cas, X.clock, hF, ?_, X.hears, X.method, X.code, X.here, X.tail, X.warmed, ?_, ?_, ?_⟩
  · have h := X.room
    have hU : ((T.setVm s.vm).setFrames (.invoking m args :: below)).localsInUse = s.localsInUse := by
      rw [State.localsInUse_invoking hF (meth := meth) (c := c) X.method X.code, State.localsInUse_invoking X.frames X.method X.code]
    simp only [State.hasRoom, Bool.and_eq_true, decide_eq_true_eq] at h ⊢
    obtain ⟨⟨⟨⟨h1, h2, h3, h4, h5, h6⟩, h7⟩, h8⟩, h9⟩ := h
    rw [X.frames, List.length_cons] at h2 h3
    have q1 := X.heapSize
    have q2 := X.used
    simp only [hF, hU, List.length_cons, State.stackLimits_setFrames, State.stackBytes_setFrames, hl9, hb9]
    refine ⟨⟨⟨⟨by omega, by omega, by omega, by omega, by omega, h6⟩, ?_⟩, ?_⟩, X.book⟩
    · show T.heap.size + R'.cells ≤ e.platform.maxCells
      omega
    · show T.slotsUsed + R'.slots ≤ e.platform.maxSlots
      omega
  · rw [State.stackLimits_setFrames]; rfl
  · rw [State.stackBytes_setFrames]; rfl
  · refine ⟨?_, Nat.le_refl _, Nat.le_refl _, ?_, ?_, fun a c9 h9 => ⟨c9, h9, rfl, rfl, fun _ _ => rfl⟩⟩
    · obtain ⟨t, ht, -⟩ := State.frames_cons hr
      show T.setVm s.vm = { ((T.setVm s.vm).setFrames (.invoking m args :: below)).setFrames (T.setVm s.vm).frames with heap := T.heap, slotsUsed := T.slotsUsed }
      rw [State.setFrames_setFrames, State.setFrames_self ht]
      rfl
    · show T.slotsUsed = T.slotsUsed + ((T.heap.toList.drop T.heap.size).map (·.slots.size)).sum
      rw [List.drop_eq_nil_of_le (Nat.le_of_eq Array.length_toList)]
      rfl
    · show ((T.heap.toList.drop T.heap.size).map (·.slots.size)).sum ≤ 0
      rw [List.drop_eq_nil_of_le (Nat.le_of_eq Array.length_toList)]
      exact Nat.le_refl _
/-- 'throw new E()': new; dup; invokespecial; athrow -/
theorem vx_throw0 {cc : ByteArray} {pc : Nat} (hexec : p.tables.exec = Jvm.exec) (hb : c.code = cc) (hl : l.stackTraces = false) {own cls : String} {names : List String} {ik ic mc ms : Nat} {A : Nat → Prop}
    (hown : s.vm.findClass own = some m.cls) (hcls : Bundle.fit cls = true) (hnames : ∀ n ∈ names, Bundle.fit n = true)
    (hk : (Cond.classLink own ik cls).before args s = true) (hini : (Cond.initialized cls).before args s = true) (hat : ∀ w ∈ vx_at0 own ic cls names, w.before args s = true)
    (hgood : ∀ w ∈ Cond.classLink own ik cls :: Cond.initialized cls :: vx_at0 own ic cls names, vx_ot w = true)
    (hU : vx_Zq Bundle.tN "UNASSIGNED_STACK" Bundle.steD A s s.heap) (hN : vx_Zq Bundle.tN "SUPPRESSED_SENTINEL" Bundle.listD A s s.heap) (hS : va_S A s.heap H locs) (hsize : ls.size = c.maxLocals)
    (d0 : decode cc pc = .ok (.new ik, 3)) (d3 : decode cc (pc + 3) = .ok (.dup, 1)) (d4 : decode cc (pc + 4) = .ok (.invokespecial ic, 3)) (d7 : decode cc (pc + 7) = .ok (.athrow, 1))
    (hout : ∀ x ∈ c.exceptionTable.toList, covers x (pc + 7) = false)
    (hRframes : names.length + 3 < R.frames) (hRlocals : (rest.map fun v => v.category).sum + (13 * (names.length + 1) + 42) ≤ R.locals) (hRcells : cells + 1 ≤ R.cells) (hRslots : slots + 6 ≤ R.slots) (hlocks : meth.locks = false)
    (hx : ∀ t : State, s.vm.Alike t.vm → H.size ≤ t.heap.size → (∀ q : Nat, q < H.size → t.heap[q]? = H[q]?) → XC cls s t)
    (hf : ∀ z ∈ locs, free z.base) (hc : cells + 1 ≤ mc) (hs : slots + 6 ≤ ms) :
    W p l e R s m args below meth c H locs cells slots (vx_MQ below Qc XC args s mc ms free) (F0 m pc ls rest) := by
  intro T hT X
  have htr : e.platform.stackTraces = false := (show e.platform.stackTraces = l.stackTraces by rw [X.admits.platform]).trans hl
  have Y := vx_rebase X (R' := { frames := R.frames, locals := R.locals, cells := 1, slots := 6 }) (Nat.le_refl _) (Nat.le_refl _) hRcells hRslots
  obtain ⟨s', hA⟩ : ∃ z, z = (T.setVm s.vm).setFrames (.invoking m args :: below) := ⟨_, rfl⟩
  rw [← hA] at Y
  have hvm : s'.vm = s.vm := by rw [hA]; rfl
  have hhp : s'.heap = H := by rw [hA]; exact hT
  have hW0 : s.WarmedH s'.vm := by rw [hvm]; exact State.WarmedH.refl s
  have hat' : ∀ w ∈ vx_at0 own ic cls names, w.before args s' = true := fun w hw => vx_ot_at hW0 hvm.symm (hgood w (List.mem_cons_of_mem _ (List.mem_cons_of_mem _ hw))) (hat w hw)
  have hk' : (Cond.classLink own ik cls).before args s' = true := vx_ot_at hW0 hvm.symm (hgood _ List.mem_cons_self) hk
  have hini' : (Cond.initialized cls).before args s' = true := vx_ot_at hW0 hvm.symm (hgood _ (List.mem_cons_of_mem _ List.mem_cons_self)) hini
  have hU' : vx_Zq Bundle.tN "UNASSIGNED_STACK" Bundle.steD A s' s'.heap := by rw [hhp]; exact vx_Zq.moved hW0.alike (hU.kept hS.2.1)
  have hN' : vx_Zq Bundle.tN "SUPPRESSED_SENTINEL" Bundle.listD A s' s'.heap := by rw [hhp]; exact vx_Zq.moved hW0.alike (hN.kept hS.2.1)
  have h : ∀ w ∈ Bundle.ownAtoms0 own ic cls names, w.before args s' = true := vx_own hat' (vx_isRefq hU'.1) (vx_isRefq hN'.1) hU'.2.word hN'.2.word
  have hown' : s'.vm.findClass own = some m.cls := by rw [hvm]; exact hown
  have hins : (Cond.instantiable cls 6).before args s' = true := h _ (by simp [Bundle.ownAtoms0])
  obtain ⟨vm₁, cX, kX, hfX, hkX, -, -, X₁, st1⟩ := Y.newCold hexec (own := own) (C := cls) (index := ik) (n := 6) hown' hk' hins hini'
    (g := F0 m pc ls rest) rfl (by rw [hb]; exact d0) (Nat.le_refl _) (Nat.le_refl _)
  generalize hT1 : (T.setVm vm₁).pushCell { cls := cX, slots := kX.instanceTypes.map defaultValue, vm := .none } = T1 at X₁ st1
  have hcat : (Value.ref T.heap.size).category = 1 := rfl
  have hcellA : T1.heap[T.heap.size]? = some (freshCell cX kX) := by rw [← hT1]; exact State.heap_pushCell_size _ _
  have d3' : decode c.code (pc + 3) = .ok (.dup, 1) := by rw [hb]; exact d3
  obtain ⟨U, hsteps, hrun, hend, hW, hsame, ce, hce, hO⟩ := X₁.ctorThrow0 hexec htr (own := own) (cls := cls) (names := names) (ic := ic) hown' hcls hnames h (fun x hx => nomatch hx) hfX hkX hcellA (by rw [hhp, hT]; exact Nat.le_refl _)
    (g := { method := m, pc := pc + 4, locals := ls, stack := .ref T.heap.size :: .ref T.heap.size :: rest, locked := none }) rfl hsize rfl rfl (rest := rest) rfl
    (by rw [hb]; exact d4) (by rw [hb]; exact d7) hout hRframes (by simp only [List.map_cons, List.sum_cons, hcat]; omega) hlocks
  obtain ⟨f1, f2⟩ := vx_frame hsame
  rw [hhp] at f1 f2
  have hWs : s.WarmedH U.vm := State.WarmedH.trans hW0 hW
  have hcl : s.vm.findClass cls = some ce.cls := by
    have h9 := hO.cls
    rw [hvm] at h9
    exact h9
  have hall : s.sameButNew ({ U with vm := s.vm } : State) locs mc ms := by
    subst hA
    obtain ⟨e1, e2⟩ := hsame
    rw [State.setFrames_setFrames] at e1
    have h2 : (T.setVm s.vm).sameButNew ({ U with vm := s.vm } : State) [] (0 + 1) (0 + 6) := ⟨e1, e2⟩
    have h3 := X.same.trans h2
    rw [List.append_nil] at h3
    exact h3.mono hc hs
  refine ⟨U, ?_, .threw T.heap.size, hrun, hend, Or.inr ⟨T.heap.size, rfl, cls, ce, locs, hx U hWs.alike f1 (fun q hq => f2 q hq (fun z hz => nomatch hz)), hce, hO.vm, hcl, hWs, hall, hf⟩⟩
  refine st1 _ ?_
  show Steps p.tables e below (T1.setTop { method := m, pc := pc + 3, locals := ls, stack := .ref T.heap.size :: rest, locked := none }) _
  jvm_step X₁.here [X₁.here.top, hexec, d3', Value.category]
  exact hsteps
/-- 'throw new E("text")': new; dup; ldc; invokespecial; athrow -/
theorem vx_throwS {cc : ByteArray} {pc : Nat} (hexec : p.tables.exec = Jvm.exec) (hb : c.code = cc) (hl : l.stackTraces = false) {own cls text : String} {names : List String} {ik is ic mc ms sa : Nat} {A : Nat → Prop}
    (hown : s.vm.findClass own = some m.cls) (hcls : Bundle.fit cls = true) (hnames : ∀ n ∈ names, Bundle.fit n = true)
    (hk : (Cond.classLink own ik cls).before args s = true) (hini : (Cond.initialized cls).before args s = true) (hstr : vk_R own is text sa s) (hat : ∀ w ∈ vx_atS own ic cls names, w.before args s = true)
    (hgood : ∀ w ∈ Cond.classLink own ik cls :: Cond.initialized cls :: vx_atS own ic cls names, vx_ot w = true)
    (hU : vx_Zq Bundle.tN "UNASSIGNED_STACK" Bundle.steD A s s.heap) (hN : vx_Zq Bundle.tN "SUPPRESSED_SENTINEL" Bundle.listD A s s.heap) (hS : va_S A s.heap H locs) (hsize : ls.size = c.maxLocals)
    (d0 : decode cc pc = .ok (.new ik, 3)) (d3 : decode cc (pc + 3) = .ok (.dup, 1)) (d4 : decode cc (pc + 4) = .ok (.ldc is, 2)) (d6 : decode cc (pc + 6) = .ok (.invokespecial ic, 3)) (d9 : decode cc (pc + 9) = .ok (.athrow, 1))
    (hout : ∀ x ∈ c.exceptionTable.toList, covers x (pc + 9) = false)
    (hRframes : names.length + 3 < R.frames) (hRlocals : (rest.map fun v => v.category).sum + (13 * (names.length + 1) + 43) ≤ R.locals) (hRcells : cells + 1 ≤ R.cells) (hRslots : slots + 6 ≤ R.slots) (hlocks : meth.locks = false)
    (hx : ∀ t : State, s.vm.Alike t.vm → H.size ≤ t.heap.size → (∀ q : Nat, q < H.size → t.heap[q]? = H[q]?) → XC cls s t)
    (hf : ∀ z ∈ locs, free z.base) (hc : cells + 1 ≤ mc) (hs : slots + 6 ≤ ms) :
    W p l e R s m args below meth c H locs cells slots (vx_MQ below Qc XC args s mc ms free) (F0 m pc ls rest) := by
  intro T hT X
  have htr : e.platform.stackTraces = false := (show e.platform.stackTraces = l.stackTraces by rw [X.admits.platform]).trans hl
  have Y := vx_rebase X (R' := { frames := R.frames, locals := R.locals, cells := 1, slots := 6 }) (Nat.le_refl _) (Nat.le_refl _) hRcells hRslots
  obtain ⟨s', hA⟩ : ∃ z, z = (T.setVm s.vm).setFrames (.invoking m args :: below) := ⟨_, rfl⟩
  rw [← hA] at Y
  have hvm : s'.vm = s.vm := by rw [hA]; rfl
  have hhp : s'.heap = H := by rw [hA]; exact hT
  have hW0 : s.WarmedH s'.vm := by rw [hvm]; exact State.WarmedH.refl s
  have hat' : ∀ w ∈ vx_atS own ic cls names, w.before args s' = true := fun w hw => vx_ot_at hW0 hvm.symm (hgood w (List.mem_cons_of_mem _ (List.mem_cons_of_mem _ hw))) (hat w hw)
  have hk' : (Cond.classLink own ik cls).before args s' = true := vx_ot_at hW0 hvm.symm (hgood _ List.mem_cons_self) hk
  have hini' : (Cond.initialized cls).before args s' = true := vx_ot_at hW0 hvm.symm (hgood _ (List.mem_cons_of_mem _ List.mem_cons_self)) hini
  have hU' : vx_Zq Bundle.tN "UNASSIGNED_STACK" Bundle.steD A s' s'.heap := by rw [hhp]; exact vx_Zq.moved hW0.alike (hU.kept hS.2.1)
  have hN' : vx_Zq Bundle.tN "SUPPRESSED_SENTINEL" Bundle.listD A s' s'.heap := by rw [hhp]; exact vx_Zq.moved hW0.alike (hN.kept hS.2.1)
  have h : ∀ w ∈ Bundle.ownAtoms own ic cls names, w.before args s' = true := vx_own hat' (vx_isRefq hU'.1) (vx_isRefq hN'.1) hU'.2.word hN'.2.word
  have hown' : s'.vm.findClass own = some m.cls := by rw [hvm]; exact hown
  have hins : (Cond.instantiable cls 6).before args s' = true := h _ (by simp [Bundle.ownAtoms])
  obtain ⟨vm₁, cX, kX, hfX, hkX, -, -, X₁, st1⟩ := Y.newCold hexec (own := own) (C := cls) (index := ik) (n := 6) hown' hk' hins hini'
    (g := F0 m pc ls rest) rfl (by rw [hb]; exact d0) (Nat.le_refl _) (Nat.le_refl _)
  generalize hT1 : (T.setVm vm₁).pushCell { cls := cX, slots := kX.instanceTypes.map defaultValue, vm := .none } = T1 at X₁ st1
  have hcat : (Value.ref T.heap.size).category = 1 := rfl
  have hcellA : T1.heap[T.heap.size]? = some (freshCell cX kX) := by rw [← hT1]; exact State.heap_pushCell_size _ _
  have d3' : decode c.code (pc + 3) = .ok (.dup, 1) := by rw [hb]; exact d3
  have d4' : decode c.code (pc + 4) = .ok (.ldc is, 2) := by rw [hb]; exact d4
  have hstr' : vk_R own is text sa s' := vk_R.warm hW0 hstr
  obtain ⟨U, hsteps, hrun, hend, hW, hsame, ce, hce, hO⟩ := X₁.ctorThrowS hexec htr (own := own) (cls := cls) (names := names) (ic := ic) hown' hcls hnames h (fun x hx => nomatch hx) hfX hkX hcellA (by rw [hhp, hT]; exact Nat.le_refl _) (msg := .ref sa) rfl
    (g := { method := m, pc := pc + 6, locals := ls, stack := .ref sa :: .ref T.heap.size :: .ref T.heap.size :: rest, locked := none }) rfl hsize rfl rfl (rest := rest) rfl
    (by rw [hb]; exact d6) (by rw [hb]; exact d9) hout hRframes (by simp only [List.map_cons, List.sum_cons, hcat]; omega) hlocks
  obtain ⟨f1, f2⟩ := vx_frame hsame
  rw [hhp] at f1 f2
  have hWs : s.WarmedH U.vm := State.WarmedH.trans hW0 hW
  have hcl : s.vm.findClass cls = some ce.cls := by
    have h9 := hO.cls
    rw [hvm] at h9
    exact h9
  have hall : s.sameButNew ({ U with vm := s.vm } : State) locs mc ms := by
    subst hA
    obtain ⟨e1, e2⟩ := hsame
    rw [State.setFrames_setFrames] at e1
    have h2 : (T.setVm s.vm).sameButNew ({ U with vm := s.vm } : State) [] (0 + 1) (0 + 6) := ⟨e1, e2⟩
    have h3 := X.same.trans h2
    rw [List.append_nil] at h3
    exact h3.mono hc hs
  refine ⟨U, ?_, .threw T.heap.size, hrun, hend, Or.inr ⟨T.heap.size, rfl, cls, ce, locs, hx U hWs.alike f1 (fun q hq => f2 q hq (fun z hz => nomatch hz)), hce, hO.vm, hcl, hWs, hall, hf⟩⟩
  refine st1 _ ?_
  show Steps p.tables e below (T1.setTop { method := m, pc := pc + 3, locals := ls, stack := .ref T.heap.size :: rest, locked := none }) _
  jvm_step X₁.here [X₁.here.top, hexec, d3', Value.category]
  exact X₁.ldcString hexec (own := own) (text := text) (index := is) (a := sa) hown' hstr'.1 hstr'.2
    (g := { method := m, pc := pc + 4, locals := ls, stack := .ref T.heap.size :: .ref T.heap.size :: rest, locked := none }) rfl d4' _ hsteps
/-- 'throw new E("text")', the text by a wide index -/
theorem vx_throwSW {cc : ByteArray} {pc : Nat} (hexec : p.tables.exec = Jvm.exec) (hb : c.code = cc) (hl : l.stackTraces = false) {own cls text : String} {names : List String} {ik is ic mc ms sa : Nat} {A : Nat → Prop}
    (hown : s.vm.findClass own = some m.cls) (hcls : Bundle.fit cls = true) (hnames : ∀ n ∈ names, Bundle.fit n = true)
    (hk : (Cond.classLink own ik cls).before args s = true) (hini : (Cond.initialized cls).before args s = true) (hstr : vk_R own is text sa s) (hat : ∀ w ∈ vx_atS own ic cls names, w.before args s = true)
    (hgood : ∀ w ∈ Cond.classLink own ik cls :: Cond.initialized cls :: vx_atS own ic cls names, vx_ot w = true)
    (hU : vx_Zq Bundle.tN "UNASSIGNED_STACK" Bundle.steD A s s.heap) (hN : vx_Zq Bundle.tN "SUPPRESSED_SENTINEL" Bundle.listD A s s.heap) (hS : va_S A s.heap H locs) (hsize : ls.size = c.maxLocals)
    (d0 : decode cc pc = .ok (.new ik, 3)) (d3 : decode cc (pc + 3) = .ok (.dup, 1)) (d4 : decode cc (pc + 4) = .ok (.ldc_w is, 3)) (d7 : decode cc (pc + 7) = .ok (.invokespecial ic, 3)) (d10 : decode cc (pc + 10) = .ok (.athrow, 1))
    (hout : ∀ x ∈ c.exceptionTable.toList, covers x (pc + 10) = false)
    (hRframes : names.length + 3 < R.frames) (hRlocals : (rest.map fun v => v.category).sum + (13 * (names.length + 1) + 43) ≤ R.locals) (hRcells : cells + 1 ≤ R.cells) (hRslots : slots + 6 ≤ R.slots) (hlocks : meth.locks = false)
    (hx : ∀ t : State, s.vm.Alike t.vm → H.size ≤ t.heap.size → (∀ q : Nat, q < H.size → t.heap[q]? = H[q]?) → XC cls s t)
    (hf : ∀ z ∈ locs, free z.base) (hc : cells + 1 ≤ mc) (hs : slots + 6 ≤ ms) :
    W p l e R s m args below meth c H locs cells slots (vx_MQ below Qc XC args s mc ms free) (F0 m pc ls rest) := by
  intro T hT X
  have htr : e.platform.stackTraces = false := (show e.platform.stackTraces = l.stackTraces by rw [X.admits.platform]).trans hl
  have Y := vx_rebase X (R' := { frames := R.frames, locals := R.locals, cells := 1, slots := 6 }) (Nat.le_refl _) (Nat.le_refl _) hRcells hRslots
  obtain ⟨s', hA⟩ : ∃ z, z = (T.setVm s.vm).setFrames (.invoking m args :: below) := ⟨_, rfl⟩
  rw [← hA] at Y
  have hvm : s'.vm = s.vm := by rw [hA]; rfl
  have hhp : s'.heap = H := by rw [hA]; exact hT
  have hW0 : s.WarmedH s'.vm := by rw [hvm]; exact State.WarmedH.refl s
  have hat' : ∀ w ∈ vx_atS own ic cls names, w.before args s' = true := fun w hw => vx_ot_at hW0 hvm.symm (hgood w (List.mem_cons_of_mem _ (List.mem_cons_of_mem _ hw))) (hat w hw)
  have hk' : (Cond.classLink own ik cls).before args s' = true := vx_ot_at hW0 hvm.symm (hgood _ List.mem_cons_self) hk
  have hini' : (Cond.initialized cls).before args s' = true := vx_ot_at hW0 hvm.symm (hgood _ (List.mem_cons_of_mem _ List.mem_cons_self)) hini
  have hU' : vx_Zq Bundle.tN "UNASSIGNED_STACK" Bundle.steD A s' s'.heap := by rw [hhp]; exact vx_Zq.moved hW0.alike (hU.kept hS.2.1)
  have hN' : vx_Zq Bundle.tN "SUPPRESSED_SENTINEL" Bundle.listD A s' s'.heap := by rw [hhp]; exact vx_Zq.moved hW0.alike (hN.kept hS.2.1)
  have h : ∀ w ∈ Bundle.ownAtoms own ic cls names, w.before args s' = true := vx_own hat' (vx_isRefq hU'.1) (vx_isRefq hN'.1) hU'.2.word hN'.2.word
  have hown' : s'.vm.findClass own = some m.cls := by rw [hvm]; exact hown
  have hins : (Cond.instantiable cls 6).before args s' = true := h _ (by simp [Bundle.ownAtoms])
  obtain ⟨vm₁, cX, kX, hfX, hkX, -, -, X₁, st1⟩ := Y.newCold hexec (own := own) (C := cls) (index := ik) (n := 6) hown' hk' hins hini'
    (g := F0 m pc ls rest) rfl (by rw [hb]; exact d0) (Nat.le_refl _) (Nat.le_refl _)
  generalize hT1 : (T.setVm vm₁).pushCell { cls := cX, slots := kX.instanceTypes.map defaultValue, vm := .none } = T1 at X₁ st1
  have hcat : (Value.ref T.heap.size).category = 1 := rfl
  have hcellA : T1.heap[T.heap.size]? = some (freshCell cX kX) := by rw [← hT1]; exact State.heap_pushCell_size _ _
  have d3' : decode c.code (pc + 3) = .ok (.dup, 1) := by rw [hb]; exact d3
  have d4' : decode c.code (pc + 4) = .ok (.ldc_w is, 3) := by rw [hb]; exact d4
  have hstr' : vk_R own is text sa s' := vk_R.warm hW0 hstr
  obtain ⟨U, hsteps, hrun, hend, hW, hsame, ce, hce, hO⟩ := X₁.ctorThrowS hexec htr (own := own) (cls := cls) (names := names) (ic := ic) hown' hcls hnames h (fun x hx => nomatch hx) hfX hkX hcellA (by rw [hhp, hT]; exact Nat.le_refl _) (msg := .ref sa) rfl
    (g := { method := m, pc := pc + 7, locals := ls, stack := .ref sa :: .ref T.heap.size :: .ref T.heap.size :: rest, locked := none }) rfl hsize rfl rfl (rest := rest) rfl
    (by rw [hb]; exact d7) (by rw [hb]; exact d10) hout hRframes (by simp only [List.map_cons, List.sum_cons, hcat]; omega) hlocks
  obtain ⟨f1, f2⟩ := vx_frame hsame
  rw [hhp] at f1 f2
  have hWs : s.WarmedH U.vm := State.WarmedH.trans hW0 hW
  have hcl : s.vm.findClass cls = some ce.cls := by
    have h9 := hO.cls
    rw [hvm] at h9
    exact h9
  have hall : s.sameButNew ({ U with vm := s.vm } : State) locs mc ms := by
    subst hA
    obtain ⟨e1, e2⟩ := hsame
    rw [State.setFrames_setFrames] at e1
    have h2 : (T.setVm s.vm).sameButNew ({ U with vm := s.vm } : State) [] (0 + 1) (0 + 6) := ⟨e1, e2⟩
    have h3 := X.same.trans h2
    rw [List.append_nil] at h3
    exact h3.mono hc hs
  refine ⟨U, ?_, .threw T.heap.size, hrun, hend, Or.inr ⟨T.heap.size, rfl, cls, ce, locs, hx U hWs.alike f1 (fun q hq => f2 q hq (fun z hz => nomatch hz)), hce, hO.vm, hcl, hWs, hall, hf⟩⟩
  refine st1 _ ?_
  show Steps p.tables e below (T1.setTop { method := m, pc := pc + 3, locals := ls, stack := .ref T.heap.size :: rest, locked := none }) _
  jvm_step X₁.here [X₁.here.top, hexec, d3', Value.category]
  exact X₁.ldcStringW hexec (own := own) (text := text) (index := is) (a := sa) hown' hstr'.1 hstr'.2
    (g := { method := m, pc := pc + 4, locals := ls, stack := .ref T.heap.size :: .ref T.heap.size :: rest, locked := none }) rfl d4' _ hsteps
end Ends
section Bodies
variable {l : Launch}
theorem vx_ofW {y : MethodName} {ws ws' : List Cond} {rm : Room} {Pc : Array Value → State → Prop} {Qc : Array Value → State → Outcome → State → Prop} {XC : String → State → State → Prop} {mc ms : Nat} {free : Addr → Prop} {cc : ByteArray} {maxL : Nat} {ret : Option FieldType}
    (hy : plainName y.cls = true) (hw : ws = Cond.code y cc maxL ret :: ws')
    (body : ∀ p e s m args below meth c s₁, BodyLoose p l y (headSpec ws rm) cc maxL ret e s m args below meth c s₁ → c.maxLocals = maxL → (∀ x ∈ c.exceptionTable.toList, False) → Pc args s →
      W p l e (headSpec ws rm).room s m args below meth c s.heap [] 0 0 (vx_MQ below Qc XC args s mc ms free) (entryFrame m args maxL)) : vx_Met l y ws rm Pc Qc XC mc ms free := by
  refine MetFree.of_bodyS (code := cc) (maxLocals := maxL) (ret := ret) hy ?_ ?_
  · intro args s m h hn
    obtain ⟨meth, c, h1, h2, h3, h4, h5, h6, -, -⟩ := Cond.code_spec hn (atoms_spec (ws := ws) h _ (by rw [hw]; exact List.mem_cons_self))
    exact ⟨meth, c, h1, h2, h3, h4, h5, h6⟩
  · intro p e s m args below meth c s₁ B hml hP _
    have hh0 : s₁.heap = s.heap := by rw [B.state]; rfl
    have ht : ∀ x ∈ c.exceptionTable.toList, False := by
      obtain ⟨meth9, c9, h1, h2, -, -, -, -, h7, -⟩ := Cond.code_spec B.named (atoms_spec (ws := ws) B.pre _ (by rw [hw]; exact List.mem_cons_self))
      cases Option.some.inj (h1.symm.trans B.method)
      cases Option.some.inj (h2.symm.trans (Stand.of_body B).code)
      intro x hx
      rw [Array.isEmpty_iff.mp h7] at hx
      cases hx
    obtain ⟨t, a1, o, b1, b2, b3⟩ := body p e s m args below meth c s₁ B hml ht hP s₁ hh0 (Stand.of_body B)
    exact ⟨t, o, a1, b1, b2, b3⟩
/-- the table of a body with handlers -/
theorem vx_table {p : Program} {x y : MethodName} {S : Spec} {cc bytes : ByteArray} {maxL maxL' : Nat} {ret ret' : Option FieldType} {e : Env} {s s₁ : State} {m : MethodId} {args : Array Value} {below : List Frame} {meth : Method} {c : Code} {hh : List (Nat × Nat × Nat × Nat)}
    (B : BodyLoose p l y S cc maxL ret e s m args below meth c s₁) (h : (Cond.codeWith y bytes maxL' ret' hh).before args s = true) : c.exceptionTable.toList = tableOf hh := by
  obtain ⟨m9, meth9, c9, hn9, h1, h2, -, -, h6, -⟩ := Cond.codeWith_spec h
  cases Option.some.inj (hn9.symm.trans B.named)
  cases Option.some.inj (h1.symm.trans B.method)
  cases Option.some.inj (h2.symm.trans (Stand.of_body B).code)
  rw [← h6, table_eq]
end Bodies
end VXA
/-! ===== END ===== -/
/-! ===== BEGIN a static call of a method with an exception table ===== -/
section VXS
variable {p : Program} {l : Launch} {e : Env} {R : Room} {s : State} {m : MethodId} {args : Array Value} {below : List Frame} {meth : Method} {c : Code} {T : State} {H : Heap} {locs : List Loc} {cells slots : Nat}
abbrev vx_CSW (R : Room) (s : State) (args : Array Value) (own : String) (index : Nat) (y : MethodName) (bytes : ByteArray) (maxL : Nat) (ret : Option FieldType) (hh : List (Nat × Nat × Nat × Nat)) (ws : List Cond) (rm : Room) (mc ms n : Nat) : Prop :=
  (rm.cells = mc ∧ rm.slots = ms ∧ rm.frames + 1 ≤ R.frames ∧ 8 + (maxL + 11) + rm.locals ≤ R.locals ∧ (∀ w ∈ ws, ∀ (a' : Array Value) (U : State), s.WarmedH U.vm → w.before a' U = true) ∧ Cond.codeWith y bytes maxL ret hh ∈ ws) ∧
  (Cond.codeWith y bytes maxL ret hh).before args s = true ∧ (Cond.initialized y.cls).before args s = true ∧ (y.cls ≠ "java/lang/invoke/MethodHandle" ∧ y.cls ≠ "java/lang/invoke/VarHandle") ∧
  (∀ sig, parseMethodDescriptor y.desc = some sig → n = sig.parameters.length) ∧ (Cond.methodLink own index y).before args s = true ∧ (Cond.static y).before args s = true
theorem vx_cwSW {own : String} {index maxL mc ms : Nat} {y : MethodName} {bytes : ByteArray} {ret : Option FieldType} {hh : List (Nat × Nat × Nat × Nat)} {Ts ws ws' : List Cond} {rm : Room} (n : Nat) (ht : ∀ w ∈ Ts, w.before args s = true) (hT : GoodIn Ts (va_wsS own index y ws)) (hw : ws = Cond.codeWith y bytes maxL ret hh :: ws') (hrc : rm.cells = mc) (hrs : rm.slots = ms)
    (hd : y.cls ≠ "java/lang/invoke/MethodHandle" ∧ y.cls ≠ "java/lang/invoke/VarHandle" ∧ (parseMethodDescriptor y.desc).map (fun d => d.parameters.length) = some n) (hR : rm.frames + 1 ≤ R.frames ∧ 8 + (maxL + 11) + rm.locals ≤ R.locals) :
    vx_CSW R s args own index y bytes maxL ret hh ws rm mc ms n := by
  have ok : ∀ w ∈ va_wsS own index y ws, w.before args s = true := fun w h => ht w (hT w h).1
  have hG : GoodIn Ts ws := fun w h => hT w (by unfold va_wsS; exact List.mem_append_right _ h)
  have hc : Cond.codeWith y bytes maxL ret hh ∈ ws := by rw [hw]; exact List.mem_cons_self
  refine ⟨⟨hrc, hrs, hR.1, hR.2, pay_in ht hG, hc⟩, ht _ (hG _ hc).1, ok _ (by simp [va_wsS]), ⟨hd.1, hd.2.1⟩, fun sig h => ?_, ok _ (by simp [va_wsS]), ok _ (by simp [va_wsS])⟩
  have h2 := hd.2.2
  rw [h] at h2
  exact (Option.some.inj h2).symm
theorem vx_callSW (X : Stand p l e R s m args below meth c T locs cells slots) (hexec : p.tables.exec = Jvm.exec) {own : String} {index : Nat} {y : MethodName} {bytes : ByteArray} {maxL : Nat} {ret : Option FieldType} {hh : List (Nat × Nat × Nat × Nat)}
    (hown : s.vm.findClass own = some m.cls) (hlink : (Cond.methodLink own index y).before args s = true) (hstat : (Cond.static y).before args s = true) (hinit : (Cond.initialized y.cls).before args s = true)
    (hcode : (Cond.codeWith y bytes maxL ret hh).before args s = true) (hy : y.cls ≠ "java/lang/invoke/MethodHandle" ∧ y.cls ≠ "java/lang/invoke/VarHandle")
    {W9 : Nat} {Pre : Pt → Array Value → Prop} {Post : Pt → Array Value → Option Value → Pt → Prop} (hK : Back l R p e below s args y 3 W9 Pre Post)
    {g : JFrame} (hg : g.method = m) (hsize : g.locals.size = c.maxLocals) {argsL rest : List Value} (hlen : ∀ sig, parseMethodDescriptor y.desc = some sig → argsL.length = sig.parameters.length)
    (hstack : g.stack = argsL.reverse ++ rest) (hW : 2 * g.monitorRoom + (rest.map fun v => v.category).sum ≤ W9) (hdg : decode c.code g.pc = .ok (.invokestatic index, 3))
    (hpre : ∀ vm₁, s.WarmedH vm₁ → Pre ⟨T.setVm vm₁, locs, cells, slots⟩ argsL.toArray) :
    ∃ (v : Option Value) (vm₁ : Vm) (B : Pt), s.WarmedH vm₁ ∧ Stand p l e R s m args below meth c B.U B.locs B.cells B.slots ∧ Post ⟨T.setVm vm₁, locs, cells, slots⟩ argsL.toArray v B ∧
      ∀ target, Steps p.tables e below (B.U.setTop { g with pc := g.pc + 3, stack := v.toList ++ rest }) target → Steps p.tables e below (T.setTop g) target := by
  obtain ⟨mk, methM, cM, hnamed, hmethM, -, -, -, -, -, -, hsigM⟩ := Cond.codeWith_spec hcode
  have hstatic : methM.isStatic = true := Cond.static_spec hnamed hmethM hstat
  obtain ⟨kP, hkP, -⟩ := className_of_methodNamed hnamed
  have hinitP : kP.init = .initialized := Cond.initialized_spec (findClass_of_methodNamed hnamed) hkP hinit
  obtain ⟨vm₁, X₁, hstep₁⟩ := X.invokestatic hexec hown hlink hnamed hmethM hstatic hkP hinitP hy (g := g) hg (argsL := argsL) (rest := rest) (hlen _ hsigM) hstack hdg
  obtain ⟨v, B, X', hpost, hsteps⟩ := hK m meth c ⟨T.setVm vm₁, locs, cells, slots⟩ { g with stack := rest } (.invokestatic index) mk argsL.toArray X₁ hg hsize hdg hW (X₁.named hnamed) (hpre vm₁ X₁.warmed)
  exact ⟨v, vm₁, B, X₁.warmed, X', hpost, fun target h => hstep₁ _ fun acts => by rw [doInvoke_state]; exact hsteps.trans h⟩
theorem vx_runSW {y : MethodName} {bytes cc : ByteArray} {maxL nL mc ms n index : Nat} {ret : Option FieldType} {hh : List (Nat × Nat × Nat × Nat)} {ws : List Cond} {rm : Room} {Pc : Array Value → State → Prop} {Qc : Array Value → State → Outcome → State → Prop} {free : Addr → Prop} {Ts : List Cond} {own : String} {As rest : List Value} {g : JFrame}
    (S : CallFix p m c cc nL s args Ts own) (hM : Met l y ws rm Pc Qc mc ms free) (cw : vx_CSW R s args own index y bytes maxL ret hh ws rm mc ms n) (hp : PreS s H Pc As)
    (hg : g.method = m) (hn : As.length = n) (hsize : g.locals.size = nL) (hstack : g.stack = As.reverse ++ rest) (hW : 2 * g.monitorRoom + (rest.map fun v => v.category).sum ≤ 8) (hdg : decode cc g.pc = .ok (.invokestatic index, 3)) (hf : cells + mc ≤ R.cells ∧ slots + ms ≤ R.slots) :
    va_Run p l e R s m args below meth c H locs cells slots mc ms g rest (Qc As.toArray) (free) := by
  obtain ⟨⟨hrc, hrs, hfr, hlo, hws, hcw⟩, hcode, hini, hy, hlen, hl, hstt⟩ := cw
  have hK : Back l R p e below s args y 3 8 (PreOf R mc ms Pc) (PostOf Qc mc ms free) := va_backW (hh := hh) (bytes := bytes) (maxL := maxL) (ret := ret) hM hp.1 hrc hrs hfr hlo hws hcw (fun a' U hW => word_at hW (Or.inl (by first | rfl | simp [Cond.onTables, Cond.keeps, Cond.steady])) hini)
  obtain ⟨hx, hb, hml, ho, -⟩ := S
  intro T hT X
  obtain ⟨v, vm₁, ⟨U', l2, c2, s2⟩, hW₁, X', ⟨g', mk, t, L, e1, e2, hq, h1, hL, h2, h3⟩, st⟩ := vx_callSW X hx (hh := hh) (bytes := bytes) (maxL := maxL) (ret := ret) ho hl hstt hini hcode hy hK hg (hsize.trans hml.symm) (argsL := As) (rest := rest) (fun sig h => hn.trans (hlen sig h)) hstack hW (by rw [hb]; exact hdg)
    (fun vm₁ hW₁ => ⟨hf.1, hf.2, hp.2 (T.setVm vm₁) hT hW₁⟩)
  dsimp only [Pt.U, Pt.locs, Pt.cells, Pt.slots] at X' e1 e2 h1 h2 h3 st
  subst h1; subst h2; subst h3
  exact ⟨v, (T.setVm vm₁).calling g' mk As.toArray, t, U', L, hT, X', hL, e1, e2, hq, st⟩
/-- not caught here, past rows that name other classes: it goes on to the caller -/
theorem vx_outP {p : Program} {l : Launch} {e : Env} {R : Room} {s : State} {m : MethodId} {args : Array Value} {below : List Frame} {meth : Method} {c : Code} {H : Heap} {locs : List Loc} {cells slots : Nat} {free : Addr → Prop} {ls : Array Slot} {rest : List Value} {Qc : Array Value → State → Outcome → State → Prop} {XC : String → State → State → Prop}
    {pc : Nat} {own E : String} {ce : Cell} {q : Addr} {mc ms : Nat} (hown : s.vm.findClass own = some m.cls) (hlocks : meth.locks = false)
    (hpass : ∀ z ∈ c.exceptionTable.toList, covers z pc = false ∨ (z.catchType ≠ 0 ∧ ∃ nm : String, (Cond.classLink own z.catchType nm).before args s = true ∧ va_Nc E nm s)) (hcell : H[q]? = some ce) (hv : ce.vm = .none) (hcl : s.vm.findClass E = some ce.cls)
    (hx : ∀ t : State, t.heap = H → s.vm.Alike t.vm → XC E s t) (hf : ∀ z ∈ locs, free z.base) (hc : cells ≤ mc) (hs : slots ≤ ms) :
    vx_W p l e R s m args below meth c H locs cells slots (vx_MQ below Qc XC args s mc ms free) (F0 m pc ls rest) q := by
  intro T hT X
  have hpl : e.platform.magicAccessors = ({} : Platform).magicAccessors := by rw [X.admits.platform]
  obtain ⟨vm', hW', X', st⟩ := X.outThrough hlocks q (g := F0 m pc ls rest) rfl rfl rfl (cell := ce) (by rw [hT]; exact hcell) (by rw [hv]; rfl)
    (by obtain ⟨k9, h9, -⟩ := Vm.findClass_spec hcl; exact ⟨k9, h9⟩) (fun z hz => by
      rcases hpass z hz with h | ⟨hz0, nm, hl1, hn1⟩
      · exact Or.inl h
      · obtain ⟨c6, hc6, hcl6⟩ := Cond.classLink_spec hown hl1 e.platform hpl
        obtain ⟨a8, b8, h1, h2, h3⟩ := hn1
        cases Option.some.inj (h1.symm.trans hcl)
        cases Option.some.inj (h2.symm.trans hc6)
        exact Or.inr ⟨hz0, _, hcl6, h3⟩)
  obtain ⟨g₀, hfr⟩ := X'.frames_eq
  have hcell9 : ((T.setVm vm').setFrames (.throwing q :: below)).heap[q]? = some ce := by
    show T.heap[q]? = some ce
    rw [hT]; exact hcell
  have hend : Ended ((T.setVm vm').setFrames (.throwing q :: below)) below (.threw q) := State.frames_setFrames _ (State.cur_lt_of_frames hfr)
  refine ⟨(T.setVm vm').setFrames (.throwing q :: below), ?_, .threw q, X'.here.running, hend, Or.inr ⟨q, rfl, E, ce, locs, hx _ hT (X'.ends _).1.alike, hcell9, hv, hcl, (X'.ends _).1, (X'.ends _).2.mono hc hs, hf⟩⟩
  rw [X.pushThrowing_eq]
  exact st
/-- a thing of a world lies in the heap -/
theorem vx_lt {D : va_G} {cl : List vw_C} {ws : va_W} {H1 : Heap} (h : va_P D cl ws H1) {k : Nat} {q : Nat × va_E} (hk : ws[k]? = some q) : q.1 < H1.size := (h k q hk).lt
end VXS
/-! ===== END ===== -/
/-! ===== BEGIN methods with a table of their own: called by a name, returning or throwing ===== -/
section VXH
/-! vx_backW, vx_callVX, vx_callSX, vx_callVW, vx_runVW, vx_runVX, vx_runSX, vx_ofWH follow the same proofs as their sisters above (Free/Laws.lean, Shelf42/LK1.lean); vx_outP calls Shelf42/NT130.lean (outThrough). -/
section
variable {l : Launch} {R : Room} {p : Program} {e : Env} {below : List Frame} {s : State} {sargs : Array Value} {y : MethodName} {len W9 : Nat}
theorem vx_backW {ws : List Cond} {rm : Room} {Pc : Array Value → State → Prop} {Qc : Array Value → State → Outcome → State → Prop} {XC : String → State → State → Prop} {mc ms : Nat} {free : Addr → Prop} {bytes : ByteArray} {maxL : Nat} {ret : Option FieldType} {hh : List (Nat × Nat × Nat × Nat)}
    (hM : vx_Met l y ws rm Pc Qc XC mc ms free) (hblind : FrameBlind Pc) (hrc : rm.cells = mc) (hrs : rm.slots = ms)
    (hframes : rm.frames + 1 ≤ R.frames) (hlocals : W9 + (maxL + 11) + rm.locals ≤ R.locals)
    (hws : ∀ w ∈ ws, ∀ a' U, s.WarmedH U.vm → w.before a' U = true) (hcode : Cond.codeWith y bytes maxL ret hh ∈ ws) (hinit : ∀ a' U, s.WarmedH U.vm → (Cond.initialized y.cls).before a' U = true) :
    vx_Back l R p e below s sargs y len W9 (PreOf R mc ms Pc) (PostOf Qc mc ms free) (vx_Post XC mc ms free) := by
  intro m meth c A g ig mk a X hg hsize hdg hW hn hp
  have h1 : (headSpec ws rm).pre.before a A.U = true := atoms_intro fun w hw => hws w hw _ _ X.warmed
  have h2 : (Cond.codeWith y bytes maxL ret hh).before a A.U = true := hws _ hcode _ _ X.warmed
  have h3 : (Cond.initialized y.cls).before a A.U = true := hinit _ _ X.warmed
  have h4 : A.cells + (headSpec ws rm).room.cells ≤ R.cells := by rw [show (headSpec ws rm).room.cells = mc from hrc]; exact hp.1
  have h5 : A.slots + (headSpec ws rm).room.slots ≤ R.slots := by rw [show (headSpec ws rm).room.slots = ms from hrs]; exact hp.2.1
  have hPc : Pc a (A.U.calling g mk a) := hblind _ _ _ _ hp.2.2
  obtain ⟨U, Ls, c0, s0⟩ := A
  dsimp only [Pt.U, Pt.locs, Pt.cells, Pt.slots] at h1 h2 h3 h4 h5 X hn hPc ⊢
  obtain ⟨m9, methY, cY, hn9, hmY, hcY, -, hlY, -⟩ := Cond.codeWith_spec h2
  cases Option.some.inj (hn9.symm.trans hn)
  obtain ⟨kY, hkY, -⟩ := className_of_methodNamed hn
  have hinitY : kY.init = .initialized := Cond.initialized_spec (findClass_of_methodNamed hn) hkY h3
  have h : At U g.method c below := by rw [hg]; exact X.here
  have hlocals9 : W9 + (maxL + 11) + (headSpec ws rm).room.locals ≤ R.locals := hlocals
  have happ : (headSpec ws rm).appliesLoose y e.platform (U.calling g mk a) = true :=
    Spec.appliesLoose_calling (g := g) h hdg hn hkY hinitY
      (X.room_calling (g := g) (R' := (headSpec ws rm).room) hsize hmY hcY hframes (by rw [hlY]; omega) h4 h5) h1
  obtain ⟨mid, hmid⟩ := h.above
  have hfr : (U.setTop g).frames = (.java g :: mid) ++ below := by rw [State.frames_setTop' g h.top, hmid]; rfl
  obtain ⟨o, s₂, hsteps, -, hend, hq⟩ := Steps.callFree hM p X.admits X.cas X.clock (acts := []) hfr happ hPc trivial
  have hq' : vx_Q Qc XC mc ms free a (U.calling g mk a) o s₂ := hq
  rw [State.frames_setTop' g h.top] at hend
  obtain ⟨g₀, hg0⟩ := Option.isSome_iff_exists.mp h.top
  obtain ⟨r, hr⟩ := State.topJava?_eq_some.mp hg0
  have hr' : (({ U with heap := s₂.heap, slotsUsed := s₂.slotsUsed } : State).setVm s₂.vm).frames = .java g₀ :: r := hr
  rcases hq' with ⟨hqc, L, hfe, hL⟩ | ⟨q, rfl, E, ce, L, hx, hce, hcv, hcl, hW₂, hsm, hL⟩
  · obtain ⟨⟨v, rfl⟩, hW₂, e2, q2, q3, q4, q5, q6⟩ := id hfe
    have e3 : s₂ = ({ (U.calling g mk a).setFrames s₂.frames with heap := s₂.heap, slotsUsed := s₂.slotsUsed } : State).setVm s₂.vm := by
      have : s₂ = ({ s₂ with vm := (U.calling g mk a).vm } : State).setVm s₂.vm := rfl
      rw [e2] at this
      exact this
    obtain ⟨c₂, i₂, len₂, hc₂, hd₂, hf₂⟩ := hend
    have hW' : U.WarmedH s₂.vm := hW₂
    have hcc : c₂ = c := by
      have h1 : s₂.code? g.method = U.code? g.method := by
        rw [State.code?_eq, State.code?_eq, hW'.alike.method?]
      exact Option.some.inj (hc₂.symm.trans (h1.trans h.code))
    subst hcc
    have hlen : len₂ = len := by rw [hdg] at hd₂; cases hd₂; rfl
    subst hlen
    have hs₂ : s₂ = (({ U with heap := s₂.heap, slotsUsed := s₂.slotsUsed } : State).setVm s₂.vm).setTop { g with pc := g.pc + len₂, stack := v.toList ++ g.stack } := by
      refine e3.trans ?_
      rw [hf₂, State.calling_eq h.top, State.setFrames_setFrames, State.setTop_of_frames _ hr', hr]
      rfl
    have hsame : U.sameButNew ({ U with heap := s₂.heap, slotsUsed := s₂.slotsUsed } : State) L mc ms := by
      refine ⟨?_, q2, q3, q4, q5, q6⟩
      obtain ⟨t, ht, -⟩ := State.frames_cons hr
      show ({ U with heap := s₂.heap, slotsUsed := s₂.slotsUsed } : State) = { U.setFrames U.frames with heap := s₂.heap, slotsUsed := s₂.slotsUsed }
      rw [State.setFrames_self ht]
    subst hg
    refine Or.inl ⟨v, ⟨(({ U with heap := s₂.heap, slotsUsed := s₂.slotsUsed } : State).setVm s₂.vm), Ls ++ L, c0 + mc, s0 + ms⟩,
      ⟨X.admits, X.cas, X.clock, X.frames, X.room, X.hears, X.method, X.code, (X.here.setHeapUsed s₂.heap s₂.slotsUsed).setVm hW'.alike, X.tail, State.WarmedH.trans X.warmed hW', X.limits, X.bytes, X.same.trans (hsame.setVm s.vm)⟩,
      ⟨g, mk, s₂, L, rfl, rfl, hqc, rfl, hL, rfl, rfl⟩, ?_⟩
    show Steps p.tables e below _ ((({ U with heap := s₂.heap, slotsUsed := s₂.slotsUsed } : State).setVm s₂.vm).setTop { g with pc := g.pc + len₂, stack := v.toList ++ g.stack })
    rw [← hs₂]
    exact hsteps
  · obtain ⟨e2, q2, q3, q4, q5, q6⟩ := id hsm
    have e3 : s₂ = ({ (U.calling g mk a).setFrames s₂.frames with heap := s₂.heap, slotsUsed := s₂.slotsUsed } : State).setVm s₂.vm := by
      have : s₂ = ({ s₂ with vm := (U.calling g mk a).vm } : State).setVm s₂.vm := rfl
      rw [e2] at this
      exact this
    have hf₂ : s₂.frames = .throwing q :: .java g :: U.frames.tail := hend
    have hW' : U.WarmedH s₂.vm := hW₂
    have hs₂ : s₂ = ((({ U with heap := s₂.heap, slotsUsed := s₂.slotsUsed } : State).setVm s₂.vm).setTop g).pushFrame (.throwing q) := by
      refine e3.trans ?_
      rw [hf₂, State.calling_eq h.top, State.setFrames_setFrames, State.pushFrame, State.frames_setTop _ hr', State.setTop_of_frames _ hr', State.setFrames_setFrames, hr]
      rfl
    have hsame : U.sameButNew ({ U with heap := s₂.heap, slotsUsed := s₂.slotsUsed } : State) L mc ms := by
      refine ⟨?_, q2, q3, q4, q5, q6⟩
      obtain ⟨t, ht, -⟩ := State.frames_cons hr
      show ({ U with heap := s₂.heap, slotsUsed := s₂.slotsUsed } : State) = { U.setFrames U.frames with heap := s₂.heap, slotsUsed := s₂.slotsUsed }
      rw [State.setFrames_self ht]
    subst hg
    refine Or.inr ⟨q, ⟨(({ U with heap := s₂.heap, slotsUsed := s₂.slotsUsed } : State).setVm s₂.vm), Ls ++ L, c0 + mc, s0 + ms⟩,
      ⟨X.admits, X.cas, X.clock, X.frames, X.room, X.hears, X.method, X.code, (X.here.setHeapUsed s₂.heap s₂.slotsUsed).setVm hW'.alike, X.tail, State.WarmedH.trans X.warmed hW', X.limits, X.bytes, X.same.trans (hsame.setVm s.vm)⟩,
      ⟨g, mk, s₂, L, E, ce, rfl, rfl, hx, hce, hcv, hcl, rfl, hL, rfl, rfl⟩, ?_⟩
    show Steps p.tables e below _ (((({ U with heap := s₂.heap, slotsUsed := s₂.slotsUsed } : State).setVm s₂.vm).setTop g).pushFrame (.throwing q))
    rw [← hs₂]
    exact hsteps
end
variable {p : Program} {l : Launch} {e : Env} {R : Room} {s : State} {m : MethodId} {args : Array Value} {below : List Frame} {meth : Method} {c : Code} {T : State} {H : Heap} {locs : List Loc} {cells slots : Nat}
theorem vx_callVX (X : Stand p l e R s m args below meth c T locs cells slots) (hexec : p.tables.exec = Jvm.exec) {own C : String} {index : Nat} {y : MethodName} {bytes : ByteArray} {maxL : Nat} {ret : Option FieldType} {hh : List (Nat × Nat × Nat × Nat)}
    (hown : s.vm.findClass own = some m.cls) (hlink : (Cond.methodLink own index y).before args s = true) (hinst : (Cond.instanceMethod y).before args s = true) (hsel : (Cond.selects C y y).before args s = true)
    (hcode : (Cond.codeWith y bytes maxL ret hh).before args s = true) (hy : y.cls ≠ "java/lang/invoke/MethodHandle" ∧ y.cls ≠ "java/lang/invoke/VarHandle")
    {W9 : Nat} {Pre : Pt → Array Value → Prop} {Post : Pt → Array Value → Option Value → Pt → Prop} {PostX : Pt → Array Value → Addr → Pt → Prop} (hK : vx_Back l R p e below s args y 3 W9 Pre Post PostX)
    {b : Addr} {cellB : Cell} (hcell : T.heap[b]? = some cellB) (hobj : cellB.vm.isStatics = false) (hcls : s.vm.findClass C = some cellB.cls)
    {g : JFrame} (hg : g.method = m) (hsize : g.locals.size = c.maxLocals) {argsL rest : List Value} (hlen : ∀ sig, parseMethodDescriptor y.desc = some sig → argsL.length = sig.parameters.length)
    (hstack : g.stack = argsL.reverse ++ .ref b :: rest) (hW : 2 * g.monitorRoom + (rest.map fun v => v.category).sum ≤ W9) (hdg : decode c.code g.pc = .ok (.invokevirtual index, 3))
    (hpre : ∀ vm₁, s.WarmedH vm₁ → Pre ⟨T.setVm vm₁, locs, cells, slots⟩ (Value.ref b :: argsL).toArray) :
    (∃ (v : Option Value) (vm₁ : Vm) (B : Pt), s.WarmedH vm₁ ∧ Stand p l e R s m args below meth c B.U B.locs B.cells B.slots ∧ Post ⟨T.setVm vm₁, locs, cells, slots⟩ (Value.ref b :: argsL).toArray v B ∧
      ∀ target, Steps p.tables e below (B.U.setTop { g with pc := g.pc + 3, stack := v.toList ++ rest }) target → Steps p.tables e below (T.setTop g) target) ∨
    (∃ (q : Addr) (vm₁ : Vm) (B : Pt), s.WarmedH vm₁ ∧ Stand p l e R s m args below meth c B.U B.locs B.cells B.slots ∧ PostX ⟨T.setVm vm₁, locs, cells, slots⟩ (Value.ref b :: argsL).toArray q B ∧
      Steps p.tables e below (T.setTop g) ((B.U.setTop { g with stack := rest }).pushFrame (.throwing q))) := by
  obtain ⟨mk, methM, hnamed, hmethM, hstM, habM⟩ := Cond.instanceMethod_spec hinst
  obtain ⟨m8, methM', cM, hn8, hmethM', -, -, -, -, -, -, hsigM⟩ := Cond.codeWith_spec hcode
  cases Option.some.inj (hn8.symm.trans hnamed)
  cases hmethM.symm.trans hmethM'
  obtain ⟨c2, r2, m2, q1, q2, q3, q4, kP, hkP, hkPi⟩ := Cond.selects_spec hsel
  cases hcls.symm.trans q1
  cases (State.methodFound?_of_named hnamed hy).symm.trans q2
  cases hnamed.symm.trans q3
  have hselP : selectMethod e.platform s.vm cellB.cls mk = .method mk := by rw [Launch.admits_selectMethod X.admits]; exact q4
  obtain ⟨vm₁, X₁, hstep₁⟩ := X.invokevirtual hexec hown hlink hnamed hmethM hstM hkP hkPi hy (a := b) (cell := cellB) hcell
    (fun z h => by rw [h] at hobj; cases hobj) hselP hmethM habM hkP hkPi (g := g) hg (argsL := argsL) (rest := rest) (hlen _ hsigM) hstack hdg
  rcases hK m meth c ⟨T.setVm vm₁, locs, cells, slots⟩ { g with stack := rest } (.invokevirtual index) mk (Value.ref b :: argsL).toArray X₁ hg hsize hdg hW (X₁.named hnamed) (hpre vm₁ X₁.warmed) with ⟨v, B, X', hpost, hsteps⟩ | ⟨q, B, X', hpost, hsteps⟩
  · exact Or.inl ⟨v, vm₁, B, X₁.warmed, X', hpost, fun target h => hstep₁ _ fun acts => by rw [doInvoke_state]; exact hsteps.trans h⟩
  · exact Or.inr ⟨q, vm₁, B, X₁.warmed, X', hpost, hstep₁ _ fun acts => by rw [doInvoke_state]; exact hsteps⟩
theorem vx_callSX (X : Stand p l e R s m args below meth c T locs cells slots) (hexec : p.tables.exec = Jvm.exec) {own : String} {index : Nat} {y : MethodName} {bytes : ByteArray} {maxL : Nat} {ret : Option FieldType} {hh : List (Nat × Nat × Nat × Nat)}
    (hown : s.vm.findClass own = some m.cls) (hlink : (Cond.methodLink own index y).before args s = true) (hstat : (Cond.static y).before args s = true) (hinit : (Cond.initialized y.cls).before args s = true)
    (hcode : (Cond.codeWith y bytes maxL ret hh).before args s = true) (hy : y.cls ≠ "java/lang/invoke/MethodHandle" ∧ y.cls ≠ "java/lang/invoke/VarHandle")
    {W9 : Nat} {Pre : Pt → Array Value → Prop} {Post : Pt → Array Value → Option Value → Pt → Prop} {PostX : Pt → Array Value → Addr → Pt → Prop} (hK : vx_Back l R p e below s args y 3 W9 Pre Post PostX)
    {g : JFrame} (hg : g.method = m) (hsize : g.locals.size = c.maxLocals) {argsL rest : List Value} (hlen : ∀ sig, parseMethodDescriptor y.desc = some sig → argsL.length = sig.parameters.length)
    (hstack : g.stack = argsL.reverse ++ rest) (hW : 2 * g.monitorRoom + (rest.map fun v => v.category).sum ≤ W9) (hdg : decode c.code g.pc = .ok (.invokestatic index, 3))
    (hpre : ∀ vm₁, s.WarmedH vm₁ → Pre ⟨T.setVm vm₁, locs, cells, slots⟩ argsL.toArray) :
    (∃ (v : Option Value) (vm₁ : Vm) (B : Pt), s.WarmedH vm₁ ∧ Stand p l e R s m args below meth c B.U B.locs B.cells B.slots ∧ Post ⟨T.setVm vm₁, locs, cells, slots⟩ argsL.toArray v B ∧
      ∀ target, Steps p.tables e below (B.U.setTop { g with pc := g.pc + 3, stack := v.toList ++ rest }) target → Steps p.tables e below (T.setTop g) target) ∨
    (∃ (q : Addr) (vm₁ : Vm) (B : Pt), s.WarmedH vm₁ ∧ Stand p l e R s m args below meth c B.U B.locs B.cells B.slots ∧ PostX ⟨T.setVm vm₁, locs, cells, slots⟩ argsL.toArray q B ∧
      Steps p.tables e below (T.setTop g) ((B.U.setTop { g with stack := rest }).pushFrame (.throwing q))) := by
  obtain ⟨mk, methM, cM, hnamed, hmethM, -, -, -, -, -, -, hsigM⟩ := Cond.codeWith_spec hcode
  have hstatic : methM.isStatic = true := Cond.static_spec hnamed hmethM hstat
  obtain ⟨kP, hkP, -⟩ := className_of_methodNamed hnamed
  have hinitP : kP.init = .initialized := Cond.initialized_spec (findClass_of_methodNamed hnamed) hkP hinit
  obtain ⟨vm₁, X₁, hstep₁⟩ := X.invokestatic hexec hown hlink hnamed hmethM hstatic hkP hinitP hy (g := g) hg (argsL := argsL) (rest := rest) (hlen _ hsigM) hstack hdg
  rcases hK m meth c ⟨T.setVm vm₁, locs, cells, slots⟩ { g with stack := rest } (.invokestatic index) mk argsL.toArray X₁ hg hsize hdg hW (X₁.named hnamed) (hpre vm₁ X₁.warmed) with ⟨v, B, X', hpost, hsteps⟩ | ⟨q, B, X', hpost, hsteps⟩
  · exact Or.inl ⟨v, vm₁, B, X₁.warmed, X', hpost, fun target h => hstep₁ _ fun acts => by rw [doInvoke_state]; exact hsteps.trans h⟩
  · exact Or.inr ⟨q, vm₁, B, X₁.warmed, X', hpost, hstep₁ _ fun acts => by rw [doInvoke_state]; exact hsteps⟩
theorem vx_callVW (X : Stand p l e R s m args below meth c T locs cells slots) (hexec : p.tables.exec = Jvm.exec) {own C : String} {index : Nat} {y : MethodName} {bytes : ByteArray} {maxL : Nat} {ret : Option FieldType} {hh : List (Nat × Nat × Nat × Nat)}
    (hown : s.vm.findClass own = some m.cls) (hlink : (Cond.methodLink own index y).before args s = true) (hinst : (Cond.instanceMethod y).before args s = true) (hsel : (Cond.selects C y y).before args s = true)
    (hcode : (Cond.codeWith y bytes maxL ret hh).before args s = true) (hy : y.cls ≠ "java/lang/invoke/MethodHandle" ∧ y.cls ≠ "java/lang/invoke/VarHandle")
    {W9 : Nat} {Pre : Pt → Array Value → Prop} {Post : Pt → Array Value → Option Value → Pt → Prop} (hK : Back l R p e below s args y 3 W9 Pre Post)
    {b : Addr} {cellB : Cell} (hcell : T.heap[b]? = some cellB) (hobj : cellB.vm.isStatics = false) (hcls : s.vm.findClass C = some cellB.cls)
    {g : JFrame} (hg : g.method = m) (hsize : g.locals.size = c.maxLocals) {argsL rest : List Value} (hlen : ∀ sig, parseMethodDescriptor y.desc = some sig → argsL.length = sig.parameters.length)
    (hstack : g.stack = argsL.reverse ++ .ref b :: rest) (hW : 2 * g.monitorRoom + (rest.map fun v => v.category).sum ≤ W9) (hdg : decode c.code g.pc = .ok (.invokevirtual index, 3))
    (hpre : ∀ vm₁, s.WarmedH vm₁ → Pre ⟨T.setVm vm₁, locs, cells, slots⟩ (Value.ref b :: argsL).toArray) :
    ∃ (v : Option Value) (vm₁ : Vm) (B : Pt), s.WarmedH vm₁ ∧ Stand p l e R s m args below meth c B.U B.locs B.cells B.slots ∧ Post ⟨T.setVm vm₁, locs, cells, slots⟩ (Value.ref b :: argsL).toArray v B ∧
      ∀ target, Steps p.tables e below (B.U.setTop { g with pc := g.pc + 3, stack := v.toList ++ rest }) target → Steps p.tables e below (T.setTop g) target := by
  obtain ⟨mk, methM, hnamed, hmethM, hstM, habM⟩ := Cond.instanceMethod_spec hinst
  obtain ⟨m8, methM', cM, hn8, hmethM', -, -, -, -, -, -, hsigM⟩ := Cond.codeWith_spec hcode
  cases Option.some.inj (hn8.symm.trans hnamed)
  cases hmethM.symm.trans hmethM'
  obtain ⟨c2, r2, m2, q1, q2, q3, q4, kP, hkP, hkPi⟩ := Cond.selects_spec hsel
  cases hcls.symm.trans q1
  cases (State.methodFound?_of_named hnamed hy).symm.trans q2
  cases hnamed.symm.trans q3
  have hselP : selectMethod e.platform s.vm cellB.cls mk = .method mk := by rw [Launch.admits_selectMethod X.admits]; exact q4
  obtain ⟨vm₁, X₁, hstep₁⟩ := X.invokevirtual hexec hown hlink hnamed hmethM hstM hkP hkPi hy (a := b) (cell := cellB) hcell
    (fun z h => by rw [h] at hobj; cases hobj) hselP hmethM habM hkP hkPi (g := g) hg (argsL := argsL) (rest := rest) (hlen _ hsigM) hstack hdg
  obtain ⟨v, B, X', hpost, hsteps⟩ := hK m meth c ⟨T.setVm vm₁, locs, cells, slots⟩ { g with stack := rest } (.invokevirtual index) mk (Value.ref b :: argsL).toArray X₁ hg hsize hdg hW (X₁.named hnamed) (hpre vm₁ X₁.warmed)
  exact ⟨v, vm₁, B, X₁.warmed, X', hpost, fun target h => hstep₁ _ fun acts => by rw [doInvoke_state]; exact hsteps.trans h⟩
abbrev vx_CVW (R : Room) (s : State) (args : Array Value) (own C : String) (index : Nat) (y : MethodName) (bytes : ByteArray) (maxL : Nat) (ret : Option FieldType) (hh : List (Nat × Nat × Nat × Nat)) (ws : List Cond) (rm : Room) (mc ms n : Nat) : Prop :=
  (rm.cells = mc ∧ rm.slots = ms ∧ rm.frames + 1 ≤ R.frames ∧ 8 + (maxL + 11) + rm.locals ≤ R.locals ∧ (∀ w ∈ ws, ∀ (a' : Array Value) (U : State), s.WarmedH U.vm → w.before a' U = true) ∧ Cond.codeWith y bytes maxL ret hh ∈ ws) ∧
  (Cond.codeWith y bytes maxL ret hh).before args s = true ∧ (Cond.initialized y.cls).before args s = true ∧ (y.cls ≠ "java/lang/invoke/MethodHandle" ∧ y.cls ≠ "java/lang/invoke/VarHandle") ∧
  (∀ sig, parseMethodDescriptor y.desc = some sig → n = sig.parameters.length) ∧ (Cond.methodLink own index y).before args s = true ∧ (Cond.instanceMethod y).before args s = true ∧ (Cond.selects C y y).before args s = true
theorem vx_cwVW {own C : String} {index maxL mc ms : Nat} {y : MethodName} {bytes : ByteArray} {ret : Option FieldType} {hh : List (Nat × Nat × Nat × Nat)} {Ts ws ws' : List Cond} {rm : Room} (n : Nat) (ht : ∀ w ∈ Ts, w.before args s = true) (hT : GoodIn Ts (wsV own index C y ws)) (hw : ws = Cond.codeWith y bytes maxL ret hh :: ws') (hrc : rm.cells = mc) (hrs : rm.slots = ms)
    (hd : y.cls = C ∧ y.cls ≠ "java/lang/invoke/MethodHandle" ∧ y.cls ≠ "java/lang/invoke/VarHandle" ∧ (parseMethodDescriptor y.desc).map (fun d => d.parameters.length) = some n) (hR : rm.frames + 1 ≤ R.frames ∧ 8 + (maxL + 11) + rm.locals ≤ R.locals) :
    vx_CVW R s args own C index y bytes maxL ret hh ws rm mc ms n := by
  obtain ⟨hC, hd⟩ := hd
  subst hC
  have ok : ∀ w ∈ wsV own index y.cls y ws, w.before args s = true := fun w h => ht w (hT w h).1
  have hG : GoodIn Ts ws := fun w h => hT w (by unfold wsV; exact List.mem_append_right _ h)
  have hc : Cond.codeWith y bytes maxL ret hh ∈ ws := by rw [hw]; exact List.mem_cons_self
  refine ⟨⟨hrc, hrs, hR.1, hR.2, pay_in ht hG, hc⟩, ht _ (hG _ hc).1, ok _ (by simp [wsV]), ⟨hd.1, hd.2.1⟩, fun sig h => ?_, ok _ (by simp [wsV]), ok _ (by simp [wsV]), ok _ (by simp [wsV])⟩
  have h2 := hd.2.2
  rw [h] at h2
  exact (Option.some.inj h2).symm
theorem vx_runVW {y : MethodName} {bytes cc : ByteArray} {maxL nL mc ms n index : Nat} {ret : Option FieldType} {hh : List (Nat × Nat × Nat × Nat)} {ws : List Cond} {rm : Room} {Pc : Array Value → State → Prop} {Qc : Array Value → State → Outcome → State → Prop} {free : Addr → Prop} {Ts : List Cond} {own C : String} {b : Addr} {As rest : List Value} {g : JFrame}
    (S : CallFix p m c cc nL s args Ts own) (hM : Met l y ws rm Pc Qc mc ms free) (cw : vx_CVW R s args own C index y bytes maxL ret hh ws rm mc ms n) (hp : PreV s H C b Pc As)
    (hg : g.method = m) (hn : As.length = n) (hsize : g.locals.size = nL) (hstack : g.stack = As.reverse ++ .ref b :: rest) (hW : 2 * g.monitorRoom + (rest.map fun v => v.category).sum ≤ 8) (hdg : decode cc g.pc = .ok (.invokevirtual index, 3)) (hf : cells + mc ≤ R.cells ∧ slots + ms ≤ R.slots) :
    va_Run p l e R s m args below meth c H locs cells slots mc ms g rest (Qc (Value.ref b :: As).toArray) free := by
  obtain ⟨⟨hrc, hrs, hfr, hlo, hws, hcw⟩, hcode, hini, hy, hlen, hl, hin, hse⟩ := cw
  have hK : Back l R p e below s args y 3 8 (PreOf R mc ms Pc) (PostOf Qc mc ms free) := va_backW (hh := hh) (bytes := bytes) (maxL := maxL) (ret := ret) hM hp.1 hrc hrs hfr hlo hws hcw (fun a' U hW => word_at hW (Or.inl (by first | rfl | simp [Cond.onTables, Cond.keeps, Cond.steady])) hini)
  obtain ⟨hx, hb, hml, ho, -⟩ := S
  obtain ⟨-, ⟨cellB, hcB, hoB, hclB⟩, hPc⟩ := hp
  intro T hT X
  obtain ⟨v, vm₁, ⟨U', l2, c2, s2⟩, hW₁, X', ⟨g', mk, t, L, e1, e2, hq, h1, hL, h2, h3⟩, st⟩ := vx_callVW X hx (C := C) (hh := hh) (bytes := bytes) (maxL := maxL) (ret := ret) ho hl hin hse hcode hy hK (by rw [hT]; exact hcB) hoB hclB hg (hsize.trans hml.symm) (argsL := As) (rest := rest) (fun sig h => hn.trans (hlen sig h)) hstack hW (by rw [hb]; exact hdg)
    (fun vm₁ hW₁ => ⟨hf.1, hf.2, hPc (T.setVm vm₁) hT hW₁⟩)
  dsimp only [Pt.U, Pt.locs, Pt.cells, Pt.slots] at X' e1 e2 h1 h2 h3 st
  subst h1; subst h2; subst h3
  exact ⟨v, (T.setVm vm₁).calling g' mk (Value.ref b :: As).toArray, t, U', L, hT, X', hL, e1, e2, hq, st⟩
section
variable {y : MethodName} {bytes cc : ByteArray} {maxL nL mc ms n index : Nat} {ret : Option FieldType} {ws : List Cond} {rm : Room} {Pc : Array Value → State → Prop} {Qc : Array Value → State → Outcome → State → Prop} {XC : String → State → State → Prop} {free : Addr → Prop} {Ts : List Cond} {own C : String} {b : Addr} {As rest : List Value} {g : JFrame}
theorem vx_runVX {hh : List (Nat × Nat × Nat × Nat)} (S : CallFix p m c cc nL s args Ts own) (hM : vx_Met l y ws rm Pc Qc XC mc ms free) (cw : vx_CVW R s args own C index y bytes maxL ret hh ws rm mc ms n) (hp : PreV s H C b Pc As)
    (hg : g.method = m) (hn : As.length = n) (hsize : g.locals.size = nL) (hstack : g.stack = As.reverse ++ .ref b :: rest) (hW : 2 * g.monitorRoom + (rest.map fun v => v.category).sum ≤ 8) (hdg : decode cc g.pc = .ok (.invokevirtual index, 3)) (hf : cells + mc ≤ R.cells ∧ slots + ms ≤ R.slots) :
    vx_Run p l e R s m args below meth c H locs cells slots mc ms g rest (Qc (Value.ref b :: As).toArray) XC free := by
  obtain ⟨⟨hrc, hrs, hfr, hlo, hws, hcw⟩, hcode, hini, hy, hlen, hl, hin, hse⟩ := cw
  have hK : vx_Back l R p e below s args y 3 8 (PreOf R mc ms Pc) (PostOf Qc mc ms free) (vx_Post XC mc ms free) := vx_backW (hh := hh) (bytes := bytes) (maxL := maxL) (ret := ret) hM hp.1 hrc hrs hfr hlo hws hcw (fun a' U hW => word_at hW (Or.inl (by first | rfl | simp [Cond.onTables, Cond.keeps, Cond.steady])) hini)
  obtain ⟨hx, hb, hml, ho, -⟩ := S
  obtain ⟨-, ⟨cellB, hcB, hoB, hclB⟩, hPc⟩ := hp
  intro T hT X
  rcases vx_callVX X hx (C := C) (hh := hh) (bytes := bytes) (maxL := maxL) (ret := ret) ho hl hin hse hcode hy hK (by rw [hT]; exact hcB) hoB hclB hg (hsize.trans hml.symm) (argsL := As) (rest := rest) (fun sig h => hn.trans (hlen sig h)) hstack hW (by rw [hb]; exact hdg)
    (fun vm₁ hW₁ => ⟨hf.1, hf.2, hPc (T.setVm vm₁) hT hW₁⟩) with ⟨v, vm₁, ⟨U', l2, c2, s2⟩, hW₁, X', ⟨g', mk, t, L, e1, e2, hq, h1, hL, h2, h3⟩, st⟩ | ⟨q, vm₁, ⟨U', l2, c2, s2⟩, hW₁, X', ⟨g', mk, t, L, E, ce, e1, e2, hq, hce, hcv, hcl, h1, hL, h2, h3⟩, st⟩
  · dsimp only [Pt.U, Pt.locs, Pt.cells, Pt.slots] at X' e1 e2 h1 h2 h3 st
    subst h1; subst h2; subst h3
    exact Or.inl ⟨v, (T.setVm vm₁).calling g' mk (Value.ref b :: As).toArray, t, U', L, hT, X', hL, e1, e2, hq, st⟩
  · dsimp only [Pt.U, Pt.locs, Pt.cells, Pt.slots] at X' e1 e2 h1 h2 h3 st hcl
    subst h1; subst h2; subst h3
    exact Or.inr ⟨q, (T.setVm vm₁).calling g' mk (Value.ref b :: As).toArray, t, U', L, E, ce, hT, X', hL, e1, e2, hq, hce, hcv, vx_cls hW₁ hcl, st⟩
theorem vx_runSX {hh : List (Nat × Nat × Nat × Nat)} (S : CallFix p m c cc nL s args Ts own) (hM : vx_Met l y ws rm Pc Qc XC mc ms free) (cw : vx_CSW R s args own index y bytes maxL ret hh ws rm mc ms n) (hp : PreS s H Pc As)
    (hg : g.method = m) (hn : As.length = n) (hsize : g.locals.size = nL) (hstack : g.stack = As.reverse ++ rest) (hW : 2 * g.monitorRoom + (rest.map fun v => v.category).sum ≤ 8) (hdg : decode cc g.pc = .ok (.invokestatic index, 3)) (hf : cells + mc ≤ R.cells ∧ slots + ms ≤ R.slots) :
    vx_Run p l e R s m args below meth c H locs cells slots mc ms g rest (Qc As.toArray) XC free := by
  obtain ⟨⟨hrc, hrs, hfr, hlo, hws, hcw⟩, hcode, hini, hy, hlen, hl, hstt⟩ := cw
  have hK : vx_Back l R p e below s args y 3 8 (PreOf R mc ms Pc) (PostOf Qc mc ms free) (vx_Post XC mc ms free) := vx_backW (hh := hh) (bytes := bytes) (maxL := maxL) (ret := ret) hM hp.1 hrc hrs hfr hlo hws hcw (fun a' U hW => word_at hW (Or.inl (by first | rfl | simp [Cond.onTables, Cond.keeps, Cond.steady])) hini)
  obtain ⟨hx, hb, hml, ho, -⟩ := S
  intro T hT X
  rcases vx_callSX X hx (hh := hh) (bytes := bytes) (maxL := maxL) (ret := ret) ho hl hstt hini hcode hy hK hg (hsize.trans hml.symm) (argsL := As) (rest := rest) (fun sig h => hn.trans (hlen sig h)) hstack hW (by rw [hb]; exact hdg)
    (fun vm₁ hW₁ => ⟨hf.1, hf.2, hp.2 (T.setVm vm₁) hT hW₁⟩) with ⟨v, vm₁, ⟨U', l2, c2, s2⟩, hW₁, X', ⟨g', mk, t, L, e1, e2, hq, h1, hL, h2, h3⟩, st⟩ | ⟨q, vm₁, ⟨U', l2, c2, s2⟩, hW₁, X', ⟨g', mk, t, L, E, ce, e1, e2, hq, hce, hcv, hcl, h1, hL, h2, h3⟩, st⟩
  · dsimp only [Pt.U, Pt.locs, Pt.cells, Pt.slots] at X' e1 e2 h1 h2 h3 st
    subst h1; subst h2; subst h3
    exact Or.inl ⟨v, (T.setVm vm₁).calling g' mk As.toArray, t, U', L, hT, X', hL, e1, e2, hq, st⟩
  · dsimp only [Pt.U, Pt.locs, Pt.cells, Pt.slots] at X' e1 e2 h1 h2 h3 st hcl
    subst h1; subst h2; subst h3
    exact Or.inr ⟨q, (T.setVm vm₁).calling g' mk As.toArray, t, U', L, E, ce, hT, X', hL, e1, e2, hq, hce, hcv, vx_cls hW₁ hcl, st⟩
end
end VXH
theorem vx_ofWH {l : Launch} {y : MethodName} {ws ws' : List Cond} {rm : Room} {Pc : Array Value → State → Prop} {Qc : Array Value → State → Outcome → State → Prop} {XC : String → State → State → Prop} {mc ms : Nat} {free : Addr → Prop} {cc : ByteArray} {maxL : Nat} {ret : Option FieldType} {hh : List (Nat × Nat × Nat × Nat)}
    (hy : plainName y.cls = true) (hw : ws = Cond.codeWith y cc maxL ret hh :: ws')
    (body : ∀ p e s m args below meth c s₁, BodyLoose p l y (headSpec ws rm) cc maxL ret e s m args below meth c s₁ → c.maxLocals = maxL → Pc args s →
      W p l e (headSpec ws rm).room s m args below meth c s.heap [] 0 0 (vx_MQ below Qc XC args s mc ms free) (entryFrame m args maxL)) : vx_Met l y ws rm Pc Qc XC mc ms free := by
  refine MetFree.of_bodyS (code := cc) (maxLocals := maxL) (ret := ret) hy ?_ ?_
  · intro args s m h hn
    obtain ⟨m9, meth, c, hn9, h1, h2, h3, h4, -, h5, h6, -⟩ := Cond.codeWith_spec (atoms_spec (ws := ws) h _ (by rw [hw]; exact List.mem_cons_self))
    cases hn.symm.trans hn9
    exact ⟨meth, c, h1, h2, h3, h4, h5, h6⟩
  · intro p e s m args below meth c s₁ B hml hP _
    have hh0 : s₁.heap = s.heap := by rw [B.state]; rfl
    obtain ⟨t, a1, o, b1, b2, b3⟩ := body p e s m args below meth c s₁ B hml hP s₁ hh0 (Stand.of_body B)
    exact ⟨t, o, a1, b1, b2, b3⟩
/-! ===== END ===== -/
end
section
def RX0 : String := "HarvestLender$Crop"
def TX0 : u_T := fun k => match k with
  | 0 => ("HarvestLender$Crop", "needs", "[I", true)
  | 1 => ("HarvestLender$Crop", "price", "I", false)
  | _ => ("HarvestLender$Crop", "normal", "I", false)
def tyX0 : Nat → FieldType := fun k => match k with
  | 0 => .array .int
  | 1 => .int
  | _ => .int
abbrev wsX00 : List Cond := u_ws RX0 TX0 3
theorem nmX0 : ∀ a, a < 3 → ∀ b, b < 3 → a ≠ b → (TX0 a).2.1 ≠ (TX0 b).2.1 := by decide +kernel
theorem tyX0_ok : ∀ k, k < 3 → parseFieldDescriptor (TX0 k).2.2.1 = some (tyX0 k) := by decide +kernel
abbrev cX0_init : ByteArray := prog_2_method_1_code
def yX0_init : MethodName := ⟨RX0, "<init>", "()V"⟩
abbrev cX0_needUpTo : ByteArray := prog_2_method_2_code
def yX0_needUpTo : MethodName := ⟨RX0, "needUpTo", "(I)I"⟩
def RX1 : String := "HarvestLender$Farmer"
def TX1 : u_T := fun k => match k with
  | 0 => ("HarvestLender$Farmer", "group", "I", false)
  | 1 => ("HarvestLender$Farmer", "purse", "J", false)
  | 2 => ("HarvestLender$Farmer", "debt", "J", false)
  | 3 => ("HarvestLender$Farmer", "pledgeDebt", "J", false)
  | 4 => ("HarvestLender$Farmer", "charged", "J", false)
  | 5 => ("HarvestLender$Farmer", "called", "J", false)
  | 6 => ("HarvestLender$Farmer", "repaid", "[J", true)
  | 7 => ("HarvestLender$Farmer", "instalments", "[J", true)
  | 8 => ("HarvestLender$Farmer", "instalmentsLeft", "I", false)
  | 9 => ("HarvestLender$Farmer", "grain", "I", false)
  | 10 => ("HarvestLender$Farmer", "pledgedGrain", "I", false)
  | 11 => ("HarvestLender$Farmer", "grainCrop", "I", false)
  | 12 => ("HarvestLender$Farmer", "plantedCrop", "I", false)
  | 13 => ("HarvestLender$Farmer", "hectares", "I", false)
  | 14 => ("HarvestLender$Farmer", "coverPercent", "I", false)
  | 15 => ("HarvestLender$Farmer", "yieldPercent", "I", false)
  | _ => ("HarvestLender$Farmer", "drawn", "I", false)
def tyX1 : Nat → FieldType := fun k => match k with
  | 0 => .int
  | 1 => .long
  | 2 => .long
  | 3 => .long
  | 4 => .long
  | 5 => .long
  | 6 => .array .long
  | 7 => .array .long
  | 8 => .int
  | 9 => .int
  | 10 => .int
  | 11 => .int
  | 12 => .int
  | 13 => .int
  | 14 => .int
  | 15 => .int
  | _ => .int
abbrev wsX10 : List Cond := u_ws RX1 TX1 17
theorem nmX1 : ∀ a, a < 17 → ∀ b, b < 17 → a ≠ b → (TX1 a).2.1 ≠ (TX1 b).2.1 := by decide +kernel
theorem tyX1_ok : ∀ k, k < 17 → parseFieldDescriptor (TX1 k).2.2.1 = some (tyX1 k) := by decide +kernel
abbrev cX1_init : ByteArray := prog_3_method_1_code
def yX1_init : MethodName := ⟨RX1, "<init>", "()V"⟩
abbrev cX1_hasPlanted : ByteArray := prog_3_method_2_code
def yX1_hasPlanted : MethodName := ⟨RX1, "hasPlanted", "()Z"⟩
abbrev cX1_freeGrain : ByteArray := prog_3_method_3_code
def yX1_freeGrain : MethodName := ⟨RX1, "freeGrain", "()I"⟩
abbrev cX1_charge : ByteArray := prog_3_method_4_code
def yX1_charge : MethodName := ⟨RX1, "charge", "(J)V"⟩
abbrev cX1_chargeInterest : ByteArray := prog_3_method_5_code
def yX1_chargeInterest : MethodName := ⟨RX1, "chargeInterest", "()V"⟩
abbrev cX1_lowerDebt : ByteArray := prog_3_method_6_code
def yX1_lowerDebt : MethodName := ⟨RX1, "lowerDebt", "(JI)V"⟩
abbrev cX1_receive : ByteArray := prog_3_method_7_code
def yX1_receive : MethodName := ⟨RX1, "receive", "(JI)V"⟩
abbrev cX1_repayFromPurse : ByteArray := prog_3_method_8_code
def yX1_repayFromPurse : MethodName := ⟨RX1, "repayFromPurse", "(J)V"⟩
abbrev cX1_harvest : ByteArray := prog_3_method_9_code
def yX1_harvest : MethodName := ⟨RX1, "harvest", "(LHarvestLender$Crop;)V"⟩
abbrev cX1_pledgeUnits : ByteArray := prog_3_method_10_code
def yX1_pledgeUnits : MethodName := ⟨RX1, "pledgeUnits", "(II)J"⟩
abbrev cX1_sellUnits : ByteArray := prog_3_method_11_code
def yX1_sellUnits : MethodName := ⟨RX1, "sellUnits", "(II)J"⟩
abbrev cX1_moveRestOfPledgeDebt : ByteArray := prog_3_method_12_code
def yX1_moveRestOfPledgeDebt : MethodName := ⟨RX1, "moveRestOfPledgeDebt", "()V"⟩
abbrev cX1_settleFromPurse : ByteArray := prog_3_method_13_code
def yX1_settleFromPurse : MethodName := ⟨RX1, "settleFromPurse", "()V"⟩
abbrev cX1_takeInstalment : ByteArray := prog_3_method_14_code
def yX1_takeInstalment : MethodName := ⟨RX1, "takeInstalment", "()J"⟩
abbrev cX1_instalmentSum : ByteArray := prog_3_method_15_code
def yX1_instalmentSum : MethodName := ⟨RX1, "instalmentSum", "()J"⟩
abbrev cX1_mayRoll : ByteArray := prog_3_method_16_code
def yX1_mayRoll : MethodName := ⟨RX1, "mayRoll", "()Z"⟩
abbrev cX1_rollDebt : ByteArray := prog_3_method_17_code
def yX1_rollDebt : MethodName := ⟨RX1, "rollDebt", "()V"⟩
abbrev cX1_payFor : ByteArray := prog_3_method_18_code
def yX1_payFor : MethodName := ⟨RX1, "payFor", "(LHarvestLender$Farmer;)V"⟩
abbrev cX1_forgetSeason : ByteArray := prog_3_method_19_code
def yX1_forgetSeason : MethodName := ⟨RX1, "forgetSeason", "()V"⟩
def RX2 : String := "HarvestLender"
def TX2 : u_T := fun k => match k with
  | 0 => ("HarvestLender", "crops", "[LHarvestLender$Crop;", true)
  | 1 => ("HarvestLender", "rows", "[LHarvestLender$Farmer;", true)
  | 2 => ("HarvestLender", "count", "I", false)
  | 3 => ("HarvestLender", "season", "I", false)
  | _ => ("HarvestLender", "stage", "I", false)
def tyX2 : Nat → FieldType := fun k => match k with
  | 0 => .array (.object "HarvestLender$Crop")
  | 1 => .array (.object "HarvestLender$Farmer")
  | 2 => .int
  | 3 => .int
  | _ => .int
abbrev wsX20 : List Cond := u_ws RX2 TX2 5
theorem nmX2 : ∀ a, a < 5 → ∀ b, b < 5 → a ≠ b → (TX2 a).2.1 ≠ (TX2 b).2.1 := by decide +kernel
theorem tyX2_ok : ∀ k, k < 5 → parseFieldDescriptor (TX2 k).2.2.1 = some (tyX2 k) := by decide +kernel
abbrev cX2_init : ByteArray := prog_1_method_1_code
def yX2_init : MethodName := ⟨RX2, "<init>", "()V"⟩
abbrev cX2_setNeed : ByteArray := prog_1_method_2_code
def yX2_setNeed : MethodName := ⟨RX2, "setNeed", "(III)I"⟩
abbrev cX2_setCrop : ByteArray := prog_1_method_3_code
def yX2_setCrop : MethodName := ⟨RX2, "setCrop", "(III)I"⟩
abbrev cX2_add : ByteArray := prog_1_method_4_code
def yX2_add : MethodName := ⟨RX2, "add", "(I)I"⟩
abbrev cX2_farmers : ByteArray := prog_1_method_5_code
def yX2_farmers : MethodName := ⟨RX2, "farmers", "()I"⟩
abbrev cX2_plant : ByteArray := prog_1_method_6_code
def yX2_plant : MethodName := ⟨RX2, "plant", "(III)I"⟩
abbrev cX2_cover : ByteArray := prog_1_method_7_code
def yX2_cover : MethodName := ⟨RX2, "cover", "(II)I"⟩
abbrev cX2_draw : ByteArray := prog_1_method_8_code
def yX2_draw : MethodName := ⟨RX2, "draw", "(II)I"⟩
abbrev cX2_setYield : ByteArray := prog_1_method_9_code
def yX2_setYield : MethodName := ⟨RX2, "setYield", "(II)I"⟩
abbrev cX2_next : ByteArray := prog_1_method_10_code
def yX2_next : MethodName := ⟨RX2, "next", "()I"⟩
abbrev cX2_pledge : ByteArray := prog_1_method_11_code
def yX2_pledge : MethodName := ⟨RX2, "pledge", "(II)I"⟩
abbrev cX2_sell : ByteArray := prog_1_method_12_code
def yX2_sell : MethodName := ⟨RX2, "sell", "(II)I"⟩
abbrev cX2_repay : ByteArray := prog_1_method_13_code
def yX2_repay : MethodName := ⟨RX2, "repay", "(II)I"⟩
abbrev cX2_close : ByteArray := prog_1_method_14_code
def yX2_close : MethodName := ⟨RX2, "close", "()I"⟩
abbrev cX2_season : ByteArray := prog_1_method_15_code
def yX2_season : MethodName := ⟨RX2, "season", "()I"⟩
abbrev cX2_stage : ByteArray := prog_1_method_16_code
def yX2_stage : MethodName := ⟨RX2, "stage", "()I"⟩
abbrev cX2_limit : ByteArray := prog_1_method_17_code
def yX2_limit : MethodName := ⟨RX2, "limit", "(I)I"⟩
abbrev cX2_debt : ByteArray := prog_1_method_18_code
def yX2_debt : MethodName := ⟨RX2, "debt", "(I)I"⟩
abbrev cX2_owes : ByteArray := prog_1_method_19_code
def yX2_owes : MethodName := ⟨RX2, "owes", "(I)I"⟩
abbrev cX2_instalments : ByteArray := prog_1_method_20_code
def yX2_instalments : MethodName := ⟨RX2, "instalments", "(I)I"⟩
abbrev cX2_purse : ByteArray := prog_1_method_21_code
def yX2_purse : MethodName := ⟨RX2, "purse", "(I)I"⟩
abbrev cX2_grain : ByteArray := prog_1_method_22_code
def yX2_grain : MethodName := ⟨RX2, "grain", "(IZ)I"⟩
abbrev cX2_called : ByteArray := prog_1_method_23_code
def yX2_called : MethodName := ⟨RX2, "called", "(I)I"⟩
abbrev cX2_repaid : ByteArray := prog_1_method_24_code
def yX2_repaid : MethodName := ⟨RX2, "repaid", "(II)I"⟩
abbrev cX2_charged : ByteArray := prog_1_method_25_code
def yX2_charged : MethodName := ⟨RX2, "charged", "(I)I"⟩
abbrev cX2_farmerAt : ByteArray := prog_1_method_26_code
def yX2_farmerAt : MethodName := ⟨RX2, "farmerAt", "(I)LHarvestLender$Farmer;"⟩
abbrev cX2_cropAt : ByteArray := prog_1_method_27_code
def yX2_cropAt : MethodName := ⟨RX2, "cropAt", "(I)LHarvestLender$Crop;"⟩
abbrev cX2_requireRange : ByteArray := prog_1_method_28_code
def yX2_requireRange : MethodName := ⟨RX2, "requireRange", "(III)V"⟩
abbrev cX2_requireState : ByteArray := prog_1_method_29_code
def yX2_requireState : MethodName := ⟨RX2, "requireState", "(Z)V"⟩
abbrev cX2_limitOf : ByteArray := prog_1_method_30_code
def yX2_limitOf : MethodName := ⟨RX2, "limitOf", "(LHarvestLender$Farmer;)I"⟩
abbrev cX2_harvestAll : ByteArray := prog_1_method_31_code
def yX2_harvestAll : MethodName := ⟨RX2, "harvestAll", "()V"⟩
abbrev cX2_settleRest : ByteArray := prog_1_method_32_code
def yX2_settleRest : MethodName := ⟨RX2, "settleRest", "(LHarvestLender$Farmer;)V"⟩
abbrev cX2_collectFromGroup : ByteArray := prog_1_method_33_code
def yX2_collectFromGroup : MethodName := ⟨RX2, "collectFromGroup", "(LHarvestLender$Farmer;)V"⟩
def RX3 : String := "HarvestLenderModel"
def TX3 : u_T := fun k => match k with
  | 0 => ("HarvestLenderModel", "refusal", "I", false)
  | 1 => ("HarvestLenderModel", "season", "I", false)
  | 2 => ("HarvestLenderModel", "stage", "I", false)
  | 3 => ("HarvestLenderModel", "needs", "[I", true)
  | 4 => ("HarvestLenderModel", "prices", "[I", true)
  | 5 => ("HarvestLenderModel", "normals", "[I", true)
  | 6 => ("HarvestLenderModel", "farmers", "I", false)
  | 7 => ("HarvestLenderModel", "groups", "[I", true)
  | 8 => ("HarvestLenderModel", "purses", "[I", true)
  | 9 => ("HarvestLenderModel", "debts", "[I", true)
  | 10 => ("HarvestLenderModel", "grainCrops", "[I", true)
  | 11 => ("HarvestLenderModel", "grains", "[I", true)
  | 12 => ("HarvestLenderModel", "pledged", "[I", true)
  | 13 => ("HarvestLenderModel", "pledgeDebts", "[I", true)
  | 14 => ("HarvestLenderModel", "rows", "[I", true)
  | 15 => ("HarvestLenderModel", "parts", "[I", true)
  | 16 => ("HarvestLenderModel", "crops", "[I", true)
  | 17 => ("HarvestLenderModel", "hectares", "[I", true)
  | 18 => ("HarvestLenderModel", "drawn", "[I", true)
  | 19 => ("HarvestLenderModel", "covers", "[I", true)
  | 20 => ("HarvestLenderModel", "yields", "[I", true)
  | 21 => ("HarvestLenderModel", "calls", "[I", true)
  | 22 => ("HarvestLenderModel", "repaidOf", "[I", true)
  | _ => ("HarvestLenderModel", "charges", "[I", true)
def tyX3 : Nat → FieldType := fun k => match k with
  | 0 => .int
  | 1 => .int
  | 2 => .int
  | 3 => .array .int
  | 4 => .array .int
  | 5 => .array .int
  | 6 => .int
  | 7 => .array .int
  | 8 => .array .int
  | 9 => .array .int
  | 10 => .array .int
  | 11 => .array .int
  | 12 => .array .int
  | 13 => .array .int
  | 14 => .array .int
  | 15 => .array .int
  | 16 => .array .int
  | 17 => .array .int
  | 18 => .array .int
  | 19 => .array .int
  | 20 => .array .int
  | 21 => .array .int
  | 22 => .array .int
  | _ => .array .int
abbrev wsX30 : List Cond := u_ws RX3 TX3 24
theorem nmX3 : ∀ a, a < 24 → ∀ b, b < 24 → a ≠ b → (TX3 a).2.1 ≠ (TX3 b).2.1 := by decide +kernel
theorem tyX3_ok : ∀ k, k < 24 → parseFieldDescriptor (TX3 k).2.2.1 = some (tyX3 k) := by decide +kernel
abbrev cX3_init : ByteArray := prog_5_method_1_code
def yX3_init : MethodName := ⟨RX3, "<init>", "()V"⟩
abbrev cX3_thrown : ByteArray := prog_5_method_2_code
def yX3_thrown : MethodName := ⟨RX3, "thrown", "()I"⟩
abbrev cX3_refused : ByteArray := prog_5_method_3_code
def yX3_refused : MethodName := ⟨RX3, "refused", "(I)Z"⟩
abbrev cX3_fine : ByteArray := prog_5_method_4_code
def yX3_fine : MethodName := ⟨RX3, "fine", "(I)I"⟩
abbrev cX3_in : ByteArray := prog_5_method_5_code
def yX3_in : MethodName := ⟨RX3, "in", "(III)Z"⟩
abbrev cX3_isCrop : ByteArray := prog_5_method_6_code
def yX3_isCrop : MethodName := ⟨RX3, "isCrop", "(I)Z"⟩
abbrev cX3_isFarmer : ByteArray := prog_5_method_7_code
def yX3_isFarmer : MethodName := ⟨RX3, "isFarmer", "(I)Z"⟩
abbrev cX3_setNeed : ByteArray := prog_5_method_8_code
def yX3_setNeed : MethodName := ⟨RX3, "setNeed", "(III)I"⟩
abbrev cX3_setCrop : ByteArray := prog_5_method_9_code
def yX3_setCrop : MethodName := ⟨RX3, "setCrop", "(III)I"⟩
abbrev cX3_add : ByteArray := prog_5_method_10_code
def yX3_add : MethodName := ⟨RX3, "add", "(I)I"⟩
abbrev cX3_clear : ByteArray := prog_5_method_11_code
def yX3_clear : MethodName := ⟨RX3, "clear", "(I)V"⟩
abbrev cX3_farmers : ByteArray := prog_5_method_12_code
def yX3_farmers : MethodName := ⟨RX3, "farmers", "()I"⟩
abbrev cX3_lower : ByteArray := prog_5_method_13_code
def yX3_lower : MethodName := ⟨RX3, "lower", "(III)V"⟩
abbrev cX3_come : ByteArray := prog_5_method_14_code
def yX3_come : MethodName := ⟨RX3, "come", "(III)V"⟩
abbrev cX3_charge : ByteArray := prog_5_method_15_code
def yX3_charge : MethodName := ⟨RX3, "charge", "(II)V"⟩
abbrev cX3_limitOf : ByteArray := prog_5_method_16_code
def yX3_limitOf : MethodName := ⟨RX3, "limitOf", "(I)I"⟩
abbrev cX3_plant : ByteArray := prog_5_method_17_code
def yX3_plant : MethodName := ⟨RX3, "plant", "(III)I"⟩
abbrev cX3_cover : ByteArray := prog_5_method_18_code
def yX3_cover : MethodName := ⟨RX3, "cover", "(II)I"⟩
abbrev cX3_draw : ByteArray := prog_5_method_19_code
def yX3_draw : MethodName := ⟨RX3, "draw", "(II)I"⟩
abbrev cX3_setYield : ByteArray := prog_5_method_20_code
def yX3_setYield : MethodName := ⟨RX3, "setYield", "(II)I"⟩
abbrev cX3_harvest : ByteArray := prog_5_method_21_code
def yX3_harvest : MethodName := ⟨RX3, "harvest", "(I)V"⟩
abbrev cX3_next : ByteArray := prog_5_method_22_code
def yX3_next : MethodName := ⟨RX3, "next", "()I"⟩
abbrev cX3_pledge : ByteArray := prog_5_method_23_code
def yX3_pledge : MethodName := ⟨RX3, "pledge", "(II)I"⟩
abbrev cX3_sell : ByteArray := prog_5_method_24_code
def yX3_sell : MethodName := ⟨RX3, "sell", "(II)I"⟩
abbrev cX3_repay : ByteArray := prog_5_method_25_code
def yX3_repay : MethodName := ⟨RX3, "repay", "(II)I"⟩
abbrev cX3_settle : ByteArray := prog_5_method_26_code
def yX3_settle : MethodName := ⟨RX3, "settle", "(I)V"⟩
abbrev cX3_roll : ByteArray := prog_5_method_27_code
def yX3_roll : MethodName := ⟨RX3, "roll", "(I)V"⟩
abbrev cX3_call : ByteArray := prog_5_method_28_code
def yX3_call : MethodName := ⟨RX3, "call", "(I)V"⟩
abbrev cX3_close : ByteArray := prog_5_method_29_code
def yX3_close : MethodName := ⟨RX3, "close", "()I"⟩
abbrev cX3_season : ByteArray := prog_5_method_30_code
def yX3_season : MethodName := ⟨RX3, "season", "()I"⟩
abbrev cX3_stage : ByteArray := prog_5_method_31_code
def yX3_stage : MethodName := ⟨RX3, "stage", "()I"⟩
abbrev cX3_noFarmer : ByteArray := prog_5_method_32_code
def yX3_noFarmer : MethodName := ⟨RX3, "noFarmer", "(I)Z"⟩
abbrev cX3_limit : ByteArray := prog_5_method_33_code
def yX3_limit : MethodName := ⟨RX3, "limit", "(I)I"⟩
abbrev cX3_debt : ByteArray := prog_5_method_34_code
def yX3_debt : MethodName := ⟨RX3, "debt", "(I)I"⟩
abbrev cX3_owes : ByteArray := prog_5_method_35_code
def yX3_owes : MethodName := ⟨RX3, "owes", "(I)I"⟩
abbrev cX3_instalments : ByteArray := prog_5_method_36_code
def yX3_instalments : MethodName := ⟨RX3, "instalments", "(I)I"⟩
abbrev cX3_purse : ByteArray := prog_5_method_37_code
def yX3_purse : MethodName := ⟨RX3, "purse", "(I)I"⟩
abbrev cX3_grain : ByteArray := prog_5_method_38_code
def yX3_grain : MethodName := ⟨RX3, "grain", "(IZ)I"⟩
abbrev cX3_called : ByteArray := prog_5_method_39_code
def yX3_called : MethodName := ⟨RX3, "called", "(I)I"⟩
abbrev cX3_repaid : ByteArray := prog_5_method_40_code
def yX3_repaid : MethodName := ⟨RX3, "repaid", "(II)I"⟩
abbrev cX3_charged : ByteArray := prog_5_method_41_code
def yX3_charged : MethodName := ⟨RX3, "charged", "(I)I"⟩
def RJ9 : String := "java/lang/Math"
def TJ9 : u_T := fun k => match k with
  | _ => ("", "", "", false)
def tyJ9 : Nat → FieldType := fun k => match k with
  | _ => .int
abbrev wsJ90 : List Cond := u_ws RJ9 TJ9 0
theorem nmJ9 : ∀ a, a < 0 → ∀ b, b < 0 → a ≠ b → (TJ9 a).2.1 ≠ (TJ9 b).2.1 := by decide +kernel
theorem tyJ9_ok : ∀ k, k < 0 → parseFieldDescriptor (TJ9 k).2.2.1 = some (tyJ9 k) := by decide +kernel
abbrev cJ9_min_7cf53 : ByteArray := prog_10_method_69_code
def yJ9_min_7cf53 : MethodName := ⟨RJ9, "min", "(II)I"⟩
abbrev cJ9_min_f86c9 : ByteArray := prog_10_method_70_code
def yJ9_min_f86c9 : MethodName := ⟨RJ9, "min", "(JJ)J"⟩
def RJ0 : String := "java/lang/String"
def TJ0 : u_T := fun k => match k with
  | _ => ("", "", "", false)
def tyJ0 : Nat → FieldType := fun k => match k with
  | _ => .int
abbrev wsJ00 : List Cond := u_ws RJ0 TJ0 0
theorem nmJ0 : ∀ a, a < 0 → ∀ b, b < 0 → a ≠ b → (TJ0 a).2.1 ≠ (TJ0 b).2.1 := by decide +kernel
theorem tyJ0_ok : ∀ k, k < 0 → parseFieldDescriptor (TJ0 k).2.2.1 = some (tyJ0 k) := by decide +kernel
def RL : String := "HarvestLenderLaw"
abbrev cL_setNeed : ByteArray := method_3_code
def yL_setNeed : MethodName := ⟨RL, "setNeed", "(LHarvestLender;III[J)I"⟩
abbrev cL_setCrop : ByteArray := method_4_code
def yL_setCrop : MethodName := ⟨RL, "setCrop", "(LHarvestLender;III[J)I"⟩
abbrev cL_add : ByteArray := method_5_code
def yL_add : MethodName := ⟨RL, "add", "(LHarvestLender;I[J)I"⟩
abbrev cL_plant : ByteArray := method_6_code
def yL_plant : MethodName := ⟨RL, "plant", "(LHarvestLender;III[J)I"⟩
abbrev cL_cover : ByteArray := method_7_code
def yL_cover : MethodName := ⟨RL, "cover", "(LHarvestLender;II[J)I"⟩
abbrev cL_draw : ByteArray := method_8_code
def yL_draw : MethodName := ⟨RL, "draw", "(LHarvestLender;II[J)I"⟩
abbrev cL_setYield : ByteArray := method_9_code
def yL_setYield : MethodName := ⟨RL, "setYield", "(LHarvestLender;II[J)I"⟩
abbrev cL_next : ByteArray := method_10_code
def yL_next : MethodName := ⟨RL, "next", "(LHarvestLender;[J)I"⟩
abbrev cL_pledge : ByteArray := method_11_code
def yL_pledge : MethodName := ⟨RL, "pledge", "(LHarvestLender;II[J)I"⟩
abbrev cL_sell : ByteArray := method_12_code
def yL_sell : MethodName := ⟨RL, "sell", "(LHarvestLender;II[J)I"⟩
abbrev cL_repay : ByteArray := method_13_code
def yL_repay : MethodName := ⟨RL, "repay", "(LHarvestLender;II[J)I"⟩
abbrev cL_close : ByteArray := method_14_code
def yL_close : MethodName := ⟨RL, "close", "(LHarvestLender;[J)I"⟩
abbrev cL_limit : ByteArray := method_15_code
def yL_limit : MethodName := ⟨RL, "limit", "(LHarvestLender;I[J)I"⟩
abbrev cL_debt : ByteArray := method_16_code
def yL_debt : MethodName := ⟨RL, "debt", "(LHarvestLender;I[J)I"⟩
abbrev cL_owes : ByteArray := method_17_code
def yL_owes : MethodName := ⟨RL, "owes", "(LHarvestLender;I[J)I"⟩
abbrev cL_instalments : ByteArray := method_18_code
def yL_instalments : MethodName := ⟨RL, "instalments", "(LHarvestLender;I[J)I"⟩
abbrev cL_purse : ByteArray := method_19_code
def yL_purse : MethodName := ⟨RL, "purse", "(LHarvestLender;I[J)I"⟩
abbrev cL_grain : ByteArray := method_20_code
def yL_grain : MethodName := ⟨RL, "grain", "(LHarvestLender;IZ[J)I"⟩
abbrev cL_called : ByteArray := method_21_code
def yL_called : MethodName := ⟨RL, "called", "(LHarvestLender;I[J)I"⟩
abbrev cL_repaid : ByteArray := method_22_code
def yL_repaid : MethodName := ⟨RL, "repaid", "(LHarvestLender;II[J)I"⟩
abbrev cL_charged : ByteArray := method_23_code
def yL_charged : MethodName := ⟨RL, "charged", "(LHarvestLender;I[J)I"⟩
abbrev cL_law : ByteArray := code
def yL_law : MethodName := ⟨RL, "law", "([I)Z"⟩
def wsX0_init : List Cond := .code yX0_init cX0_init 2 none :: ([.methodLink RX0 3 objectInit, .instanceMethod objectInit, .code objectInit ⟨#[0xb1]⟩ 1 none, .arrayClass .int, .fieldLink RX0 9 "HarvestLender$Crop" "needs" "[I", .fieldLink RX0 15 "HarvestLender$Crop" "price" "I", .fieldLink RX0 19 "HarvestLender$Crop" "normal" "I"] ++ wsX00)
def wsX0_needUpTo : List Cond := .code yX0_needUpTo cX0_needUpTo 4 (some .int) :: ([.fieldLink RX0 9 "HarvestLender$Crop" "needs" "[I"] ++ wsX00)
def wsX1_init : List Cond := .code yX1_init cX1_init 1 none :: ([.methodLink RX1 3 objectInit, .instanceMethod objectInit, .code objectInit ⟨#[0xb1]⟩ 1 none, .fieldLink RX1 9 "HarvestLender$Farmer" "group" "I", .fieldLink RX1 15 "HarvestLender$Farmer" "purse" "J", .fieldLink RX1 19 "HarvestLender$Farmer" "debt" "J", .fieldLink RX1 22 "HarvestLender$Farmer" "pledgeDebt" "J", .fieldLink RX1 25 "HarvestLender$Farmer" "charged" "J", .fieldLink RX1 28 "HarvestLender$Farmer" "called" "J", .arrayClass .long, .fieldLink RX1 31 "HarvestLender$Farmer" "repaid" "[J", .fieldLink RX1 35 "HarvestLender$Farmer" "instalments" "[J", .fieldLink RX1 38 "HarvestLender$Farmer" "instalmentsLeft" "I", .fieldLink RX1 41 "HarvestLender$Farmer" "grain" "I", .fieldLink RX1 44 "HarvestLender$Farmer" "pledgedGrain" "I", .fieldLink RX1 47 "HarvestLender$Farmer" "grainCrop" "I", .fieldLink RX1 50 "HarvestLender$Farmer" "plantedCrop" "I", .fieldLink RX1 53 "HarvestLender$Farmer" "hectares" "I", .fieldLink RX1 56 "HarvestLender$Farmer" "coverPercent" "I", .fieldLink RX1 59 "HarvestLender$Farmer" "yieldPercent" "I", .fieldLink RX1 62 "HarvestLender$Farmer" "drawn" "I"] ++ wsX10)
def wsX1_hasPlanted : List Cond := .code yX1_hasPlanted cX1_hasPlanted 1 (some .boolean) :: ([.fieldLink RX1 50 "HarvestLender$Farmer" "plantedCrop" "I"] ++ wsX10)
def wsX1_freeGrain : List Cond := .code yX1_freeGrain cX1_freeGrain 1 (some .int) :: ([.fieldLink RX1 41 "HarvestLender$Farmer" "grain" "I", .fieldLink RX1 44 "HarvestLender$Farmer" "pledgedGrain" "I"] ++ wsX10)
def wsX1_charge : List Cond := .code yX1_charge cX1_charge 3 none :: ([.fieldLink RX1 19 "HarvestLender$Farmer" "debt" "J", .fieldLink RX1 25 "HarvestLender$Farmer" "charged" "J"] ++ wsX10)
def wsX1_chargeInterest : List Cond := .code yX1_chargeInterest cX1_chargeInterest 1 none :: ([.fieldLink RX1 19 "HarvestLender$Farmer" "debt" "J", .constantLong RX1 65 (2), .constantLong RX1 67 (100), .methodLink RX1 69 yX1_charge, .instanceMethod yX1_charge, .selects RX1 yX1_charge yX1_charge, .initialized RX1, .code yX1_charge cX1_charge 3 none, .fieldLink RX1 25 "HarvestLender$Farmer" "charged" "J"] ++ wsX10)
def wsX1_lowerDebt : List Cond := .code yX1_lowerDebt cX1_lowerDebt 4 none :: ([.fieldLink RX1 19 "HarvestLender$Farmer" "debt" "J", .fieldLink RX1 31 "HarvestLender$Farmer" "repaid" "[J"] ++ wsX10)
def wsX1_receive : List Cond := .code yX1_receive cX1_receive 6 none :: ([.fieldLink RX1 19 "HarvestLender$Farmer" "debt" "J", .methodLink RX1 73 Lib.MathLoose.min_long.x, .static Lib.MathLoose.min_long.x, .initialized "java/lang/Math", .code Lib.MathLoose.min_long.x Lib.MathLoose.min_long.code 4 (some .long), .fieldLink RX1 15 "HarvestLender$Farmer" "purse" "J", .methodLink RX1 79 yX1_lowerDebt, .instanceMethod yX1_lowerDebt, .selects RX1 yX1_lowerDebt yX1_lowerDebt, .initialized RX1, .code yX1_lowerDebt cX1_lowerDebt 4 none, .fieldLink RX1 31 "HarvestLender$Farmer" "repaid" "[J"] ++ wsX10)
def wsX1_repayFromPurse : List Cond := .code yX1_repayFromPurse cX1_repayFromPurse 3 none :: ([.fieldLink RX1 15 "HarvestLender$Farmer" "purse" "J", .methodLink RX1 79 yX1_lowerDebt, .instanceMethod yX1_lowerDebt, .selects RX1 yX1_lowerDebt yX1_lowerDebt, .initialized RX1, .code yX1_lowerDebt cX1_lowerDebt 4 none, .fieldLink RX1 19 "HarvestLender$Farmer" "debt" "J", .fieldLink RX1 31 "HarvestLender$Farmer" "repaid" "[J"] ++ wsX10)
def wsX1_harvest_r1 : List Cond := [Cond.fieldLink RX1 53 "HarvestLender$Farmer" "hectares" "I", Cond.fieldLink RX1 83 "HarvestLender$Crop" "normal" "I", Cond.fieldLink RX1 41 "HarvestLender$Farmer" "grain" "I", Cond.fieldLink RX1 59 "HarvestLender$Farmer" "yieldPercent" "I", Cond.fieldLink RX1 50 "HarvestLender$Farmer" "plantedCrop" "I", Cond.fieldLink RX1 47 "HarvestLender$Farmer" "grainCrop" "I", Cond.fieldLink RX1 56 "HarvestLender$Farmer" "coverPercent" "I", Cond.fieldLink RX1 88 "HarvestLender$Crop" "price" "I", Cond.constantLong RX1 67 (100), Cond.methodLink RX1 91 yX1_receive, Cond.instanceMethod yX1_receive, Cond.selects RX1 yX1_receive yX1_receive, Cond.initialized RX1, Cond.code yX1_receive cX1_receive 6 none, Cond.fieldLink RX1 19 "HarvestLender$Farmer" "debt" "J", Cond.methodLink RX1 73 Lib.MathLoose.min_long.x, Cond.static Lib.MathLoose.min_long.x, Cond.initialized "java/lang/Math", Cond.code Lib.MathLoose.min_long.x Lib.MathLoose.min_long.code 4 (some .long), Cond.fieldLink RX1 15 "HarvestLender$Farmer" "purse" "J", Cond.methodLink RX1 79 yX1_lowerDebt, Cond.instanceMethod yX1_lowerDebt, Cond.selects RX1 yX1_lowerDebt yX1_lowerDebt, Cond.code yX1_lowerDebt cX1_lowerDebt 4 none]
def wsX1_harvest_r2 : List Cond := [Cond.fieldLink RX1 31 "HarvestLender$Farmer" "repaid" "[J"]
def wsX1_harvest : List Cond := .code yX1_harvest cX1_harvest 5 none :: ((wsX1_harvest_r1 ++ wsX1_harvest_r2) ++ wsX10 ++ wsX00)
def wsX1_pledgeUnits : List Cond := .code yX1_pledgeUnits cX1_pledgeUnits 5 (some .long) :: ([.constantLong RX1 94 (60), .constantLong RX1 67 (100), .fieldLink RX1 44 "HarvestLender$Farmer" "pledgedGrain" "I", .fieldLink RX1 22 "HarvestLender$Farmer" "pledgeDebt" "J", .methodLink RX1 91 yX1_receive, .instanceMethod yX1_receive, .selects RX1 yX1_receive yX1_receive, .initialized RX1, .code yX1_receive cX1_receive 6 none, .fieldLink RX1 19 "HarvestLender$Farmer" "debt" "J", .methodLink RX1 73 Lib.MathLoose.min_long.x, .static Lib.MathLoose.min_long.x, .initialized "java/lang/Math", .code Lib.MathLoose.min_long.x Lib.MathLoose.min_long.code 4 (some .long), .fieldLink RX1 15 "HarvestLender$Farmer" "purse" "J", .methodLink RX1 79 yX1_lowerDebt, .instanceMethod yX1_lowerDebt, .selects RX1 yX1_lowerDebt yX1_lowerDebt, .code yX1_lowerDebt cX1_lowerDebt 4 none, .fieldLink RX1 31 "HarvestLender$Farmer" "repaid" "[J"] ++ wsX10)
def wsX1_moveRestOfPledgeDebt : List Cond := .code yX1_moveRestOfPledgeDebt cX1_moveRestOfPledgeDebt 1 none :: ([.fieldLink RX1 22 "HarvestLender$Farmer" "pledgeDebt" "J", .methodLink RX1 69 yX1_charge, .instanceMethod yX1_charge, .selects RX1 yX1_charge yX1_charge, .initialized RX1, .code yX1_charge cX1_charge 3 none, .fieldLink RX1 19 "HarvestLender$Farmer" "debt" "J", .fieldLink RX1 25 "HarvestLender$Farmer" "charged" "J"] ++ wsX10)
def wsX1_sellUnits_r1 : List Cond := [Cond.methodLink RX1 100 Lib.Math.min.name, Cond.static Lib.Math.min.name, Cond.initialized "java/lang/Math", Cond.code Lib.Math.min.name Lib.Math.min.code 2 (some .int), Cond.fieldLink RX1 22 "HarvestLender$Farmer" "pledgeDebt" "J", Cond.methodLink RX1 73 Lib.MathLoose.min_long.x, Cond.static Lib.MathLoose.min_long.x, Cond.code Lib.MathLoose.min_long.x Lib.MathLoose.min_long.code 4 (some .long), Cond.fieldLink RX1 41 "HarvestLender$Farmer" "grain" "I", Cond.fieldLink RX1 44 "HarvestLender$Farmer" "pledgedGrain" "I", Cond.methodLink RX1 96 yX1_freeGrain, Cond.instanceMethod yX1_freeGrain, Cond.selects RX1 yX1_freeGrain yX1_freeGrain, Cond.initialized RX1, Cond.code yX1_freeGrain cX1_freeGrain 1 (some .int), Cond.methodLink RX1 91 yX1_receive, Cond.instanceMethod yX1_receive, Cond.selects RX1 yX1_receive yX1_receive, Cond.code yX1_receive cX1_receive 6 none, Cond.fieldLink RX1 19 "HarvestLender$Farmer" "debt" "J", Cond.fieldLink RX1 15 "HarvestLender$Farmer" "purse" "J", Cond.methodLink RX1 79 yX1_lowerDebt, Cond.instanceMethod yX1_lowerDebt, Cond.selects RX1 yX1_lowerDebt yX1_lowerDebt]
def wsX1_sellUnits_r2 : List Cond := [Cond.code yX1_lowerDebt cX1_lowerDebt 4 none, Cond.fieldLink RX1 31 "HarvestLender$Farmer" "repaid" "[J", Cond.methodLink RX1 103 yX1_moveRestOfPledgeDebt, Cond.instanceMethod yX1_moveRestOfPledgeDebt, Cond.selects RX1 yX1_moveRestOfPledgeDebt yX1_moveRestOfPledgeDebt, Cond.code yX1_moveRestOfPledgeDebt cX1_moveRestOfPledgeDebt 1 none, Cond.methodLink RX1 69 yX1_charge, Cond.instanceMethod yX1_charge, Cond.selects RX1 yX1_charge yX1_charge, Cond.code yX1_charge cX1_charge 3 none, Cond.fieldLink RX1 25 "HarvestLender$Farmer" "charged" "J"]
def wsX1_sellUnits : List Cond := .code yX1_sellUnits cX1_sellUnits 9 (some .long) :: ((wsX1_sellUnits_r1 ++ wsX1_sellUnits_r2) ++ wsX10)
def wsX1_takeInstalment : List Cond := .code yX1_takeInstalment cX1_takeInstalment 2 (some .long) :: ([.fieldLink RX1 38 "HarvestLender$Farmer" "instalmentsLeft" "I", .fieldLink RX1 35 "HarvestLender$Farmer" "instalments" "[J"] ++ wsX10)
def wsX1_settleFromPurse : List Cond := .code yX1_settleFromPurse cX1_settleFromPurse 1 none :: ([.fieldLink RX1 28 "HarvestLender$Farmer" "called" "J", .fieldLink RX1 19 "HarvestLender$Farmer" "debt" "J", .fieldLink RX1 15 "HarvestLender$Farmer" "purse" "J", .methodLink RX1 73 Lib.MathLoose.min_long.x, .static Lib.MathLoose.min_long.x, .initialized "java/lang/Math", .code Lib.MathLoose.min_long.x Lib.MathLoose.min_long.code 4 (some .long), .methodLink RX1 106 yX1_takeInstalment, .instanceMethod yX1_takeInstalment, .selects RX1 yX1_takeInstalment yX1_takeInstalment, .initialized RX1, .code yX1_takeInstalment cX1_takeInstalment 2 (some .long), .fieldLink RX1 38 "HarvestLender$Farmer" "instalmentsLeft" "I", .fieldLink RX1 35 "HarvestLender$Farmer" "instalments" "[J", .methodLink RX1 110 yX1_repayFromPurse, .instanceMethod yX1_repayFromPurse, .selects RX1 yX1_repayFromPurse yX1_repayFromPurse, .code yX1_repayFromPurse cX1_repayFromPurse 3 none, .methodLink RX1 79 yX1_lowerDebt, .instanceMethod yX1_lowerDebt, .selects RX1 yX1_lowerDebt yX1_lowerDebt, .code yX1_lowerDebt cX1_lowerDebt 4 none, .fieldLink RX1 31 "HarvestLender$Farmer" "repaid" "[J"] ++ wsX10)
def wsX1_instalmentSum : List Cond := .code yX1_instalmentSum cX1_instalmentSum 4 (some .long) :: ([.fieldLink RX1 38 "HarvestLender$Farmer" "instalmentsLeft" "I", .fieldLink RX1 35 "HarvestLender$Farmer" "instalments" "[J"] ++ wsX10)
def wsX1_mayRoll : List Cond := .code yX1_mayRoll cX1_mayRoll 1 (some .boolean) :: ([.fieldLink RX1 59 "HarvestLender$Farmer" "yieldPercent" "I", .fieldLink RX1 38 "HarvestLender$Farmer" "instalmentsLeft" "I", .methodLink RX1 113 yX1_hasPlanted, .instanceMethod yX1_hasPlanted, .selects RX1 yX1_hasPlanted yX1_hasPlanted, .initialized RX1, .code yX1_hasPlanted cX1_hasPlanted 1 (some .boolean), .fieldLink RX1 50 "HarvestLender$Farmer" "plantedCrop" "I"] ++ wsX10)
def wsX1_rollDebt : List Cond := .code yX1_rollDebt cX1_rollDebt 4 none :: ([.fieldLink RX1 19 "HarvestLender$Farmer" "debt" "J", .constantLong RX1 117 (3), .fieldLink RX1 35 "HarvestLender$Farmer" "instalments" "[J", .constantLong RX1 65 (2), .fieldLink RX1 38 "HarvestLender$Farmer" "instalmentsLeft" "I"] ++ wsX10)
def wsX1_payFor : List Cond := .code yX1_payFor cX1_payFor 4 none :: ([.fieldLink RX1 19 "HarvestLender$Farmer" "debt" "J", .fieldLink RX1 15 "HarvestLender$Farmer" "purse" "J", .constantLong RX1 119 (20000), .fieldLink RX1 28 "HarvestLender$Farmer" "called" "J", .methodLink RX1 73 Lib.MathLoose.min_long.x, .static Lib.MathLoose.min_long.x, .initialized "java/lang/Math", .code Lib.MathLoose.min_long.x Lib.MathLoose.min_long.code 4 (some .long), .methodLink RX1 79 yX1_lowerDebt, .instanceMethod yX1_lowerDebt, .selects RX1 yX1_lowerDebt yX1_lowerDebt, .initialized RX1, .code yX1_lowerDebt cX1_lowerDebt 4 none, .fieldLink RX1 31 "HarvestLender$Farmer" "repaid" "[J"] ++ wsX10)
def wsX1_forgetSeason : List Cond := .code yX1_forgetSeason cX1_forgetSeason 1 none :: ([.fieldLink RX1 50 "HarvestLender$Farmer" "plantedCrop" "I", .fieldLink RX1 53 "HarvestLender$Farmer" "hectares" "I", .fieldLink RX1 56 "HarvestLender$Farmer" "coverPercent" "I", .fieldLink RX1 59 "HarvestLender$Farmer" "yieldPercent" "I", .fieldLink RX1 62 "HarvestLender$Farmer" "drawn" "I"] ++ wsX10)
def wsX2_init_r1 : List Cond := [Cond.methodLink RX2 1 objectInit, Cond.instanceMethod objectInit, Cond.code objectInit ⟨#[0xb1]⟩ 1 none, Cond.classLink RX2 9 RX0, Cond.fieldLink RX2 11 "HarvestLender" "crops" "[LHarvestLender$Crop;", Cond.classLink RX2 15 RX1, Cond.fieldLink RX2 17 "HarvestLender" "rows" "[LHarvestLender$Farmer;", Cond.fieldLink RX2 21 "HarvestLender" "count" "I", Cond.fieldLink RX2 25 "HarvestLender" "season" "I", Cond.fieldLink RX2 28 "HarvestLender" "stage" "I", Cond.instantiable RX0 3, Cond.initialized RX0, Cond.instantiable RX1 17, Cond.initialized RX1, Cond.methodLink RX2 31 yX0_init, Cond.instanceMethod yX0_init, Cond.code yX0_init cX0_init 2 none, Cond.methodLink RX0 3 objectInit, Cond.arrayClass .int, Cond.fieldLink RX0 9 "HarvestLender$Crop" "needs" "[I", Cond.fieldLink RX0 15 "HarvestLender$Crop" "price" "I", Cond.fieldLink RX0 19 "HarvestLender$Crop" "normal" "I", Cond.instanceMethod yX1_init, Cond.code yX1_init cX1_init 1 none]
def wsX2_init_r2 : List Cond := [Cond.methodLink RX1 3 objectInit, Cond.fieldLink RX1 9 "HarvestLender$Farmer" "group" "I", Cond.fieldLink RX1 15 "HarvestLender$Farmer" "purse" "J", Cond.fieldLink RX1 19 "HarvestLender$Farmer" "debt" "J", Cond.fieldLink RX1 22 "HarvestLender$Farmer" "pledgeDebt" "J", Cond.fieldLink RX1 25 "HarvestLender$Farmer" "charged" "J", Cond.fieldLink RX1 28 "HarvestLender$Farmer" "called" "J", Cond.arrayClass .long, Cond.fieldLink RX1 31 "HarvestLender$Farmer" "repaid" "[J", Cond.fieldLink RX1 35 "HarvestLender$Farmer" "instalments" "[J", Cond.fieldLink RX1 38 "HarvestLender$Farmer" "instalmentsLeft" "I", Cond.fieldLink RX1 41 "HarvestLender$Farmer" "grain" "I", Cond.fieldLink RX1 44 "HarvestLender$Farmer" "pledgedGrain" "I", Cond.fieldLink RX1 47 "HarvestLender$Farmer" "grainCrop" "I", Cond.fieldLink RX1 50 "HarvestLender$Farmer" "plantedCrop" "I", Cond.fieldLink RX1 53 "HarvestLender$Farmer" "hectares" "I", Cond.fieldLink RX1 56 "HarvestLender$Farmer" "coverPercent" "I", Cond.fieldLink RX1 59 "HarvestLender$Farmer" "yieldPercent" "I", Cond.fieldLink RX1 62 "HarvestLender$Farmer" "drawn" "I"]
def wsX2_init : List Cond := .code yX2_init cX2_init 2 none :: ((wsX2_init_r1 ++ wsX2_init_r2) ++ wsX20 ++ wsX00 ++ wsX10)
def wsX2_cropAt : List Cond := .code yX2_cropAt cX2_cropAt 2 (some (.object "HarvestLender$Crop")) :: ([.classLink RX2 37 "java/lang/IndexOutOfBoundsException", .initialized "java/lang/IndexOutOfBoundsException", .fieldLink RX2 11 "HarvestLender" "crops" "[LHarvestLender$Crop;"] ++ wsX20 ++ (vx_atS RX2 41 "java/lang/IndexOutOfBoundsException" ["java/lang/RuntimeException", "java/lang/Exception"]).filter goodWord)
def wsX2_requireRange : List Cond := .code yX2_requireRange cX2_requireRange 3 none :: ([.classLink RX2 175 "java/lang/IllegalArgumentException", .initialized "java/lang/IllegalArgumentException"] ++ (vx_atS RX2 179 "java/lang/IllegalArgumentException" ["java/lang/RuntimeException", "java/lang/Exception"]).filter goodWord)
def wsX2_setNeed : List Cond := .code yX2_setNeed cX2_setNeed 6 (some .int) :: ([.classLink RX2 37 "java/lang/IndexOutOfBoundsException", .initialized "java/lang/IndexOutOfBoundsException", .constant RX2 44 (100000), .fieldLink RX2 49 "HarvestLender$Crop" "needs" "[I", .methodLink RX2 33 yX2_cropAt, .instanceMethod yX2_cropAt, .selects RX2 yX2_cropAt yX2_cropAt, .initialized RX2, .code yX2_cropAt cX2_cropAt 2 (some (.object "HarvestLender$Crop")), .fieldLink RX2 11 "HarvestLender" "crops" "[LHarvestLender$Crop;", .methodLink RX2 45 yX2_requireRange, .static yX2_requireRange, .code yX2_requireRange cX2_requireRange 3 none, .classLink RX2 175 "java/lang/IllegalArgumentException", .initialized "java/lang/IllegalArgumentException"] ++ wsX00 ++ wsX20 ++ (vx_atS RX2 41 "java/lang/IndexOutOfBoundsException" ["java/lang/RuntimeException", "java/lang/Exception"]).filter goodWord ++ (vx_atS RX2 179 "java/lang/IllegalArgumentException" ["java/lang/RuntimeException", "java/lang/Exception"]).filter goodWord)
def wsX2_setCrop : List Cond := .code yX2_setCrop cX2_setCrop 6 (some .int) :: ([.fieldLink RX2 53 "HarvestLender$Crop" "price" "I", .fieldLink RX2 56 "HarvestLender$Crop" "normal" "I", .methodLink RX2 33 yX2_cropAt, .instanceMethod yX2_cropAt, .selects RX2 yX2_cropAt yX2_cropAt, .initialized RX2, .code yX2_cropAt cX2_cropAt 2 (some (.object "HarvestLender$Crop")), .classLink RX2 37 "java/lang/IndexOutOfBoundsException", .initialized "java/lang/IndexOutOfBoundsException", .fieldLink RX2 11 "HarvestLender" "crops" "[LHarvestLender$Crop;", .methodLink RX2 45 yX2_requireRange, .static yX2_requireRange, .code yX2_requireRange cX2_requireRange 3 none, .classLink RX2 175 "java/lang/IllegalArgumentException", .initialized "java/lang/IllegalArgumentException"] ++ wsX00 ++ wsX20 ++ (vx_atS RX2 41 "java/lang/IndexOutOfBoundsException" ["java/lang/RuntimeException", "java/lang/Exception"]).filter goodWord ++ (vx_atS RX2 179 "java/lang/IllegalArgumentException" ["java/lang/RuntimeException", "java/lang/Exception"]).filter goodWord)
def wsX2_requireState : List Cond := .code yX2_requireState cX2_requireState 1 none :: ([.classLink RX2 180 "java/lang/IllegalStateException", .initialized "java/lang/IllegalStateException"] ++ (vx_atS RX2 184 "java/lang/IllegalStateException" ["java/lang/RuntimeException", "java/lang/Exception"]).filter goodWord)
def wsX2_add : List Cond := .code yX2_add cX2_add 3 (some .int) :: ([.classLink RX2 37 "java/lang/IndexOutOfBoundsException", .initialized "java/lang/IndexOutOfBoundsException", .fieldLink RX2 21 "HarvestLender" "count" "I", .fieldLink RX2 17 "HarvestLender" "rows" "[LHarvestLender$Farmer;", .fieldLink RX2 65 "HarvestLender$Farmer" "group" "I", .methodLink RX2 61 yX2_requireState, .static yX2_requireState, .initialized RX2, .code yX2_requireState cX2_requireState 1 none, .classLink RX2 180 "java/lang/IllegalStateException", .initialized "java/lang/IllegalStateException"] ++ wsX20 ++ wsX10 ++ (vx_atS RX2 41 "java/lang/IndexOutOfBoundsException" ["java/lang/RuntimeException", "java/lang/Exception"]).filter goodWord ++ (vx_atS RX2 184 "java/lang/IllegalStateException" ["java/lang/RuntimeException", "java/lang/Exception"]).filter goodWord)
def wsX2_farmers : List Cond := .code yX2_farmers cX2_farmers 1 (some .int) :: ([.fieldLink RX2 21 "HarvestLender" "count" "I"] ++ wsX20)
def wsX2_farmerAt : List Cond := .code yX2_farmerAt cX2_farmerAt 2 (some (.object "HarvestLender$Farmer")) :: ([.classLink RX2 37 "java/lang/IndexOutOfBoundsException", .initialized "java/lang/IndexOutOfBoundsException", .fieldLink RX2 21 "HarvestLender" "count" "I", .fieldLink RX2 17 "HarvestLender" "rows" "[LHarvestLender$Farmer;"] ++ wsX20 ++ (vx_atS RX2 41 "java/lang/IndexOutOfBoundsException" ["java/lang/RuntimeException", "java/lang/Exception"]).filter goodWord)
def wsX2_plant_r1 : List Cond := [Cond.fieldLink RX2 28 "HarvestLender" "stage" "I", Cond.fieldLink RX2 76 "HarvestLender$Farmer" "grain" "I", Cond.fieldLink RX2 79 "HarvestLender$Farmer" "grainCrop" "I", Cond.fieldLink RX2 82 "HarvestLender$Farmer" "plantedCrop" "I", Cond.fieldLink RX2 85 "HarvestLender$Farmer" "hectares" "I", Cond.methodLink RX2 68 yX2_farmerAt, Cond.instanceMethod yX2_farmerAt, Cond.selects RX2 yX2_farmerAt yX2_farmerAt, Cond.initialized RX2, Cond.code yX2_farmerAt cX2_farmerAt 2 (some (.object "HarvestLender$Farmer")), Cond.classLink RX2 37 "java/lang/IndexOutOfBoundsException", Cond.initialized "java/lang/IndexOutOfBoundsException", Cond.fieldLink RX2 21 "HarvestLender" "count" "I", Cond.fieldLink RX2 17 "HarvestLender" "rows" "[LHarvestLender$Farmer;", Cond.methodLink RX2 33 yX2_cropAt, Cond.instanceMethod yX2_cropAt, Cond.selects RX2 yX2_cropAt yX2_cropAt, Cond.code yX2_cropAt cX2_cropAt 2 (some (.object "HarvestLender$Crop")), Cond.fieldLink RX2 11 "HarvestLender" "crops" "[LHarvestLender$Crop;", Cond.methodLink RX2 45 yX2_requireRange, Cond.static yX2_requireRange, Cond.code yX2_requireRange cX2_requireRange 3 none, Cond.classLink RX2 175 "java/lang/IllegalArgumentException", Cond.initialized "java/lang/IllegalArgumentException"]
def wsX2_plant_r2 : List Cond := [Cond.methodLink RX2 72 yX1_hasPlanted, Cond.instanceMethod yX1_hasPlanted, Cond.selects RX1 yX1_hasPlanted yX1_hasPlanted, Cond.initialized RX1, Cond.code yX1_hasPlanted cX1_hasPlanted 1 (some .boolean), Cond.fieldLink RX1 50 "HarvestLender$Farmer" "plantedCrop" "I", Cond.methodLink RX2 61 yX2_requireState, Cond.static yX2_requireState, Cond.code yX2_requireState cX2_requireState 1 none, Cond.classLink RX2 180 "java/lang/IllegalStateException", Cond.initialized "java/lang/IllegalStateException", Cond.methodLink RX2 88 yX0_needUpTo, Cond.instanceMethod yX0_needUpTo, Cond.selects RX0 yX0_needUpTo yX0_needUpTo, Cond.initialized RX0, Cond.code yX0_needUpTo cX0_needUpTo 4 (some .int), Cond.fieldLink RX0 9 "HarvestLender$Crop" "needs" "[I"]
def wsX2_plant : List Cond := .code yX2_plant cX2_plant 6 (some .int) :: ((wsX2_plant_r1 ++ wsX2_plant_r2) ++ wsX20 ++ wsX10 ++ wsX00 ++ (vx_atS RX2 41 "java/lang/IndexOutOfBoundsException" ["java/lang/RuntimeException", "java/lang/Exception"]).filter goodWord ++ (vx_atS RX2 179 "java/lang/IllegalArgumentException" ["java/lang/RuntimeException", "java/lang/Exception"]).filter goodWord ++ (vx_atS RX2 184 "java/lang/IllegalStateException" ["java/lang/RuntimeException", "java/lang/Exception"]).filter goodWord)
def wsX2_cover_r1 : List Cond := [Cond.fieldLink RX2 28 "HarvestLender" "stage" "I", Cond.fieldLink RX2 92 "HarvestLender$Farmer" "coverPercent" "I", Cond.methodLink RX2 68 yX2_farmerAt, Cond.instanceMethod yX2_farmerAt, Cond.selects RX2 yX2_farmerAt yX2_farmerAt, Cond.initialized RX2, Cond.code yX2_farmerAt cX2_farmerAt 2 (some (.object "HarvestLender$Farmer")), Cond.classLink RX2 37 "java/lang/IndexOutOfBoundsException", Cond.initialized "java/lang/IndexOutOfBoundsException", Cond.fieldLink RX2 21 "HarvestLender" "count" "I", Cond.fieldLink RX2 17 "HarvestLender" "rows" "[LHarvestLender$Farmer;", Cond.methodLink RX2 45 yX2_requireRange, Cond.static yX2_requireRange, Cond.code yX2_requireRange cX2_requireRange 3 none, Cond.classLink RX2 175 "java/lang/IllegalArgumentException", Cond.initialized "java/lang/IllegalArgumentException", Cond.methodLink RX2 72 yX1_hasPlanted, Cond.instanceMethod yX1_hasPlanted, Cond.selects RX1 yX1_hasPlanted yX1_hasPlanted, Cond.initialized RX1, Cond.code yX1_hasPlanted cX1_hasPlanted 1 (some .boolean), Cond.fieldLink RX1 50 "HarvestLender$Farmer" "plantedCrop" "I", Cond.methodLink RX2 61 yX2_requireState, Cond.static yX2_requireState]
def wsX2_cover_r2 : List Cond := [Cond.code yX2_requireState cX2_requireState 1 none, Cond.classLink RX2 180 "java/lang/IllegalStateException", Cond.initialized "java/lang/IllegalStateException"]
def wsX2_cover : List Cond := .code yX2_cover cX2_cover 5 (some .int) :: ((wsX2_cover_r1 ++ wsX2_cover_r2) ++ wsX20 ++ wsX10 ++ (vx_atS RX2 41 "java/lang/IndexOutOfBoundsException" ["java/lang/RuntimeException", "java/lang/Exception"]).filter goodWord ++ (vx_atS RX2 179 "java/lang/IllegalArgumentException" ["java/lang/RuntimeException", "java/lang/Exception"]).filter goodWord ++ (vx_atS RX2 184 "java/lang/IllegalStateException" ["java/lang/RuntimeException", "java/lang/Exception"]).filter goodWord)
def wsX2_limitOf : List Cond := .code yX2_limitOf cX2_limitOf 2 (some .int) :: ([.fieldLink RX2 82 "HarvestLender$Farmer" "plantedCrop" "I", .fieldLink RX2 28 "HarvestLender" "stage" "I", .fieldLink RX2 85 "HarvestLender$Farmer" "hectares" "I", .methodLink RX2 72 yX1_hasPlanted, .instanceMethod yX1_hasPlanted, .selects RX1 yX1_hasPlanted yX1_hasPlanted, .initialized RX1, .code yX1_hasPlanted cX1_hasPlanted 1 (some .boolean), .fieldLink RX1 50 "HarvestLender$Farmer" "plantedCrop" "I", .methodLink RX2 33 yX2_cropAt, .instanceMethod yX2_cropAt, .selects RX2 yX2_cropAt yX2_cropAt, .initialized RX2, .code yX2_cropAt cX2_cropAt 2 (some (.object "HarvestLender$Crop")), .classLink RX2 37 "java/lang/IndexOutOfBoundsException", .initialized "java/lang/IndexOutOfBoundsException", .fieldLink RX2 11 "HarvestLender" "crops" "[LHarvestLender$Crop;", .methodLink RX2 88 yX0_needUpTo, .instanceMethod yX0_needUpTo, .selects RX0 yX0_needUpTo yX0_needUpTo, .initialized RX0, .code yX0_needUpTo cX0_needUpTo 4 (some .int), .fieldLink RX0 9 "HarvestLender$Crop" "needs" "[I"] ++ wsX10 ++ wsX20 ++ wsX00 ++ (vx_atS RX2 41 "java/lang/IndexOutOfBoundsException" ["java/lang/RuntimeException", "java/lang/Exception"]).filter goodWord)
def wsX2_draw_r1 : List Cond := [Cond.constant RX2 95 (100000000), Cond.fieldLink RX2 28 "HarvestLender" "stage" "I", Cond.fieldLink RX2 100 "HarvestLender$Farmer" "drawn" "I", Cond.methodLink RX2 68 yX2_farmerAt, Cond.instanceMethod yX2_farmerAt, Cond.selects RX2 yX2_farmerAt yX2_farmerAt, Cond.initialized RX2, Cond.code yX2_farmerAt cX2_farmerAt 2 (some (.object "HarvestLender$Farmer")), Cond.classLink RX2 37 "java/lang/IndexOutOfBoundsException", Cond.initialized "java/lang/IndexOutOfBoundsException", Cond.fieldLink RX2 21 "HarvestLender" "count" "I", Cond.fieldLink RX2 17 "HarvestLender" "rows" "[LHarvestLender$Farmer;", Cond.methodLink RX2 45 yX2_requireRange, Cond.static yX2_requireRange, Cond.code yX2_requireRange cX2_requireRange 3 none, Cond.classLink RX2 175 "java/lang/IllegalArgumentException", Cond.initialized "java/lang/IllegalArgumentException", Cond.methodLink RX2 61 yX2_requireState, Cond.static yX2_requireState, Cond.code yX2_requireState cX2_requireState 1 none, Cond.classLink RX2 180 "java/lang/IllegalStateException", Cond.initialized "java/lang/IllegalStateException", Cond.methodLink RX2 96 yX2_limitOf, Cond.instanceMethod yX2_limitOf]
def wsX2_draw_r2 : List Cond := [Cond.selects RX2 yX2_limitOf yX2_limitOf, Cond.code yX2_limitOf cX2_limitOf 2 (some .int), Cond.fieldLink RX2 82 "HarvestLender$Farmer" "plantedCrop" "I", Cond.fieldLink RX2 85 "HarvestLender$Farmer" "hectares" "I", Cond.methodLink RX2 72 yX1_hasPlanted, Cond.instanceMethod yX1_hasPlanted, Cond.selects RX1 yX1_hasPlanted yX1_hasPlanted, Cond.initialized RX1, Cond.code yX1_hasPlanted cX1_hasPlanted 1 (some .boolean), Cond.fieldLink RX1 50 "HarvestLender$Farmer" "plantedCrop" "I", Cond.methodLink RX2 33 yX2_cropAt, Cond.instanceMethod yX2_cropAt, Cond.selects RX2 yX2_cropAt yX2_cropAt, Cond.code yX2_cropAt cX2_cropAt 2 (some (.object "HarvestLender$Crop")), Cond.fieldLink RX2 11 "HarvestLender" "crops" "[LHarvestLender$Crop;", Cond.methodLink RX2 88 yX0_needUpTo, Cond.instanceMethod yX0_needUpTo, Cond.selects RX0 yX0_needUpTo yX0_needUpTo, Cond.initialized RX0, Cond.code yX0_needUpTo cX0_needUpTo 4 (some .int), Cond.fieldLink RX0 9 "HarvestLender$Crop" "needs" "[I", Cond.methodLink RX2 103 yX1_charge, Cond.instanceMethod yX1_charge, Cond.selects RX1 yX1_charge yX1_charge]
def wsX2_draw_r3 : List Cond := [Cond.code yX1_charge cX1_charge 3 none, Cond.fieldLink RX1 19 "HarvestLender$Farmer" "debt" "J", Cond.fieldLink RX1 25 "HarvestLender$Farmer" "charged" "J"]
def wsX2_draw : List Cond := .code yX2_draw cX2_draw 5 (some .int) :: ((wsX2_draw_r1 ++ (wsX2_draw_r2 ++ wsX2_draw_r3)) ++ wsX20 ++ wsX10 ++ wsX00 ++ (vx_atS RX2 41 "java/lang/IndexOutOfBoundsException" ["java/lang/RuntimeException", "java/lang/Exception"]).filter goodWord ++ (vx_atS RX2 179 "java/lang/IllegalArgumentException" ["java/lang/RuntimeException", "java/lang/Exception"]).filter goodWord ++ (vx_atS RX2 184 "java/lang/IllegalStateException" ["java/lang/RuntimeException", "java/lang/Exception"]).filter goodWord)
def wsX2_setYield : List Cond := .code yX2_setYield cX2_setYield 5 (some .int) :: ([.fieldLink RX2 28 "HarvestLender" "stage" "I", .fieldLink RX2 107 "HarvestLender$Farmer" "yieldPercent" "I", .methodLink RX2 68 yX2_farmerAt, .instanceMethod yX2_farmerAt, .selects RX2 yX2_farmerAt yX2_farmerAt, .initialized RX2, .code yX2_farmerAt cX2_farmerAt 2 (some (.object "HarvestLender$Farmer")), .classLink RX2 37 "java/lang/IndexOutOfBoundsException", .initialized "java/lang/IndexOutOfBoundsException", .fieldLink RX2 21 "HarvestLender" "count" "I", .fieldLink RX2 17 "HarvestLender" "rows" "[LHarvestLender$Farmer;", .methodLink RX2 45 yX2_requireRange, .static yX2_requireRange, .code yX2_requireRange cX2_requireRange 3 none, .classLink RX2 175 "java/lang/IllegalArgumentException", .initialized "java/lang/IllegalArgumentException", .methodLink RX2 61 yX2_requireState, .static yX2_requireState, .code yX2_requireState cX2_requireState 1 none, .classLink RX2 180 "java/lang/IllegalStateException", .initialized "java/lang/IllegalStateException"] ++ wsX20 ++ wsX10 ++ (vx_atS RX2 41 "java/lang/IndexOutOfBoundsException" ["java/lang/RuntimeException", "java/lang/Exception"]).filter goodWord ++ (vx_atS RX2 179 "java/lang/IllegalArgumentException" ["java/lang/RuntimeException", "java/lang/Exception"]).filter goodWord ++ (vx_atS RX2 184 "java/lang/IllegalStateException" ["java/lang/RuntimeException", "java/lang/Exception"]).filter goodWord)
def wsX2_harvestAll_r1 : List Cond := [Cond.fieldLink RX2 21 "HarvestLender" "count" "I", Cond.fieldLink RX2 17 "HarvestLender" "rows" "[LHarvestLender$Farmer;", Cond.fieldLink RX2 82 "HarvestLender$Farmer" "plantedCrop" "I", Cond.methodLink RX2 72 yX1_hasPlanted, Cond.instanceMethod yX1_hasPlanted, Cond.selects RX1 yX1_hasPlanted yX1_hasPlanted, Cond.initialized RX1, Cond.code yX1_hasPlanted cX1_hasPlanted 1 (some .boolean), Cond.fieldLink RX1 50 "HarvestLender$Farmer" "plantedCrop" "I", Cond.methodLink RX2 33 yX2_cropAt, Cond.instanceMethod yX2_cropAt, Cond.selects RX2 yX2_cropAt yX2_cropAt, Cond.initialized RX2, Cond.code yX2_cropAt cX2_cropAt 2 (some (.object "HarvestLender$Crop")), Cond.classLink RX2 37 "java/lang/IndexOutOfBoundsException", Cond.initialized "java/lang/IndexOutOfBoundsException", Cond.fieldLink RX2 11 "HarvestLender" "crops" "[LHarvestLender$Crop;", Cond.methodLink RX2 185 yX1_harvest, Cond.instanceMethod yX1_harvest, Cond.selects RX1 yX1_harvest yX1_harvest, Cond.code yX1_harvest cX1_harvest 5 none, Cond.fieldLink RX1 53 "HarvestLender$Farmer" "hectares" "I", Cond.fieldLink RX1 83 "HarvestLender$Crop" "normal" "I", Cond.fieldLink RX1 41 "HarvestLender$Farmer" "grain" "I"]
def wsX2_harvestAll_r2 : List Cond := [Cond.fieldLink RX1 59 "HarvestLender$Farmer" "yieldPercent" "I", Cond.fieldLink RX1 47 "HarvestLender$Farmer" "grainCrop" "I", Cond.fieldLink RX1 56 "HarvestLender$Farmer" "coverPercent" "I", Cond.fieldLink RX1 88 "HarvestLender$Crop" "price" "I", Cond.constantLong RX1 67 (100), Cond.methodLink RX1 91 yX1_receive, Cond.instanceMethod yX1_receive, Cond.selects RX1 yX1_receive yX1_receive, Cond.code yX1_receive cX1_receive 6 none, Cond.fieldLink RX1 19 "HarvestLender$Farmer" "debt" "J", Cond.methodLink RX1 73 Lib.MathLoose.min_long.x, Cond.static Lib.MathLoose.min_long.x, Cond.initialized "java/lang/Math", Cond.code Lib.MathLoose.min_long.x Lib.MathLoose.min_long.code 4 (some .long), Cond.fieldLink RX1 15 "HarvestLender$Farmer" "purse" "J", Cond.methodLink RX1 79 yX1_lowerDebt, Cond.instanceMethod yX1_lowerDebt, Cond.selects RX1 yX1_lowerDebt yX1_lowerDebt, Cond.code yX1_lowerDebt cX1_lowerDebt 4 none, Cond.fieldLink RX1 31 "HarvestLender$Farmer" "repaid" "[J"]
def wsX2_harvestAll : List Cond := .code yX2_harvestAll cX2_harvestAll 2 none :: ((wsX2_harvestAll_r1 ++ wsX2_harvestAll_r2) ++ wsX20 ++ wsX10 ++ wsX00 ++ (vx_atS RX2 41 "java/lang/IndexOutOfBoundsException" ["java/lang/RuntimeException", "java/lang/Exception"]).filter goodWord)
def wsX2_next_r1 : List Cond := [Cond.fieldLink RX2 28 "HarvestLender" "stage" "I", Cond.fieldLink RX2 21 "HarvestLender" "count" "I", Cond.fieldLink RX2 17 "HarvestLender" "rows" "[LHarvestLender$Farmer;", Cond.methodLink RX2 61 yX2_requireState, Cond.static yX2_requireState, Cond.initialized RX2, Cond.code yX2_requireState cX2_requireState 1 none, Cond.classLink RX2 180 "java/lang/IllegalStateException", Cond.initialized "java/lang/IllegalStateException", Cond.methodLink RX2 110 yX1_chargeInterest, Cond.instanceMethod yX1_chargeInterest, Cond.selects RX1 yX1_chargeInterest yX1_chargeInterest, Cond.initialized RX1, Cond.code yX1_chargeInterest cX1_chargeInterest 1 none, Cond.fieldLink RX1 19 "HarvestLender$Farmer" "debt" "J", Cond.constantLong RX1 65 (2), Cond.constantLong RX1 67 (100), Cond.methodLink RX1 69 yX1_charge, Cond.instanceMethod yX1_charge, Cond.selects RX1 yX1_charge yX1_charge, Cond.code yX1_charge cX1_charge 3 none, Cond.fieldLink RX1 25 "HarvestLender$Farmer" "charged" "J", Cond.methodLink RX2 113 yX2_harvestAll, Cond.instanceMethod yX2_harvestAll]
def wsX2_next_r2 : List Cond := [Cond.selects RX2 yX2_harvestAll yX2_harvestAll, Cond.code yX2_harvestAll cX2_harvestAll 2 none, Cond.fieldLink RX2 82 "HarvestLender$Farmer" "plantedCrop" "I", Cond.methodLink RX2 72 yX1_hasPlanted, Cond.instanceMethod yX1_hasPlanted, Cond.selects RX1 yX1_hasPlanted yX1_hasPlanted, Cond.code yX1_hasPlanted cX1_hasPlanted 1 (some .boolean), Cond.fieldLink RX1 50 "HarvestLender$Farmer" "plantedCrop" "I", Cond.methodLink RX2 33 yX2_cropAt, Cond.instanceMethod yX2_cropAt, Cond.selects RX2 yX2_cropAt yX2_cropAt, Cond.code yX2_cropAt cX2_cropAt 2 (some (.object "HarvestLender$Crop")), Cond.classLink RX2 37 "java/lang/IndexOutOfBoundsException", Cond.initialized "java/lang/IndexOutOfBoundsException", Cond.fieldLink RX2 11 "HarvestLender" "crops" "[LHarvestLender$Crop;", Cond.methodLink RX2 185 yX1_harvest, Cond.instanceMethod yX1_harvest, Cond.selects RX1 yX1_harvest yX1_harvest, Cond.code yX1_harvest cX1_harvest 5 none, Cond.fieldLink RX1 53 "HarvestLender$Farmer" "hectares" "I", Cond.fieldLink RX1 83 "HarvestLender$Crop" "normal" "I", Cond.fieldLink RX1 41 "HarvestLender$Farmer" "grain" "I", Cond.fieldLink RX1 59 "HarvestLender$Farmer" "yieldPercent" "I", Cond.fieldLink RX1 47 "HarvestLender$Farmer" "grainCrop" "I"]
def wsX2_next_r3 : List Cond := [Cond.fieldLink RX1 56 "HarvestLender$Farmer" "coverPercent" "I", Cond.fieldLink RX1 88 "HarvestLender$Crop" "price" "I", Cond.methodLink RX1 91 yX1_receive, Cond.instanceMethod yX1_receive, Cond.selects RX1 yX1_receive yX1_receive, Cond.code yX1_receive cX1_receive 6 none, Cond.methodLink RX1 73 Lib.MathLoose.min_long.x, Cond.static Lib.MathLoose.min_long.x, Cond.initialized "java/lang/Math", Cond.code Lib.MathLoose.min_long.x Lib.MathLoose.min_long.code 4 (some .long), Cond.fieldLink RX1 15 "HarvestLender$Farmer" "purse" "J", Cond.methodLink RX1 79 yX1_lowerDebt, Cond.instanceMethod yX1_lowerDebt, Cond.selects RX1 yX1_lowerDebt yX1_lowerDebt, Cond.code yX1_lowerDebt cX1_lowerDebt 4 none, Cond.fieldLink RX1 31 "HarvestLender$Farmer" "repaid" "[J"]
def wsX2_next : List Cond := .code yX2_next cX2_next 2 (some .int) :: ((wsX2_next_r1 ++ (wsX2_next_r2 ++ wsX2_next_r3)) ++ wsX20 ++ wsX10 ++ wsX00 ++ (vx_atS RX2 184 "java/lang/IllegalStateException" ["java/lang/RuntimeException", "java/lang/Exception"]).filter goodWord ++ (vx_atS RX2 41 "java/lang/IndexOutOfBoundsException" ["java/lang/RuntimeException", "java/lang/Exception"]).filter goodWord)
def wsX2_pledge_r1 : List Cond := [Cond.constant RX2 116 (1000000), Cond.fieldLink RX2 79 "HarvestLender$Farmer" "grainCrop" "I", Cond.fieldLink RX2 53 "HarvestLender$Crop" "price" "I", Cond.methodLink RX2 68 yX2_farmerAt, Cond.instanceMethod yX2_farmerAt, Cond.selects RX2 yX2_farmerAt yX2_farmerAt, Cond.initialized RX2, Cond.code yX2_farmerAt cX2_farmerAt 2 (some (.object "HarvestLender$Farmer")), Cond.classLink RX2 37 "java/lang/IndexOutOfBoundsException", Cond.initialized "java/lang/IndexOutOfBoundsException", Cond.fieldLink RX2 21 "HarvestLender" "count" "I", Cond.fieldLink RX2 17 "HarvestLender" "rows" "[LHarvestLender$Farmer;", Cond.methodLink RX2 45 yX2_requireRange, Cond.static yX2_requireRange, Cond.code yX2_requireRange cX2_requireRange 3 none, Cond.classLink RX2 175 "java/lang/IllegalArgumentException", Cond.initialized "java/lang/IllegalArgumentException", Cond.methodLink RX2 117 yX1_freeGrain, Cond.instanceMethod yX1_freeGrain, Cond.selects RX1 yX1_freeGrain yX1_freeGrain, Cond.initialized RX1, Cond.code yX1_freeGrain cX1_freeGrain 1 (some .int), Cond.fieldLink RX1 41 "HarvestLender$Farmer" "grain" "I", Cond.fieldLink RX1 44 "HarvestLender$Farmer" "pledgedGrain" "I"]
def wsX2_pledge_r2 : List Cond := [Cond.methodLink RX2 61 yX2_requireState, Cond.static yX2_requireState, Cond.code yX2_requireState cX2_requireState 1 none, Cond.classLink RX2 180 "java/lang/IllegalStateException", Cond.initialized "java/lang/IllegalStateException", Cond.methodLink RX2 33 yX2_cropAt, Cond.instanceMethod yX2_cropAt, Cond.selects RX2 yX2_cropAt yX2_cropAt, Cond.code yX2_cropAt cX2_cropAt 2 (some (.object "HarvestLender$Crop")), Cond.fieldLink RX2 11 "HarvestLender" "crops" "[LHarvestLender$Crop;", Cond.methodLink RX2 121 yX1_pledgeUnits, Cond.instanceMethod yX1_pledgeUnits, Cond.selects RX1 yX1_pledgeUnits yX1_pledgeUnits, Cond.code yX1_pledgeUnits cX1_pledgeUnits 5 (some .long), Cond.constantLong RX1 94 (60), Cond.constantLong RX1 67 (100), Cond.fieldLink RX1 22 "HarvestLender$Farmer" "pledgeDebt" "J", Cond.methodLink RX1 91 yX1_receive, Cond.instanceMethod yX1_receive, Cond.selects RX1 yX1_receive yX1_receive, Cond.code yX1_receive cX1_receive 6 none, Cond.fieldLink RX1 19 "HarvestLender$Farmer" "debt" "J", Cond.methodLink RX1 73 Lib.MathLoose.min_long.x, Cond.static Lib.MathLoose.min_long.x]
def wsX2_pledge_r3 : List Cond := [Cond.initialized "java/lang/Math", Cond.code Lib.MathLoose.min_long.x Lib.MathLoose.min_long.code 4 (some .long), Cond.fieldLink RX1 15 "HarvestLender$Farmer" "purse" "J", Cond.methodLink RX1 79 yX1_lowerDebt, Cond.instanceMethod yX1_lowerDebt, Cond.selects RX1 yX1_lowerDebt yX1_lowerDebt, Cond.code yX1_lowerDebt cX1_lowerDebt 4 none, Cond.fieldLink RX1 31 "HarvestLender$Farmer" "repaid" "[J"]
def wsX2_pledge : List Cond := .code yX2_pledge cX2_pledge 4 (some .int) :: ((wsX2_pledge_r1 ++ (wsX2_pledge_r2 ++ wsX2_pledge_r3)) ++ wsX10 ++ wsX00 ++ wsX20 ++ (vx_atS RX2 41 "java/lang/IndexOutOfBoundsException" ["java/lang/RuntimeException", "java/lang/Exception"]).filter goodWord ++ (vx_atS RX2 179 "java/lang/IllegalArgumentException" ["java/lang/RuntimeException", "java/lang/Exception"]).filter goodWord ++ (vx_atS RX2 184 "java/lang/IllegalStateException" ["java/lang/RuntimeException", "java/lang/Exception"]).filter goodWord)
def wsX2_sell_r1 : List Cond := [Cond.constant RX2 116 (1000000), Cond.fieldLink RX2 76 "HarvestLender$Farmer" "grain" "I", Cond.fieldLink RX2 79 "HarvestLender$Farmer" "grainCrop" "I", Cond.fieldLink RX2 53 "HarvestLender$Crop" "price" "I", Cond.methodLink RX2 68 yX2_farmerAt, Cond.instanceMethod yX2_farmerAt, Cond.selects RX2 yX2_farmerAt yX2_farmerAt, Cond.initialized RX2, Cond.code yX2_farmerAt cX2_farmerAt 2 (some (.object "HarvestLender$Farmer")), Cond.classLink RX2 37 "java/lang/IndexOutOfBoundsException", Cond.initialized "java/lang/IndexOutOfBoundsException", Cond.fieldLink RX2 21 "HarvestLender" "count" "I", Cond.fieldLink RX2 17 "HarvestLender" "rows" "[LHarvestLender$Farmer;", Cond.methodLink RX2 45 yX2_requireRange, Cond.static yX2_requireRange, Cond.code yX2_requireRange cX2_requireRange 3 none, Cond.classLink RX2 175 "java/lang/IllegalArgumentException", Cond.initialized "java/lang/IllegalArgumentException", Cond.methodLink RX2 61 yX2_requireState, Cond.static yX2_requireState, Cond.code yX2_requireState cX2_requireState 1 none, Cond.classLink RX2 180 "java/lang/IllegalStateException", Cond.initialized "java/lang/IllegalStateException", Cond.methodLink RX2 33 yX2_cropAt]
def wsX2_sell_r2 : List Cond := [Cond.instanceMethod yX2_cropAt, Cond.selects RX2 yX2_cropAt yX2_cropAt, Cond.code yX2_cropAt cX2_cropAt 2 (some (.object "HarvestLender$Crop")), Cond.fieldLink RX2 11 "HarvestLender" "crops" "[LHarvestLender$Crop;", Cond.methodLink RX2 125 yX1_sellUnits, Cond.instanceMethod yX1_sellUnits, Cond.selects RX1 yX1_sellUnits yX1_sellUnits, Cond.initialized RX1, Cond.code yX1_sellUnits cX1_sellUnits 9 (some .long), Cond.methodLink RX1 100 Lib.Math.min.name, Cond.static Lib.Math.min.name, Cond.initialized "java/lang/Math", Cond.code Lib.Math.min.name Lib.Math.min.code 2 (some .int), Cond.fieldLink RX1 22 "HarvestLender$Farmer" "pledgeDebt" "J", Cond.methodLink RX1 73 Lib.MathLoose.min_long.x, Cond.static Lib.MathLoose.min_long.x, Cond.code Lib.MathLoose.min_long.x Lib.MathLoose.min_long.code 4 (some .long), Cond.fieldLink RX1 41 "HarvestLender$Farmer" "grain" "I", Cond.fieldLink RX1 44 "HarvestLender$Farmer" "pledgedGrain" "I", Cond.methodLink RX1 96 yX1_freeGrain, Cond.instanceMethod yX1_freeGrain, Cond.selects RX1 yX1_freeGrain yX1_freeGrain, Cond.code yX1_freeGrain cX1_freeGrain 1 (some .int), Cond.methodLink RX1 91 yX1_receive]
def wsX2_sell_r3 : List Cond := [Cond.instanceMethod yX1_receive, Cond.selects RX1 yX1_receive yX1_receive, Cond.code yX1_receive cX1_receive 6 none, Cond.fieldLink RX1 19 "HarvestLender$Farmer" "debt" "J", Cond.fieldLink RX1 15 "HarvestLender$Farmer" "purse" "J", Cond.methodLink RX1 79 yX1_lowerDebt, Cond.instanceMethod yX1_lowerDebt, Cond.selects RX1 yX1_lowerDebt yX1_lowerDebt, Cond.code yX1_lowerDebt cX1_lowerDebt 4 none, Cond.fieldLink RX1 31 "HarvestLender$Farmer" "repaid" "[J", Cond.methodLink RX1 103 yX1_moveRestOfPledgeDebt, Cond.instanceMethod yX1_moveRestOfPledgeDebt, Cond.selects RX1 yX1_moveRestOfPledgeDebt yX1_moveRestOfPledgeDebt, Cond.code yX1_moveRestOfPledgeDebt cX1_moveRestOfPledgeDebt 1 none, Cond.methodLink RX1 69 yX1_charge, Cond.instanceMethod yX1_charge, Cond.selects RX1 yX1_charge yX1_charge, Cond.code yX1_charge cX1_charge 3 none, Cond.fieldLink RX1 25 "HarvestLender$Farmer" "charged" "J"]
def wsX2_sell : List Cond := .code yX2_sell cX2_sell 4 (some .int) :: ((wsX2_sell_r1 ++ (wsX2_sell_r2 ++ wsX2_sell_r3)) ++ wsX10 ++ wsX00 ++ wsX20 ++ (vx_atS RX2 41 "java/lang/IndexOutOfBoundsException" ["java/lang/RuntimeException", "java/lang/Exception"]).filter goodWord ++ (vx_atS RX2 179 "java/lang/IllegalArgumentException" ["java/lang/RuntimeException", "java/lang/Exception"]).filter goodWord ++ (vx_atS RX2 184 "java/lang/IllegalStateException" ["java/lang/RuntimeException", "java/lang/Exception"]).filter goodWord)
def wsX2_repay_r1 : List Cond := [Cond.constant RX2 95 (100000000), Cond.fieldLink RX2 128 "HarvestLender$Farmer" "debt" "J", Cond.fieldLink RX2 132 "HarvestLender$Farmer" "purse" "J", Cond.methodLink RX2 68 yX2_farmerAt, Cond.instanceMethod yX2_farmerAt, Cond.selects RX2 yX2_farmerAt yX2_farmerAt, Cond.initialized RX2, Cond.code yX2_farmerAt cX2_farmerAt 2 (some (.object "HarvestLender$Farmer")), Cond.classLink RX2 37 "java/lang/IndexOutOfBoundsException", Cond.initialized "java/lang/IndexOutOfBoundsException", Cond.fieldLink RX2 21 "HarvestLender" "count" "I", Cond.fieldLink RX2 17 "HarvestLender" "rows" "[LHarvestLender$Farmer;", Cond.methodLink RX2 45 yX2_requireRange, Cond.static yX2_requireRange, Cond.code yX2_requireRange cX2_requireRange 3 none, Cond.classLink RX2 175 "java/lang/IllegalArgumentException", Cond.initialized "java/lang/IllegalArgumentException", Cond.methodLink RX2 61 yX2_requireState, Cond.static yX2_requireState, Cond.code yX2_requireState cX2_requireState 1 none, Cond.classLink RX2 180 "java/lang/IllegalStateException", Cond.initialized "java/lang/IllegalStateException", Cond.methodLink RX2 135 yX1_repayFromPurse, Cond.instanceMethod yX1_repayFromPurse]
def wsX2_repay_r2 : List Cond := [Cond.selects RX1 yX1_repayFromPurse yX1_repayFromPurse, Cond.initialized RX1, Cond.code yX1_repayFromPurse cX1_repayFromPurse 3 none, Cond.fieldLink RX1 15 "HarvestLender$Farmer" "purse" "J", Cond.methodLink RX1 79 yX1_lowerDebt, Cond.instanceMethod yX1_lowerDebt, Cond.selects RX1 yX1_lowerDebt yX1_lowerDebt, Cond.code yX1_lowerDebt cX1_lowerDebt 4 none, Cond.fieldLink RX1 19 "HarvestLender$Farmer" "debt" "J", Cond.fieldLink RX1 31 "HarvestLender$Farmer" "repaid" "[J"]
def wsX2_repay : List Cond := .code yX2_repay cX2_repay 4 (some .int) :: ((wsX2_repay_r1 ++ wsX2_repay_r2) ++ wsX10 ++ wsX20 ++ (vx_atS RX2 41 "java/lang/IndexOutOfBoundsException" ["java/lang/RuntimeException", "java/lang/Exception"]).filter goodWord ++ (vx_atS RX2 179 "java/lang/IllegalArgumentException" ["java/lang/RuntimeException", "java/lang/Exception"]).filter goodWord ++ (vx_atS RX2 184 "java/lang/IllegalStateException" ["java/lang/RuntimeException", "java/lang/Exception"]).filter goodWord)
def wsX2_collectFromGroup : List Cond := .code yX2_collectFromGroup cX2_collectFromGroup 3 none :: ([.fieldLink RX2 21 "HarvestLender" "count" "I", .fieldLink RX2 17 "HarvestLender" "rows" "[LHarvestLender$Farmer;", .fieldLink RX2 65 "HarvestLender$Farmer" "group" "I", .methodLink RX2 198 yX1_payFor, .instanceMethod yX1_payFor, .selects RX1 yX1_payFor yX1_payFor, .initialized RX1, .code yX1_payFor cX1_payFor 4 none, .fieldLink RX1 19 "HarvestLender$Farmer" "debt" "J", .fieldLink RX1 15 "HarvestLender$Farmer" "purse" "J", .constantLong RX1 119 (20000), .fieldLink RX1 28 "HarvestLender$Farmer" "called" "J", .methodLink RX1 73 Lib.MathLoose.min_long.x, .static Lib.MathLoose.min_long.x, .initialized "java/lang/Math", .code Lib.MathLoose.min_long.x Lib.MathLoose.min_long.code 4 (some .long), .methodLink RX1 79 yX1_lowerDebt, .instanceMethod yX1_lowerDebt, .selects RX1 yX1_lowerDebt yX1_lowerDebt, .code yX1_lowerDebt cX1_lowerDebt 4 none, .fieldLink RX1 31 "HarvestLender$Farmer" "repaid" "[J"] ++ wsX20 ++ wsX10)
def wsX2_settleRest_r1 : List Cond := [Cond.fieldLink RX2 128 "HarvestLender$Farmer" "debt" "J", Cond.methodLink RX2 189 yX1_mayRoll, Cond.instanceMethod yX1_mayRoll, Cond.selects RX1 yX1_mayRoll yX1_mayRoll, Cond.initialized RX1, Cond.code yX1_mayRoll cX1_mayRoll 1 (some .boolean), Cond.fieldLink RX1 59 "HarvestLender$Farmer" "yieldPercent" "I", Cond.fieldLink RX1 38 "HarvestLender$Farmer" "instalmentsLeft" "I", Cond.methodLink RX1 113 yX1_hasPlanted, Cond.instanceMethod yX1_hasPlanted, Cond.selects RX1 yX1_hasPlanted yX1_hasPlanted, Cond.code yX1_hasPlanted cX1_hasPlanted 1 (some .boolean), Cond.fieldLink RX1 50 "HarvestLender$Farmer" "plantedCrop" "I", Cond.methodLink RX2 192 yX1_rollDebt, Cond.instanceMethod yX1_rollDebt, Cond.selects RX1 yX1_rollDebt yX1_rollDebt, Cond.code yX1_rollDebt cX1_rollDebt 4 none, Cond.fieldLink RX1 19 "HarvestLender$Farmer" "debt" "J", Cond.constantLong RX1 117 (3), Cond.fieldLink RX1 35 "HarvestLender$Farmer" "instalments" "[J", Cond.constantLong RX1 65 (2), Cond.methodLink RX2 195 yX2_collectFromGroup, Cond.instanceMethod yX2_collectFromGroup, Cond.selects RX2 yX2_collectFromGroup yX2_collectFromGroup]
def wsX2_settleRest_r2 : List Cond := [Cond.initialized RX2, Cond.code yX2_collectFromGroup cX2_collectFromGroup 3 none, Cond.fieldLink RX2 21 "HarvestLender" "count" "I", Cond.fieldLink RX2 17 "HarvestLender" "rows" "[LHarvestLender$Farmer;", Cond.fieldLink RX2 65 "HarvestLender$Farmer" "group" "I", Cond.methodLink RX2 198 yX1_payFor, Cond.instanceMethod yX1_payFor, Cond.selects RX1 yX1_payFor yX1_payFor, Cond.code yX1_payFor cX1_payFor 4 none, Cond.fieldLink RX1 15 "HarvestLender$Farmer" "purse" "J", Cond.constantLong RX1 119 (20000), Cond.fieldLink RX1 28 "HarvestLender$Farmer" "called" "J", Cond.methodLink RX1 73 Lib.MathLoose.min_long.x, Cond.static Lib.MathLoose.min_long.x, Cond.initialized "java/lang/Math", Cond.code Lib.MathLoose.min_long.x Lib.MathLoose.min_long.code 4 (some .long), Cond.methodLink RX1 79 yX1_lowerDebt, Cond.instanceMethod yX1_lowerDebt, Cond.selects RX1 yX1_lowerDebt yX1_lowerDebt, Cond.code yX1_lowerDebt cX1_lowerDebt 4 none, Cond.fieldLink RX1 31 "HarvestLender$Farmer" "repaid" "[J"]
def wsX2_settleRest : List Cond := .code yX2_settleRest cX2_settleRest 2 none :: ((wsX2_settleRest_r1 ++ wsX2_settleRest_r2) ++ wsX10 ++ wsX20)
def wsX2_close_r1 : List Cond := [Cond.fieldLink RX2 28 "HarvestLender" "stage" "I", Cond.fieldLink RX2 25 "HarvestLender" "season" "I", Cond.fieldLink RX2 21 "HarvestLender" "count" "I", Cond.fieldLink RX2 17 "HarvestLender" "rows" "[LHarvestLender$Farmer;", Cond.methodLink RX2 61 yX2_requireState, Cond.static yX2_requireState, Cond.initialized RX2, Cond.code yX2_requireState cX2_requireState 1 none, Cond.classLink RX2 180 "java/lang/IllegalStateException", Cond.initialized "java/lang/IllegalStateException", Cond.methodLink RX2 138 yX1_settleFromPurse, Cond.instanceMethod yX1_settleFromPurse, Cond.selects RX1 yX1_settleFromPurse yX1_settleFromPurse, Cond.initialized RX1, Cond.code yX1_settleFromPurse cX1_settleFromPurse 1 none, Cond.fieldLink RX1 28 "HarvestLender$Farmer" "called" "J", Cond.fieldLink RX1 19 "HarvestLender$Farmer" "debt" "J", Cond.fieldLink RX1 15 "HarvestLender$Farmer" "purse" "J", Cond.methodLink RX1 73 Lib.MathLoose.min_long.x, Cond.static Lib.MathLoose.min_long.x, Cond.initialized "java/lang/Math", Cond.code Lib.MathLoose.min_long.x Lib.MathLoose.min_long.code 4 (some .long), Cond.methodLink RX1 106 yX1_takeInstalment, Cond.instanceMethod yX1_takeInstalment]
def wsX2_close_r2 : List Cond := [Cond.selects RX1 yX1_takeInstalment yX1_takeInstalment, Cond.code yX1_takeInstalment cX1_takeInstalment 2 (some .long), Cond.fieldLink RX1 38 "HarvestLender$Farmer" "instalmentsLeft" "I", Cond.fieldLink RX1 35 "HarvestLender$Farmer" "instalments" "[J", Cond.methodLink RX1 110 yX1_repayFromPurse, Cond.instanceMethod yX1_repayFromPurse, Cond.selects RX1 yX1_repayFromPurse yX1_repayFromPurse, Cond.code yX1_repayFromPurse cX1_repayFromPurse 3 none, Cond.methodLink RX1 79 yX1_lowerDebt, Cond.instanceMethod yX1_lowerDebt, Cond.selects RX1 yX1_lowerDebt yX1_lowerDebt, Cond.code yX1_lowerDebt cX1_lowerDebt 4 none, Cond.fieldLink RX1 31 "HarvestLender$Farmer" "repaid" "[J", Cond.methodLink RX2 141 yX2_settleRest, Cond.instanceMethod yX2_settleRest, Cond.selects RX2 yX2_settleRest yX2_settleRest, Cond.code yX2_settleRest cX2_settleRest 2 none, Cond.fieldLink RX2 128 "HarvestLender$Farmer" "debt" "J", Cond.methodLink RX2 189 yX1_mayRoll, Cond.instanceMethod yX1_mayRoll, Cond.selects RX1 yX1_mayRoll yX1_mayRoll, Cond.code yX1_mayRoll cX1_mayRoll 1 (some .boolean), Cond.fieldLink RX1 59 "HarvestLender$Farmer" "yieldPercent" "I", Cond.methodLink RX1 113 yX1_hasPlanted]
def wsX2_close_r3 : List Cond := [Cond.instanceMethod yX1_hasPlanted, Cond.selects RX1 yX1_hasPlanted yX1_hasPlanted, Cond.code yX1_hasPlanted cX1_hasPlanted 1 (some .boolean), Cond.fieldLink RX1 50 "HarvestLender$Farmer" "plantedCrop" "I", Cond.methodLink RX2 192 yX1_rollDebt, Cond.instanceMethod yX1_rollDebt, Cond.selects RX1 yX1_rollDebt yX1_rollDebt, Cond.code yX1_rollDebt cX1_rollDebt 4 none, Cond.constantLong RX1 117 (3), Cond.constantLong RX1 65 (2), Cond.methodLink RX2 195 yX2_collectFromGroup, Cond.instanceMethod yX2_collectFromGroup, Cond.selects RX2 yX2_collectFromGroup yX2_collectFromGroup, Cond.code yX2_collectFromGroup cX2_collectFromGroup 3 none, Cond.fieldLink RX2 65 "HarvestLender$Farmer" "group" "I", Cond.methodLink RX2 198 yX1_payFor, Cond.instanceMethod yX1_payFor, Cond.selects RX1 yX1_payFor yX1_payFor, Cond.code yX1_payFor cX1_payFor 4 none, Cond.constantLong RX1 119 (20000), Cond.methodLink RX2 145 yX1_forgetSeason, Cond.instanceMethod yX1_forgetSeason, Cond.selects RX1 yX1_forgetSeason yX1_forgetSeason, Cond.code yX1_forgetSeason cX1_forgetSeason 1 none]
def wsX2_close_r4 : List Cond := [Cond.fieldLink RX1 53 "HarvestLender$Farmer" "hectares" "I", Cond.fieldLink RX1 56 "HarvestLender$Farmer" "coverPercent" "I", Cond.fieldLink RX1 62 "HarvestLender$Farmer" "drawn" "I"]
def wsX2_close : List Cond := .code yX2_close cX2_close 2 (some .int) :: ((wsX2_close_r1 ++ (wsX2_close_r2 ++ (wsX2_close_r3 ++ wsX2_close_r4))) ++ wsX20 ++ wsX10 ++ (vx_atS RX2 184 "java/lang/IllegalStateException" ["java/lang/RuntimeException", "java/lang/Exception"]).filter goodWord)
def wsX2_season : List Cond := .code yX2_season cX2_season 1 (some .int) :: ([.fieldLink RX2 25 "HarvestLender" "season" "I"] ++ wsX20)
def wsX2_stage : List Cond := .code yX2_stage cX2_stage 1 (some .int) :: ([.fieldLink RX2 28 "HarvestLender" "stage" "I"] ++ wsX20)
def wsX2_limit_r1 : List Cond := [Cond.methodLink RX2 68 yX2_farmerAt, Cond.instanceMethod yX2_farmerAt, Cond.selects RX2 yX2_farmerAt yX2_farmerAt, Cond.initialized RX2, Cond.code yX2_farmerAt cX2_farmerAt 2 (some (.object "HarvestLender$Farmer")), Cond.classLink RX2 37 "java/lang/IndexOutOfBoundsException", Cond.initialized "java/lang/IndexOutOfBoundsException", Cond.fieldLink RX2 21 "HarvestLender" "count" "I", Cond.fieldLink RX2 17 "HarvestLender" "rows" "[LHarvestLender$Farmer;", Cond.methodLink RX2 96 yX2_limitOf, Cond.instanceMethod yX2_limitOf, Cond.selects RX2 yX2_limitOf yX2_limitOf, Cond.code yX2_limitOf cX2_limitOf 2 (some .int), Cond.fieldLink RX2 82 "HarvestLender$Farmer" "plantedCrop" "I", Cond.fieldLink RX2 28 "HarvestLender" "stage" "I", Cond.fieldLink RX2 85 "HarvestLender$Farmer" "hectares" "I", Cond.methodLink RX2 72 yX1_hasPlanted, Cond.instanceMethod yX1_hasPlanted, Cond.selects RX1 yX1_hasPlanted yX1_hasPlanted, Cond.initialized RX1, Cond.code yX1_hasPlanted cX1_hasPlanted 1 (some .boolean), Cond.fieldLink RX1 50 "HarvestLender$Farmer" "plantedCrop" "I", Cond.methodLink RX2 33 yX2_cropAt, Cond.instanceMethod yX2_cropAt]
def wsX2_limit_r2 : List Cond := [Cond.selects RX2 yX2_cropAt yX2_cropAt, Cond.code yX2_cropAt cX2_cropAt 2 (some (.object "HarvestLender$Crop")), Cond.fieldLink RX2 11 "HarvestLender" "crops" "[LHarvestLender$Crop;", Cond.methodLink RX2 88 yX0_needUpTo, Cond.instanceMethod yX0_needUpTo, Cond.selects RX0 yX0_needUpTo yX0_needUpTo, Cond.initialized RX0, Cond.code yX0_needUpTo cX0_needUpTo 4 (some .int), Cond.fieldLink RX0 9 "HarvestLender$Crop" "needs" "[I"]
def wsX2_limit : List Cond := .code yX2_limit cX2_limit 2 (some .int) :: ((wsX2_limit_r1 ++ wsX2_limit_r2) ++ wsX20 ++ wsX10 ++ wsX00 ++ (vx_atS RX2 41 "java/lang/IndexOutOfBoundsException" ["java/lang/RuntimeException", "java/lang/Exception"]).filter goodWord)
def wsX2_debt : List Cond := .code yX2_debt cX2_debt 2 (some .int) :: ([.fieldLink RX2 128 "HarvestLender$Farmer" "debt" "J", .methodLink RX2 68 yX2_farmerAt, .instanceMethod yX2_farmerAt, .selects RX2 yX2_farmerAt yX2_farmerAt, .initialized RX2, .code yX2_farmerAt cX2_farmerAt 2 (some (.object "HarvestLender$Farmer")), .classLink RX2 37 "java/lang/IndexOutOfBoundsException", .initialized "java/lang/IndexOutOfBoundsException", .fieldLink RX2 21 "HarvestLender" "count" "I", .fieldLink RX2 17 "HarvestLender" "rows" "[LHarvestLender$Farmer;"] ++ wsX10 ++ wsX20 ++ (vx_atS RX2 41 "java/lang/IndexOutOfBoundsException" ["java/lang/RuntimeException", "java/lang/Exception"]).filter goodWord)
def wsX2_owes : List Cond := .code yX2_owes cX2_owes 3 (some .int) :: ([.fieldLink RX2 128 "HarvestLender$Farmer" "debt" "J", .fieldLink RX2 148 "HarvestLender$Farmer" "pledgeDebt" "J", .methodLink RX2 68 yX2_farmerAt, .instanceMethod yX2_farmerAt, .selects RX2 yX2_farmerAt yX2_farmerAt, .initialized RX2, .code yX2_farmerAt cX2_farmerAt 2 (some (.object "HarvestLender$Farmer")), .classLink RX2 37 "java/lang/IndexOutOfBoundsException", .initialized "java/lang/IndexOutOfBoundsException", .fieldLink RX2 21 "HarvestLender" "count" "I", .fieldLink RX2 17 "HarvestLender" "rows" "[LHarvestLender$Farmer;", .methodLink RX2 151 yX1_instalmentSum, .instanceMethod yX1_instalmentSum, .selects RX1 yX1_instalmentSum yX1_instalmentSum, .initialized RX1, .code yX1_instalmentSum cX1_instalmentSum 4 (some .long), .fieldLink RX1 38 "HarvestLender$Farmer" "instalmentsLeft" "I", .fieldLink RX1 35 "HarvestLender$Farmer" "instalments" "[J"] ++ wsX10 ++ wsX20 ++ (vx_atS RX2 41 "java/lang/IndexOutOfBoundsException" ["java/lang/RuntimeException", "java/lang/Exception"]).filter goodWord)
def wsX2_instalments : List Cond := .code yX2_instalments cX2_instalments 2 (some .int) :: ([.fieldLink RX2 155 "HarvestLender$Farmer" "instalmentsLeft" "I", .methodLink RX2 68 yX2_farmerAt, .instanceMethod yX2_farmerAt, .selects RX2 yX2_farmerAt yX2_farmerAt, .initialized RX2, .code yX2_farmerAt cX2_farmerAt 2 (some (.object "HarvestLender$Farmer")), .classLink RX2 37 "java/lang/IndexOutOfBoundsException", .initialized "java/lang/IndexOutOfBoundsException", .fieldLink RX2 21 "HarvestLender" "count" "I", .fieldLink RX2 17 "HarvestLender" "rows" "[LHarvestLender$Farmer;"] ++ wsX10 ++ wsX20 ++ (vx_atS RX2 41 "java/lang/IndexOutOfBoundsException" ["java/lang/RuntimeException", "java/lang/Exception"]).filter goodWord)
def wsX2_purse : List Cond := .code yX2_purse cX2_purse 2 (some .int) :: ([.fieldLink RX2 132 "HarvestLender$Farmer" "purse" "J", .methodLink RX2 68 yX2_farmerAt, .instanceMethod yX2_farmerAt, .selects RX2 yX2_farmerAt yX2_farmerAt, .initialized RX2, .code yX2_farmerAt cX2_farmerAt 2 (some (.object "HarvestLender$Farmer")), .classLink RX2 37 "java/lang/IndexOutOfBoundsException", .initialized "java/lang/IndexOutOfBoundsException", .fieldLink RX2 21 "HarvestLender" "count" "I", .fieldLink RX2 17 "HarvestLender" "rows" "[LHarvestLender$Farmer;"] ++ wsX10 ++ wsX20 ++ (vx_atS RX2 41 "java/lang/IndexOutOfBoundsException" ["java/lang/RuntimeException", "java/lang/Exception"]).filter goodWord)
def wsX2_grain : List Cond := .code yX2_grain cX2_grain 4 (some .int) :: ([.fieldLink RX2 158 "HarvestLender$Farmer" "pledgedGrain" "I", .fieldLink RX2 76 "HarvestLender$Farmer" "grain" "I", .methodLink RX2 68 yX2_farmerAt, .instanceMethod yX2_farmerAt, .selects RX2 yX2_farmerAt yX2_farmerAt, .initialized RX2, .code yX2_farmerAt cX2_farmerAt 2 (some (.object "HarvestLender$Farmer")), .classLink RX2 37 "java/lang/IndexOutOfBoundsException", .initialized "java/lang/IndexOutOfBoundsException", .fieldLink RX2 21 "HarvestLender" "count" "I", .fieldLink RX2 17 "HarvestLender" "rows" "[LHarvestLender$Farmer;"] ++ wsX10 ++ wsX20 ++ (vx_atS RX2 41 "java/lang/IndexOutOfBoundsException" ["java/lang/RuntimeException", "java/lang/Exception"]).filter goodWord)
def wsX2_called : List Cond := .code yX2_called cX2_called 2 (some .int) :: ([.fieldLink RX2 161 "HarvestLender$Farmer" "called" "J", .methodLink RX2 68 yX2_farmerAt, .instanceMethod yX2_farmerAt, .selects RX2 yX2_farmerAt yX2_farmerAt, .initialized RX2, .code yX2_farmerAt cX2_farmerAt 2 (some (.object "HarvestLender$Farmer")), .classLink RX2 37 "java/lang/IndexOutOfBoundsException", .initialized "java/lang/IndexOutOfBoundsException", .fieldLink RX2 21 "HarvestLender" "count" "I", .fieldLink RX2 17 "HarvestLender" "rows" "[LHarvestLender$Farmer;"] ++ wsX10 ++ wsX20 ++ (vx_atS RX2 41 "java/lang/IndexOutOfBoundsException" ["java/lang/RuntimeException", "java/lang/Exception"]).filter goodWord)
def wsX2_repaid : List Cond := .code yX2_repaid cX2_repaid 4 (some .int) :: ([.fieldLink RX2 164 "HarvestLender$Farmer" "repaid" "[J", .methodLink RX2 68 yX2_farmerAt, .instanceMethod yX2_farmerAt, .selects RX2 yX2_farmerAt yX2_farmerAt, .initialized RX2, .code yX2_farmerAt cX2_farmerAt 2 (some (.object "HarvestLender$Farmer")), .classLink RX2 37 "java/lang/IndexOutOfBoundsException", .initialized "java/lang/IndexOutOfBoundsException", .fieldLink RX2 21 "HarvestLender" "count" "I", .fieldLink RX2 17 "HarvestLender" "rows" "[LHarvestLender$Farmer;", .methodLink RX2 45 yX2_requireRange, .static yX2_requireRange, .code yX2_requireRange cX2_requireRange 3 none, .classLink RX2 175 "java/lang/IllegalArgumentException", .initialized "java/lang/IllegalArgumentException"] ++ wsX10 ++ wsX20 ++ (vx_atS RX2 41 "java/lang/IndexOutOfBoundsException" ["java/lang/RuntimeException", "java/lang/Exception"]).filter goodWord ++ (vx_atS RX2 179 "java/lang/IllegalArgumentException" ["java/lang/RuntimeException", "java/lang/Exception"]).filter goodWord)
def wsX2_charged : List Cond := .code yX2_charged cX2_charged 2 (some .int) :: ([.fieldLink RX2 168 "HarvestLender$Farmer" "charged" "J", .methodLink RX2 68 yX2_farmerAt, .instanceMethod yX2_farmerAt, .selects RX2 yX2_farmerAt yX2_farmerAt, .initialized RX2, .code yX2_farmerAt cX2_farmerAt 2 (some (.object "HarvestLender$Farmer")), .classLink RX2 37 "java/lang/IndexOutOfBoundsException", .initialized "java/lang/IndexOutOfBoundsException", .fieldLink RX2 21 "HarvestLender" "count" "I", .fieldLink RX2 17 "HarvestLender" "rows" "[LHarvestLender$Farmer;"] ++ wsX10 ++ wsX20 ++ (vx_atS RX2 41 "java/lang/IndexOutOfBoundsException" ["java/lang/RuntimeException", "java/lang/Exception"]).filter goodWord)
def wsX3_init : List Cond := .code yX3_init cX3_init 2 none :: ([.methodLink RX3 1 objectInit, .instanceMethod objectInit, .code objectInit ⟨#[0xb1]⟩ 1 none, .arrayClass .int, .fieldLink RX3 7 "HarvestLenderModel" "needs" "[I", .fieldLink RX3 13 "HarvestLenderModel" "prices" "[I", .fieldLink RX3 16 "HarvestLenderModel" "normals" "[I", .fieldLink RX3 19 "HarvestLenderModel" "groups" "[I", .fieldLink RX3 22 "HarvestLenderModel" "purses" "[I", .fieldLink RX3 25 "HarvestLenderModel" "debts" "[I", .fieldLink RX3 28 "HarvestLenderModel" "grainCrops" "[I", .fieldLink RX3 31 "HarvestLenderModel" "grains" "[I", .fieldLink RX3 34 "HarvestLenderModel" "pledged" "[I", .fieldLink RX3 37 "HarvestLenderModel" "pledgeDebts" "[I", .fieldLink RX3 40 "HarvestLenderModel" "rows" "[I", .fieldLink RX3 43 "HarvestLenderModel" "parts" "[I", .fieldLink RX3 46 "HarvestLenderModel" "crops" "[I", .fieldLink RX3 49 "HarvestLenderModel" "hectares" "[I", .fieldLink RX3 52 "HarvestLenderModel" "drawn" "[I", .fieldLink RX3 55 "HarvestLenderModel" "covers" "[I", .fieldLink RX3 58 "HarvestLenderModel" "yields" "[I", .fieldLink RX3 61 "HarvestLenderModel" "calls" "[I", .fieldLink RX3 64 "HarvestLenderModel" "repaidOf" "[I", .fieldLink RX3 67 "HarvestLenderModel" "charges" "[I"] ++ wsX30)
def wsX3_thrown : List Cond := .code yX3_thrown cX3_thrown 1 (some .int) :: ([.fieldLink RX3 70 "HarvestLenderModel" "refusal" "I"] ++ wsX30)
def wsX3_refused : List Cond := .code yX3_refused cX3_refused 2 (some .boolean) :: ([.fieldLink RX3 70 "HarvestLenderModel" "refusal" "I"] ++ wsX30)
def wsX3_fine : List Cond := .code yX3_fine cX3_fine 2 (some .int) :: ([.fieldLink RX3 70 "HarvestLenderModel" "refusal" "I"] ++ wsX30)
def wsX3_in : List Cond := .code yX3_in cX3_in 3 (some .boolean) :: ([])
def wsX3_isCrop : List Cond := .code yX3_isCrop cX3_isCrop 1 (some .boolean) :: ([.methodLink RX3 74 yX3_in, .static yX3_in, .initialized RX3, .code yX3_in cX3_in 3 (some .boolean)])
def wsX3_isFarmer : List Cond := .code yX3_isFarmer cX3_isFarmer 2 (some .boolean) :: ([.fieldLink RX3 78 "HarvestLenderModel" "farmers" "I", .methodLink RX3 74 yX3_in, .static yX3_in, .initialized RX3, .code yX3_in cX3_in 3 (some .boolean)] ++ wsX30)
def wsX3_setNeed : List Cond := .code yX3_setNeed cX3_setNeed 6 (some .int) :: ([.constant RX3 85 (100000), .fieldLink RX3 7 "HarvestLenderModel" "needs" "[I", .methodLink RX3 81 yX3_isCrop, .static yX3_isCrop, .initialized RX3, .code yX3_isCrop cX3_isCrop 1 (some .boolean), .methodLink RX3 74 yX3_in, .static yX3_in, .code yX3_in cX3_in 3 (some .boolean), .methodLink RX3 86 yX3_refused, .instanceMethod yX3_refused, .selects RX3 yX3_refused yX3_refused, .code yX3_refused cX3_refused 2 (some .boolean), .fieldLink RX3 70 "HarvestLenderModel" "refusal" "I"] ++ wsX30)
def wsX3_setCrop : List Cond := .code yX3_setCrop cX3_setCrop 5 (some .int) :: ([.fieldLink RX3 13 "HarvestLenderModel" "prices" "[I", .fieldLink RX3 16 "HarvestLenderModel" "normals" "[I", .methodLink RX3 81 yX3_isCrop, .static yX3_isCrop, .initialized RX3, .code yX3_isCrop cX3_isCrop 1 (some .boolean), .methodLink RX3 74 yX3_in, .static yX3_in, .code yX3_in cX3_in 3 (some .boolean), .methodLink RX3 86 yX3_refused, .instanceMethod yX3_refused, .selects RX3 yX3_refused yX3_refused, .code yX3_refused cX3_refused 2 (some .boolean), .fieldLink RX3 70 "HarvestLenderModel" "refusal" "I"] ++ wsX30)
def wsX3_clear : List Cond := .code yX3_clear cX3_clear 2 none :: ([.fieldLink RX3 46 "HarvestLenderModel" "crops" "[I", .fieldLink RX3 49 "HarvestLenderModel" "hectares" "[I", .fieldLink RX3 52 "HarvestLenderModel" "drawn" "[I", .fieldLink RX3 55 "HarvestLenderModel" "covers" "[I", .fieldLink RX3 58 "HarvestLenderModel" "yields" "[I"] ++ wsX30)
def wsX3_add : List Cond := .code yX3_add cX3_add 2 (some .int) :: ([.fieldLink RX3 78 "HarvestLenderModel" "farmers" "I", .fieldLink RX3 19 "HarvestLenderModel" "groups" "[I", .methodLink RX3 74 yX3_in, .static yX3_in, .initialized RX3, .code yX3_in cX3_in 3 (some .boolean), .methodLink RX3 86 yX3_refused, .instanceMethod yX3_refused, .selects RX3 yX3_refused yX3_refused, .code yX3_refused cX3_refused 2 (some .boolean), .fieldLink RX3 70 "HarvestLenderModel" "refusal" "I", .methodLink RX3 89 yX3_clear, .instanceMethod yX3_clear, .selects RX3 yX3_clear yX3_clear, .code yX3_clear cX3_clear 2 none, .fieldLink RX3 46 "HarvestLenderModel" "crops" "[I", .fieldLink RX3 49 "HarvestLenderModel" "hectares" "[I", .fieldLink RX3 52 "HarvestLenderModel" "drawn" "[I", .fieldLink RX3 55 "HarvestLenderModel" "covers" "[I", .fieldLink RX3 58 "HarvestLenderModel" "yields" "[I"] ++ wsX30)
def wsX3_farmers : List Cond := .code yX3_farmers cX3_farmers 1 (some .int) :: ([.fieldLink RX3 78 "HarvestLenderModel" "farmers" "I", .methodLink RX3 93 yX3_fine, .instanceMethod yX3_fine, .selects RX3 yX3_fine yX3_fine, .initialized RX3, .code yX3_fine cX3_fine 2 (some .int), .fieldLink RX3 70 "HarvestLenderModel" "refusal" "I"] ++ wsX30)
def wsX3_lower : List Cond := .code yX3_lower cX3_lower 4 none :: ([.fieldLink RX3 25 "HarvestLenderModel" "debts" "[I", .fieldLink RX3 64 "HarvestLenderModel" "repaidOf" "[I"] ++ wsX30)
def wsX3_come : List Cond := .code yX3_come cX3_come 5 none :: ([.fieldLink RX3 25 "HarvestLenderModel" "debts" "[I", .fieldLink RX3 22 "HarvestLenderModel" "purses" "[I", .methodLink RX3 97 yX3_lower, .instanceMethod yX3_lower, .selects RX3 yX3_lower yX3_lower, .initialized RX3, .code yX3_lower cX3_lower 4 none, .fieldLink RX3 64 "HarvestLenderModel" "repaidOf" "[I"] ++ wsX30)
def wsX3_charge : List Cond := .code yX3_charge cX3_charge 3 none :: ([.fieldLink RX3 25 "HarvestLenderModel" "debts" "[I", .fieldLink RX3 67 "HarvestLenderModel" "charges" "[I"] ++ wsX30)
def wsX3_limitOf : List Cond := .code yX3_limitOf cX3_limitOf 4 (some .int) :: ([.fieldLink RX3 101 "HarvestLenderModel" "stage" "I", .fieldLink RX3 46 "HarvestLenderModel" "crops" "[I", .fieldLink RX3 7 "HarvestLenderModel" "needs" "[I", .fieldLink RX3 49 "HarvestLenderModel" "hectares" "[I"] ++ wsX30)
def wsX3_plant_r1 : List Cond := [Cond.fieldLink RX3 101 "HarvestLenderModel" "stage" "I", Cond.fieldLink RX3 46 "HarvestLenderModel" "crops" "[I", Cond.fieldLink RX3 31 "HarvestLenderModel" "grains" "[I", Cond.fieldLink RX3 28 "HarvestLenderModel" "grainCrops" "[I", Cond.fieldLink RX3 49 "HarvestLenderModel" "hectares" "[I", Cond.methodLink RX3 104 yX3_isFarmer, Cond.instanceMethod yX3_isFarmer, Cond.selects RX3 yX3_isFarmer yX3_isFarmer, Cond.initialized RX3, Cond.code yX3_isFarmer cX3_isFarmer 2 (some .boolean), Cond.fieldLink RX3 78 "HarvestLenderModel" "farmers" "I", Cond.methodLink RX3 74 yX3_in, Cond.static yX3_in, Cond.code yX3_in cX3_in 3 (some .boolean), Cond.methodLink RX3 81 yX3_isCrop, Cond.static yX3_isCrop, Cond.code yX3_isCrop cX3_isCrop 1 (some .boolean), Cond.methodLink RX3 86 yX3_refused, Cond.instanceMethod yX3_refused, Cond.selects RX3 yX3_refused yX3_refused, Cond.code yX3_refused cX3_refused 2 (some .boolean), Cond.fieldLink RX3 70 "HarvestLenderModel" "refusal" "I", Cond.methodLink RX3 107 yX3_limitOf, Cond.instanceMethod yX3_limitOf]
def wsX3_plant_r2 : List Cond := [Cond.selects RX3 yX3_limitOf yX3_limitOf, Cond.code yX3_limitOf cX3_limitOf 4 (some .int), Cond.fieldLink RX3 7 "HarvestLenderModel" "needs" "[I"]
def wsX3_plant : List Cond := .code yX3_plant cX3_plant 6 (some .int) :: ((wsX3_plant_r1 ++ wsX3_plant_r2) ++ wsX30)
def wsX3_cover : List Cond := .code yX3_cover cX3_cover 5 (some .int) :: ([.fieldLink RX3 101 "HarvestLenderModel" "stage" "I", .fieldLink RX3 46 "HarvestLenderModel" "crops" "[I", .fieldLink RX3 55 "HarvestLenderModel" "covers" "[I", .methodLink RX3 104 yX3_isFarmer, .instanceMethod yX3_isFarmer, .selects RX3 yX3_isFarmer yX3_isFarmer, .initialized RX3, .code yX3_isFarmer cX3_isFarmer 2 (some .boolean), .fieldLink RX3 78 "HarvestLenderModel" "farmers" "I", .methodLink RX3 74 yX3_in, .static yX3_in, .code yX3_in cX3_in 3 (some .boolean), .methodLink RX3 86 yX3_refused, .instanceMethod yX3_refused, .selects RX3 yX3_refused yX3_refused, .code yX3_refused cX3_refused 2 (some .boolean), .fieldLink RX3 70 "HarvestLenderModel" "refusal" "I"] ++ wsX30)
def wsX3_draw_r1 : List Cond := [Cond.constant RX3 110 (100000000), Cond.fieldLink RX3 101 "HarvestLenderModel" "stage" "I", Cond.fieldLink RX3 52 "HarvestLenderModel" "drawn" "[I", Cond.methodLink RX3 104 yX3_isFarmer, Cond.instanceMethod yX3_isFarmer, Cond.selects RX3 yX3_isFarmer yX3_isFarmer, Cond.initialized RX3, Cond.code yX3_isFarmer cX3_isFarmer 2 (some .boolean), Cond.fieldLink RX3 78 "HarvestLenderModel" "farmers" "I", Cond.methodLink RX3 74 yX3_in, Cond.static yX3_in, Cond.code yX3_in cX3_in 3 (some .boolean), Cond.methodLink RX3 107 yX3_limitOf, Cond.instanceMethod yX3_limitOf, Cond.selects RX3 yX3_limitOf yX3_limitOf, Cond.code yX3_limitOf cX3_limitOf 4 (some .int), Cond.fieldLink RX3 46 "HarvestLenderModel" "crops" "[I", Cond.fieldLink RX3 7 "HarvestLenderModel" "needs" "[I", Cond.fieldLink RX3 49 "HarvestLenderModel" "hectares" "[I", Cond.methodLink RX3 86 yX3_refused, Cond.instanceMethod yX3_refused, Cond.selects RX3 yX3_refused yX3_refused, Cond.code yX3_refused cX3_refused 2 (some .boolean), Cond.fieldLink RX3 70 "HarvestLenderModel" "refusal" "I"]
def wsX3_draw_r2 : List Cond := [Cond.methodLink RX3 111 yX3_charge, Cond.instanceMethod yX3_charge, Cond.selects RX3 yX3_charge yX3_charge, Cond.code yX3_charge cX3_charge 3 none, Cond.fieldLink RX3 25 "HarvestLenderModel" "debts" "[I", Cond.fieldLink RX3 67 "HarvestLenderModel" "charges" "[I"]
def wsX3_draw : List Cond := .code yX3_draw cX3_draw 5 (some .int) :: ((wsX3_draw_r1 ++ wsX3_draw_r2) ++ wsX30)
def wsX3_setYield : List Cond := .code yX3_setYield cX3_setYield 4 (some .int) :: ([.fieldLink RX3 101 "HarvestLenderModel" "stage" "I", .fieldLink RX3 58 "HarvestLenderModel" "yields" "[I", .methodLink RX3 104 yX3_isFarmer, .instanceMethod yX3_isFarmer, .selects RX3 yX3_isFarmer yX3_isFarmer, .initialized RX3, .code yX3_isFarmer cX3_isFarmer 2 (some .boolean), .fieldLink RX3 78 "HarvestLenderModel" "farmers" "I", .methodLink RX3 74 yX3_in, .static yX3_in, .code yX3_in cX3_in 3 (some .boolean), .methodLink RX3 86 yX3_refused, .instanceMethod yX3_refused, .selects RX3 yX3_refused yX3_refused, .code yX3_refused cX3_refused 2 (some .boolean), .fieldLink RX3 70 "HarvestLenderModel" "refusal" "I"] ++ wsX30)
def wsX3_harvest : List Cond := .code yX3_harvest cX3_harvest 4 none :: ([.fieldLink RX3 46 "HarvestLenderModel" "crops" "[I", .fieldLink RX3 49 "HarvestLenderModel" "hectares" "[I", .fieldLink RX3 16 "HarvestLenderModel" "normals" "[I", .fieldLink RX3 31 "HarvestLenderModel" "grains" "[I", .fieldLink RX3 58 "HarvestLenderModel" "yields" "[I", .fieldLink RX3 28 "HarvestLenderModel" "grainCrops" "[I", .fieldLink RX3 55 "HarvestLenderModel" "covers" "[I", .fieldLink RX3 13 "HarvestLenderModel" "prices" "[I", .constantLong RX3 115 (100), .methodLink RX3 117 yX3_come, .instanceMethod yX3_come, .selects RX3 yX3_come yX3_come, .initialized RX3, .code yX3_come cX3_come 5 none, .fieldLink RX3 25 "HarvestLenderModel" "debts" "[I", .fieldLink RX3 22 "HarvestLenderModel" "purses" "[I", .methodLink RX3 97 yX3_lower, .instanceMethod yX3_lower, .selects RX3 yX3_lower yX3_lower, .code yX3_lower cX3_lower 4 none, .fieldLink RX3 64 "HarvestLenderModel" "repaidOf" "[I"] ++ wsX30)
def wsX3_next_r1 : List Cond := [Cond.fieldLink RX3 101 "HarvestLenderModel" "stage" "I", Cond.fieldLink RX3 78 "HarvestLenderModel" "farmers" "I", Cond.fieldLink RX3 25 "HarvestLenderModel" "debts" "[I", Cond.constantLong RX3 120 (2), Cond.constantLong RX3 115 (100), Cond.fieldLink RX3 46 "HarvestLenderModel" "crops" "[I", Cond.methodLink RX3 86 yX3_refused, Cond.instanceMethod yX3_refused, Cond.selects RX3 yX3_refused yX3_refused, Cond.initialized RX3, Cond.code yX3_refused cX3_refused 2 (some .boolean), Cond.fieldLink RX3 70 "HarvestLenderModel" "refusal" "I", Cond.methodLink RX3 111 yX3_charge, Cond.instanceMethod yX3_charge, Cond.selects RX3 yX3_charge yX3_charge, Cond.code yX3_charge cX3_charge 3 none, Cond.fieldLink RX3 67 "HarvestLenderModel" "charges" "[I", Cond.methodLink RX3 122 yX3_harvest, Cond.instanceMethod yX3_harvest, Cond.selects RX3 yX3_harvest yX3_harvest, Cond.code yX3_harvest cX3_harvest 4 none, Cond.fieldLink RX3 49 "HarvestLenderModel" "hectares" "[I", Cond.fieldLink RX3 16 "HarvestLenderModel" "normals" "[I", Cond.fieldLink RX3 31 "HarvestLenderModel" "grains" "[I"]
def wsX3_next_r2 : List Cond := [Cond.fieldLink RX3 58 "HarvestLenderModel" "yields" "[I", Cond.fieldLink RX3 28 "HarvestLenderModel" "grainCrops" "[I", Cond.fieldLink RX3 55 "HarvestLenderModel" "covers" "[I", Cond.fieldLink RX3 13 "HarvestLenderModel" "prices" "[I", Cond.methodLink RX3 117 yX3_come, Cond.instanceMethod yX3_come, Cond.selects RX3 yX3_come yX3_come, Cond.code yX3_come cX3_come 5 none, Cond.fieldLink RX3 22 "HarvestLenderModel" "purses" "[I", Cond.methodLink RX3 97 yX3_lower, Cond.instanceMethod yX3_lower, Cond.selects RX3 yX3_lower yX3_lower, Cond.code yX3_lower cX3_lower 4 none, Cond.fieldLink RX3 64 "HarvestLenderModel" "repaidOf" "[I"]
def wsX3_next : List Cond := .code yX3_next cX3_next 2 (some .int) :: ((wsX3_next_r1 ++ wsX3_next_r2) ++ wsX30)
def wsX3_pledge_r1 : List Cond := [Cond.constant RX3 125 (1000000), Cond.fieldLink RX3 31 "HarvestLenderModel" "grains" "[I", Cond.fieldLink RX3 34 "HarvestLenderModel" "pledged" "[I", Cond.fieldLink RX3 13 "HarvestLenderModel" "prices" "[I", Cond.fieldLink RX3 28 "HarvestLenderModel" "grainCrops" "[I", Cond.constantLong RX3 126 (60), Cond.constantLong RX3 115 (100), Cond.fieldLink RX3 37 "HarvestLenderModel" "pledgeDebts" "[I", Cond.methodLink RX3 104 yX3_isFarmer, Cond.instanceMethod yX3_isFarmer, Cond.selects RX3 yX3_isFarmer yX3_isFarmer, Cond.initialized RX3, Cond.code yX3_isFarmer cX3_isFarmer 2 (some .boolean), Cond.fieldLink RX3 78 "HarvestLenderModel" "farmers" "I", Cond.methodLink RX3 74 yX3_in, Cond.static yX3_in, Cond.code yX3_in cX3_in 3 (some .boolean), Cond.methodLink RX3 86 yX3_refused, Cond.instanceMethod yX3_refused, Cond.selects RX3 yX3_refused yX3_refused, Cond.code yX3_refused cX3_refused 2 (some .boolean), Cond.fieldLink RX3 70 "HarvestLenderModel" "refusal" "I", Cond.methodLink RX3 117 yX3_come, Cond.instanceMethod yX3_come]
def wsX3_pledge_r2 : List Cond := [Cond.selects RX3 yX3_come yX3_come, Cond.code yX3_come cX3_come 5 none, Cond.fieldLink RX3 25 "HarvestLenderModel" "debts" "[I", Cond.fieldLink RX3 22 "HarvestLenderModel" "purses" "[I", Cond.methodLink RX3 97 yX3_lower, Cond.instanceMethod yX3_lower, Cond.selects RX3 yX3_lower yX3_lower, Cond.code yX3_lower cX3_lower 4 none, Cond.fieldLink RX3 64 "HarvestLenderModel" "repaidOf" "[I"]
def wsX3_pledge : List Cond := .code yX3_pledge cX3_pledge 6 (some .int) :: ((wsX3_pledge_r1 ++ wsX3_pledge_r2) ++ wsX30)
def wsX3_sell_r1 : List Cond := [Cond.constant RX3 125 (1000000), Cond.fieldLink RX3 31 "HarvestLenderModel" "grains" "[I", Cond.fieldLink RX3 13 "HarvestLenderModel" "prices" "[I", Cond.fieldLink RX3 28 "HarvestLenderModel" "grainCrops" "[I", Cond.fieldLink RX3 34 "HarvestLenderModel" "pledged" "[I", Cond.fieldLink RX3 37 "HarvestLenderModel" "pledgeDebts" "[I", Cond.methodLink RX3 104 yX3_isFarmer, Cond.instanceMethod yX3_isFarmer, Cond.selects RX3 yX3_isFarmer yX3_isFarmer, Cond.initialized RX3, Cond.code yX3_isFarmer cX3_isFarmer 2 (some .boolean), Cond.fieldLink RX3 78 "HarvestLenderModel" "farmers" "I", Cond.methodLink RX3 74 yX3_in, Cond.static yX3_in, Cond.code yX3_in cX3_in 3 (some .boolean), Cond.methodLink RX3 86 yX3_refused, Cond.instanceMethod yX3_refused, Cond.selects RX3 yX3_refused yX3_refused, Cond.code yX3_refused cX3_refused 2 (some .boolean), Cond.fieldLink RX3 70 "HarvestLenderModel" "refusal" "I", Cond.methodLink RX3 117 yX3_come, Cond.instanceMethod yX3_come, Cond.selects RX3 yX3_come yX3_come, Cond.code yX3_come cX3_come 5 none]
def wsX3_sell_r2 : List Cond := [Cond.fieldLink RX3 25 "HarvestLenderModel" "debts" "[I", Cond.fieldLink RX3 22 "HarvestLenderModel" "purses" "[I", Cond.methodLink RX3 97 yX3_lower, Cond.instanceMethod yX3_lower, Cond.selects RX3 yX3_lower yX3_lower, Cond.code yX3_lower cX3_lower 4 none, Cond.fieldLink RX3 64 "HarvestLenderModel" "repaidOf" "[I", Cond.methodLink RX3 111 yX3_charge, Cond.instanceMethod yX3_charge, Cond.selects RX3 yX3_charge yX3_charge, Cond.code yX3_charge cX3_charge 3 none, Cond.fieldLink RX3 67 "HarvestLenderModel" "charges" "[I"]
def wsX3_sell : List Cond := .code yX3_sell cX3_sell 9 (some .int) :: ((wsX3_sell_r1 ++ wsX3_sell_r2) ++ wsX30)
def wsX3_repay : List Cond := .code yX3_repay cX3_repay 5 (some .int) :: ([.constant RX3 110 (100000000), .fieldLink RX3 25 "HarvestLenderModel" "debts" "[I", .fieldLink RX3 22 "HarvestLenderModel" "purses" "[I", .methodLink RX3 104 yX3_isFarmer, .instanceMethod yX3_isFarmer, .selects RX3 yX3_isFarmer yX3_isFarmer, .initialized RX3, .code yX3_isFarmer cX3_isFarmer 2 (some .boolean), .fieldLink RX3 78 "HarvestLenderModel" "farmers" "I", .methodLink RX3 74 yX3_in, .static yX3_in, .code yX3_in cX3_in 3 (some .boolean), .methodLink RX3 86 yX3_refused, .instanceMethod yX3_refused, .selects RX3 yX3_refused yX3_refused, .code yX3_refused cX3_refused 2 (some .boolean), .fieldLink RX3 70 "HarvestLenderModel" "refusal" "I", .methodLink RX3 97 yX3_lower, .instanceMethod yX3_lower, .selects RX3 yX3_lower yX3_lower, .code yX3_lower cX3_lower 4 none, .fieldLink RX3 64 "HarvestLenderModel" "repaidOf" "[I"] ++ wsX30)
def wsX3_settle : List Cond := .code yX3_settle cX3_settle 3 none :: ([.fieldLink RX3 40 "HarvestLenderModel" "rows" "[I", .fieldLink RX3 25 "HarvestLenderModel" "debts" "[I", .fieldLink RX3 43 "HarvestLenderModel" "parts" "[I", .fieldLink RX3 22 "HarvestLenderModel" "purses" "[I", .methodLink RX3 97 yX3_lower, .instanceMethod yX3_lower, .selects RX3 yX3_lower yX3_lower, .initialized RX3, .code yX3_lower cX3_lower 4 none, .fieldLink RX3 64 "HarvestLenderModel" "repaidOf" "[I"] ++ wsX30)
def wsX3_roll : List Cond := .code yX3_roll cX3_roll 3 none :: ([.fieldLink RX3 25 "HarvestLenderModel" "debts" "[I", .fieldLink RX3 43 "HarvestLenderModel" "parts" "[I", .fieldLink RX3 40 "HarvestLenderModel" "rows" "[I"] ++ wsX30)
def wsX3_call : List Cond := .code yX3_call cX3_call 5 none :: ([.fieldLink RX3 78 "HarvestLenderModel" "farmers" "I", .fieldLink RX3 19 "HarvestLenderModel" "groups" "[I", .fieldLink RX3 61 "HarvestLenderModel" "calls" "[I", .fieldLink RX3 22 "HarvestLenderModel" "purses" "[I", .fieldLink RX3 25 "HarvestLenderModel" "debts" "[I", .methodLink RX3 97 yX3_lower, .instanceMethod yX3_lower, .selects RX3 yX3_lower yX3_lower, .initialized RX3, .code yX3_lower cX3_lower 4 none, .fieldLink RX3 64 "HarvestLenderModel" "repaidOf" "[I"] ++ wsX30)
def wsX3_close_r1 : List Cond := [Cond.fieldLink RX3 101 "HarvestLenderModel" "stage" "I", Cond.fieldLink RX3 128 "HarvestLenderModel" "season" "I", Cond.fieldLink RX3 78 "HarvestLenderModel" "farmers" "I", Cond.fieldLink RX3 61 "HarvestLenderModel" "calls" "[I", Cond.fieldLink RX3 46 "HarvestLenderModel" "crops" "[I", Cond.fieldLink RX3 58 "HarvestLenderModel" "yields" "[I", Cond.fieldLink RX3 40 "HarvestLenderModel" "rows" "[I", Cond.fieldLink RX3 25 "HarvestLenderModel" "debts" "[I", Cond.methodLink RX3 86 yX3_refused, Cond.instanceMethod yX3_refused, Cond.selects RX3 yX3_refused yX3_refused, Cond.initialized RX3, Cond.code yX3_refused cX3_refused 2 (some .boolean), Cond.fieldLink RX3 70 "HarvestLenderModel" "refusal" "I", Cond.methodLink RX3 131 yX3_settle, Cond.instanceMethod yX3_settle, Cond.selects RX3 yX3_settle yX3_settle, Cond.code yX3_settle cX3_settle 3 none, Cond.fieldLink RX3 43 "HarvestLenderModel" "parts" "[I", Cond.fieldLink RX3 22 "HarvestLenderModel" "purses" "[I", Cond.methodLink RX3 97 yX3_lower, Cond.instanceMethod yX3_lower, Cond.selects RX3 yX3_lower yX3_lower, Cond.code yX3_lower cX3_lower 4 none]
def wsX3_close_r2 : List Cond := [Cond.fieldLink RX3 64 "HarvestLenderModel" "repaidOf" "[I", Cond.methodLink RX3 134 yX3_roll, Cond.instanceMethod yX3_roll, Cond.selects RX3 yX3_roll yX3_roll, Cond.code yX3_roll cX3_roll 3 none, Cond.methodLink RX3 137 yX3_call, Cond.instanceMethod yX3_call, Cond.selects RX3 yX3_call yX3_call, Cond.code yX3_call cX3_call 5 none, Cond.fieldLink RX3 19 "HarvestLenderModel" "groups" "[I", Cond.methodLink RX3 89 yX3_clear, Cond.instanceMethod yX3_clear, Cond.selects RX3 yX3_clear yX3_clear, Cond.code yX3_clear cX3_clear 2 none, Cond.fieldLink RX3 49 "HarvestLenderModel" "hectares" "[I", Cond.fieldLink RX3 52 "HarvestLenderModel" "drawn" "[I", Cond.fieldLink RX3 55 "HarvestLenderModel" "covers" "[I"]
def wsX3_close : List Cond := .code yX3_close cX3_close 3 (some .int) :: ((wsX3_close_r1 ++ wsX3_close_r2) ++ wsX30)
def wsX3_season : List Cond := .code yX3_season cX3_season 1 (some .int) :: ([.fieldLink RX3 128 "HarvestLenderModel" "season" "I", .methodLink RX3 93 yX3_fine, .instanceMethod yX3_fine, .selects RX3 yX3_fine yX3_fine, .initialized RX3, .code yX3_fine cX3_fine 2 (some .int), .fieldLink RX3 70 "HarvestLenderModel" "refusal" "I"] ++ wsX30)
def wsX3_stage : List Cond := .code yX3_stage cX3_stage 1 (some .int) :: ([.fieldLink RX3 101 "HarvestLenderModel" "stage" "I", .methodLink RX3 93 yX3_fine, .instanceMethod yX3_fine, .selects RX3 yX3_fine yX3_fine, .initialized RX3, .code yX3_fine cX3_fine 2 (some .int), .fieldLink RX3 70 "HarvestLenderModel" "refusal" "I"] ++ wsX30)
def wsX3_noFarmer : List Cond := .code yX3_noFarmer cX3_noFarmer 2 (some .boolean) :: ([.methodLink RX3 104 yX3_isFarmer, .instanceMethod yX3_isFarmer, .selects RX3 yX3_isFarmer yX3_isFarmer, .initialized RX3, .code yX3_isFarmer cX3_isFarmer 2 (some .boolean), .fieldLink RX3 78 "HarvestLenderModel" "farmers" "I", .methodLink RX3 74 yX3_in, .static yX3_in, .code yX3_in cX3_in 3 (some .boolean), .methodLink RX3 86 yX3_refused, .instanceMethod yX3_refused, .selects RX3 yX3_refused yX3_refused, .code yX3_refused cX3_refused 2 (some .boolean), .fieldLink RX3 70 "HarvestLenderModel" "refusal" "I"] ++ wsX30)
def wsX3_limit_r1 : List Cond := [Cond.methodLink RX3 140 yX3_noFarmer, Cond.instanceMethod yX3_noFarmer, Cond.selects RX3 yX3_noFarmer yX3_noFarmer, Cond.initialized RX3, Cond.code yX3_noFarmer cX3_noFarmer 2 (some .boolean), Cond.methodLink RX3 104 yX3_isFarmer, Cond.instanceMethod yX3_isFarmer, Cond.selects RX3 yX3_isFarmer yX3_isFarmer, Cond.code yX3_isFarmer cX3_isFarmer 2 (some .boolean), Cond.fieldLink RX3 78 "HarvestLenderModel" "farmers" "I", Cond.methodLink RX3 74 yX3_in, Cond.static yX3_in, Cond.code yX3_in cX3_in 3 (some .boolean), Cond.methodLink RX3 86 yX3_refused, Cond.instanceMethod yX3_refused, Cond.selects RX3 yX3_refused yX3_refused, Cond.code yX3_refused cX3_refused 2 (some .boolean), Cond.fieldLink RX3 70 "HarvestLenderModel" "refusal" "I", Cond.methodLink RX3 107 yX3_limitOf, Cond.instanceMethod yX3_limitOf, Cond.selects RX3 yX3_limitOf yX3_limitOf, Cond.code yX3_limitOf cX3_limitOf 4 (some .int), Cond.fieldLink RX3 101 "HarvestLenderModel" "stage" "I", Cond.fieldLink RX3 46 "HarvestLenderModel" "crops" "[I"]
def wsX3_limit_r2 : List Cond := [Cond.fieldLink RX3 7 "HarvestLenderModel" "needs" "[I", Cond.fieldLink RX3 49 "HarvestLenderModel" "hectares" "[I"]
def wsX3_limit : List Cond := .code yX3_limit cX3_limit 2 (some .int) :: ((wsX3_limit_r1 ++ wsX3_limit_r2) ++ wsX30)
def wsX3_debt : List Cond := .code yX3_debt cX3_debt 2 (some .int) :: ([.fieldLink RX3 25 "HarvestLenderModel" "debts" "[I", .methodLink RX3 140 yX3_noFarmer, .instanceMethod yX3_noFarmer, .selects RX3 yX3_noFarmer yX3_noFarmer, .initialized RX3, .code yX3_noFarmer cX3_noFarmer 2 (some .boolean), .methodLink RX3 104 yX3_isFarmer, .instanceMethod yX3_isFarmer, .selects RX3 yX3_isFarmer yX3_isFarmer, .code yX3_isFarmer cX3_isFarmer 2 (some .boolean), .fieldLink RX3 78 "HarvestLenderModel" "farmers" "I", .methodLink RX3 74 yX3_in, .static yX3_in, .code yX3_in cX3_in 3 (some .boolean), .methodLink RX3 86 yX3_refused, .instanceMethod yX3_refused, .selects RX3 yX3_refused yX3_refused, .code yX3_refused cX3_refused 2 (some .boolean), .fieldLink RX3 70 "HarvestLenderModel" "refusal" "I"] ++ wsX30)
def wsX3_owes : List Cond := .code yX3_owes cX3_owes 4 (some .int) :: ([.fieldLink RX3 25 "HarvestLenderModel" "debts" "[I", .fieldLink RX3 37 "HarvestLenderModel" "pledgeDebts" "[I", .fieldLink RX3 40 "HarvestLenderModel" "rows" "[I", .fieldLink RX3 43 "HarvestLenderModel" "parts" "[I", .methodLink RX3 140 yX3_noFarmer, .instanceMethod yX3_noFarmer, .selects RX3 yX3_noFarmer yX3_noFarmer, .initialized RX3, .code yX3_noFarmer cX3_noFarmer 2 (some .boolean), .methodLink RX3 104 yX3_isFarmer, .instanceMethod yX3_isFarmer, .selects RX3 yX3_isFarmer yX3_isFarmer, .code yX3_isFarmer cX3_isFarmer 2 (some .boolean), .fieldLink RX3 78 "HarvestLenderModel" "farmers" "I", .methodLink RX3 74 yX3_in, .static yX3_in, .code yX3_in cX3_in 3 (some .boolean), .methodLink RX3 86 yX3_refused, .instanceMethod yX3_refused, .selects RX3 yX3_refused yX3_refused, .code yX3_refused cX3_refused 2 (some .boolean), .fieldLink RX3 70 "HarvestLenderModel" "refusal" "I"] ++ wsX30)
def wsX3_instalments : List Cond := .code yX3_instalments cX3_instalments 2 (some .int) :: ([.fieldLink RX3 40 "HarvestLenderModel" "rows" "[I", .methodLink RX3 140 yX3_noFarmer, .instanceMethod yX3_noFarmer, .selects RX3 yX3_noFarmer yX3_noFarmer, .initialized RX3, .code yX3_noFarmer cX3_noFarmer 2 (some .boolean), .methodLink RX3 104 yX3_isFarmer, .instanceMethod yX3_isFarmer, .selects RX3 yX3_isFarmer yX3_isFarmer, .code yX3_isFarmer cX3_isFarmer 2 (some .boolean), .fieldLink RX3 78 "HarvestLenderModel" "farmers" "I", .methodLink RX3 74 yX3_in, .static yX3_in, .code yX3_in cX3_in 3 (some .boolean), .methodLink RX3 86 yX3_refused, .instanceMethod yX3_refused, .selects RX3 yX3_refused yX3_refused, .code yX3_refused cX3_refused 2 (some .boolean), .fieldLink RX3 70 "HarvestLenderModel" "refusal" "I"] ++ wsX30)
def wsX3_purse : List Cond := .code yX3_purse cX3_purse 2 (some .int) :: ([.fieldLink RX3 22 "HarvestLenderModel" "purses" "[I", .methodLink RX3 140 yX3_noFarmer, .instanceMethod yX3_noFarmer, .selects RX3 yX3_noFarmer yX3_noFarmer, .initialized RX3, .code yX3_noFarmer cX3_noFarmer 2 (some .boolean), .methodLink RX3 104 yX3_isFarmer, .instanceMethod yX3_isFarmer, .selects RX3 yX3_isFarmer yX3_isFarmer, .code yX3_isFarmer cX3_isFarmer 2 (some .boolean), .fieldLink RX3 78 "HarvestLenderModel" "farmers" "I", .methodLink RX3 74 yX3_in, .static yX3_in, .code yX3_in cX3_in 3 (some .boolean), .methodLink RX3 86 yX3_refused, .instanceMethod yX3_refused, .selects RX3 yX3_refused yX3_refused, .code yX3_refused cX3_refused 2 (some .boolean), .fieldLink RX3 70 "HarvestLenderModel" "refusal" "I"] ++ wsX30)
def wsX3_grain : List Cond := .code yX3_grain cX3_grain 3 (some .int) :: ([.fieldLink RX3 34 "HarvestLenderModel" "pledged" "[I", .fieldLink RX3 31 "HarvestLenderModel" "grains" "[I", .methodLink RX3 140 yX3_noFarmer, .instanceMethod yX3_noFarmer, .selects RX3 yX3_noFarmer yX3_noFarmer, .initialized RX3, .code yX3_noFarmer cX3_noFarmer 2 (some .boolean), .methodLink RX3 104 yX3_isFarmer, .instanceMethod yX3_isFarmer, .selects RX3 yX3_isFarmer yX3_isFarmer, .code yX3_isFarmer cX3_isFarmer 2 (some .boolean), .fieldLink RX3 78 "HarvestLenderModel" "farmers" "I", .methodLink RX3 74 yX3_in, .static yX3_in, .code yX3_in cX3_in 3 (some .boolean), .methodLink RX3 86 yX3_refused, .instanceMethod yX3_refused, .selects RX3 yX3_refused yX3_refused, .code yX3_refused cX3_refused 2 (some .boolean), .fieldLink RX3 70 "HarvestLenderModel" "refusal" "I"] ++ wsX30)
def wsX3_called : List Cond := .code yX3_called cX3_called 2 (some .int) :: ([.fieldLink RX3 61 "HarvestLenderModel" "calls" "[I", .methodLink RX3 140 yX3_noFarmer, .instanceMethod yX3_noFarmer, .selects RX3 yX3_noFarmer yX3_noFarmer, .initialized RX3, .code yX3_noFarmer cX3_noFarmer 2 (some .boolean), .methodLink RX3 104 yX3_isFarmer, .instanceMethod yX3_isFarmer, .selects RX3 yX3_isFarmer yX3_isFarmer, .code yX3_isFarmer cX3_isFarmer 2 (some .boolean), .fieldLink RX3 78 "HarvestLenderModel" "farmers" "I", .methodLink RX3 74 yX3_in, .static yX3_in, .code yX3_in cX3_in 3 (some .boolean), .methodLink RX3 86 yX3_refused, .instanceMethod yX3_refused, .selects RX3 yX3_refused yX3_refused, .code yX3_refused cX3_refused 2 (some .boolean), .fieldLink RX3 70 "HarvestLenderModel" "refusal" "I"] ++ wsX30)
def wsX3_repaid : List Cond := .code yX3_repaid cX3_repaid 3 (some .int) :: ([.fieldLink RX3 64 "HarvestLenderModel" "repaidOf" "[I", .methodLink RX3 104 yX3_isFarmer, .instanceMethod yX3_isFarmer, .selects RX3 yX3_isFarmer yX3_isFarmer, .initialized RX3, .code yX3_isFarmer cX3_isFarmer 2 (some .boolean), .fieldLink RX3 78 "HarvestLenderModel" "farmers" "I", .methodLink RX3 74 yX3_in, .static yX3_in, .code yX3_in cX3_in 3 (some .boolean), .methodLink RX3 86 yX3_refused, .instanceMethod yX3_refused, .selects RX3 yX3_refused yX3_refused, .code yX3_refused cX3_refused 2 (some .boolean), .fieldLink RX3 70 "HarvestLenderModel" "refusal" "I"] ++ wsX30)
def wsX3_charged : List Cond := .code yX3_charged cX3_charged 2 (some .int) :: ([.fieldLink RX3 67 "HarvestLenderModel" "charges" "[I", .methodLink RX3 140 yX3_noFarmer, .instanceMethod yX3_noFarmer, .selects RX3 yX3_noFarmer yX3_noFarmer, .initialized RX3, .code yX3_noFarmer cX3_noFarmer 2 (some .boolean), .methodLink RX3 104 yX3_isFarmer, .instanceMethod yX3_isFarmer, .selects RX3 yX3_isFarmer yX3_isFarmer, .code yX3_isFarmer cX3_isFarmer 2 (some .boolean), .fieldLink RX3 78 "HarvestLenderModel" "farmers" "I", .methodLink RX3 74 yX3_in, .static yX3_in, .code yX3_in cX3_in 3 (some .boolean), .methodLink RX3 86 yX3_refused, .instanceMethod yX3_refused, .selects RX3 yX3_refused yX3_refused, .code yX3_refused cX3_refused 2 (some .boolean), .fieldLink RX3 70 "HarvestLenderModel" "refusal" "I"] ++ wsX30)
def wsJ9_min_7cf53 : List Cond := .code yJ9_min_7cf53 cJ9_min_7cf53 2 (some .int) :: ([])
def wsJ9_min_f86c9 : List Cond := .code yJ9_min_f86c9 cJ9_min_f86c9 4 (some .long) :: ([])
def wsL_setNeed : List Cond := .codeWith yL_setNeed cL_setNeed 6 (some .int) [(0, 12, 15, 13), (0, 12, 19, 15)] :: ([.classLink RL 13 "java/lang/IndexOutOfBoundsException", .classLink RL 15 "java/lang/IllegalArgumentException", .methodLink RL 7 yX2_setNeed, .instanceMethod yX2_setNeed, .selects RX2 yX2_setNeed yX2_setNeed, .initialized RX2, .code yX2_setNeed cX2_setNeed 6 (some .int), .classLink RX2 37 "java/lang/IndexOutOfBoundsException", .initialized "java/lang/IndexOutOfBoundsException", .constant RX2 44 (100000), .fieldLink RX2 49 "HarvestLender$Crop" "needs" "[I", .methodLink RX2 33 yX2_cropAt, .instanceMethod yX2_cropAt, .selects RX2 yX2_cropAt yX2_cropAt, .code yX2_cropAt cX2_cropAt 2 (some (.object "HarvestLender$Crop")), .fieldLink RX2 11 "HarvestLender" "crops" "[LHarvestLender$Crop;", .methodLink RX2 45 yX2_requireRange, .static yX2_requireRange, .code yX2_requireRange cX2_requireRange 3 none, .classLink RX2 175 "java/lang/IllegalArgumentException", .initialized "java/lang/IllegalArgumentException"] ++ wsX00 ++ wsX20 ++ (vx_atS RX2 41 "java/lang/IndexOutOfBoundsException" ["java/lang/RuntimeException", "java/lang/Exception"]).filter goodWord ++ (vx_atS RX2 179 "java/lang/IllegalArgumentException" ["java/lang/RuntimeException", "java/lang/Exception"]).filter goodWord)
def wsL_setCrop : List Cond := .codeWith yL_setCrop cL_setCrop 6 (some .int) [(0, 12, 15, 13), (0, 12, 19, 15)] :: ([.classLink RL 13 "java/lang/IndexOutOfBoundsException", .classLink RL 15 "java/lang/IllegalArgumentException", .methodLink RL 17 yX2_setCrop, .instanceMethod yX2_setCrop, .selects RX2 yX2_setCrop yX2_setCrop, .initialized RX2, .code yX2_setCrop cX2_setCrop 6 (some .int), .fieldLink RX2 53 "HarvestLender$Crop" "price" "I", .fieldLink RX2 56 "HarvestLender$Crop" "normal" "I", .methodLink RX2 33 yX2_cropAt, .instanceMethod yX2_cropAt, .selects RX2 yX2_cropAt yX2_cropAt, .code yX2_cropAt cX2_cropAt 2 (some (.object "HarvestLender$Crop")), .classLink RX2 37 "java/lang/IndexOutOfBoundsException", .initialized "java/lang/IndexOutOfBoundsException", .fieldLink RX2 11 "HarvestLender" "crops" "[LHarvestLender$Crop;", .methodLink RX2 45 yX2_requireRange, .static yX2_requireRange, .code yX2_requireRange cX2_requireRange 3 none, .classLink RX2 175 "java/lang/IllegalArgumentException", .initialized "java/lang/IllegalArgumentException"] ++ wsX00 ++ wsX20 ++ (vx_atS RX2 41 "java/lang/IndexOutOfBoundsException" ["java/lang/RuntimeException", "java/lang/Exception"]).filter goodWord ++ (vx_atS RX2 179 "java/lang/IllegalArgumentException" ["java/lang/RuntimeException", "java/lang/Exception"]).filter goodWord)
def wsL_add : List Cond := .codeWith yL_add cL_add 4 (some .int) [(0, 9, 12, 13), (0, 9, 15, 24)] :: ([.classLink RL 13 "java/lang/IndexOutOfBoundsException", .classLink RL 24 "java/lang/IllegalStateException", .methodLink RL 20 yX2_add, .instanceMethod yX2_add, .selects RX2 yX2_add yX2_add, .initialized RX2, .code yX2_add cX2_add 3 (some .int), .classLink RX2 37 "java/lang/IndexOutOfBoundsException", .initialized "java/lang/IndexOutOfBoundsException", .fieldLink RX2 21 "HarvestLender" "count" "I", .fieldLink RX2 17 "HarvestLender" "rows" "[LHarvestLender$Farmer;", .fieldLink RX2 65 "HarvestLender$Farmer" "group" "I", .methodLink RX2 61 yX2_requireState, .static yX2_requireState, .code yX2_requireState cX2_requireState 1 none, .classLink RX2 180 "java/lang/IllegalStateException", .initialized "java/lang/IllegalStateException"] ++ wsX20 ++ wsX10 ++ (vx_atS RX2 41 "java/lang/IndexOutOfBoundsException" ["java/lang/RuntimeException", "java/lang/Exception"]).filter goodWord ++ (vx_atS RX2 184 "java/lang/IllegalStateException" ["java/lang/RuntimeException", "java/lang/Exception"]).filter goodWord)
def wsL_plant_r1 : List Cond := [Cond.classLink RL 13 "java/lang/IndexOutOfBoundsException", Cond.classLink RL 15 "java/lang/IllegalArgumentException", Cond.classLink RL 24 "java/lang/IllegalStateException", Cond.methodLink RL 26 yX2_plant, Cond.instanceMethod yX2_plant, Cond.selects RX2 yX2_plant yX2_plant, Cond.initialized RX2, Cond.code yX2_plant cX2_plant 6 (some .int), Cond.fieldLink RX2 28 "HarvestLender" "stage" "I", Cond.fieldLink RX2 76 "HarvestLender$Farmer" "grain" "I", Cond.fieldLink RX2 79 "HarvestLender$Farmer" "grainCrop" "I", Cond.fieldLink RX2 82 "HarvestLender$Farmer" "plantedCrop" "I", Cond.fieldLink RX2 85 "HarvestLender$Farmer" "hectares" "I", Cond.methodLink RX2 68 yX2_farmerAt, Cond.instanceMethod yX2_farmerAt, Cond.selects RX2 yX2_farmerAt yX2_farmerAt, Cond.code yX2_farmerAt cX2_farmerAt 2 (some (.object "HarvestLender$Farmer")), Cond.classLink RX2 37 "java/lang/IndexOutOfBoundsException", Cond.initialized "java/lang/IndexOutOfBoundsException", Cond.fieldLink RX2 21 "HarvestLender" "count" "I", Cond.fieldLink RX2 17 "HarvestLender" "rows" "[LHarvestLender$Farmer;", Cond.methodLink RX2 33 yX2_cropAt, Cond.instanceMethod yX2_cropAt, Cond.selects RX2 yX2_cropAt yX2_cropAt]
def wsL_plant_r2 : List Cond := [Cond.code yX2_cropAt cX2_cropAt 2 (some (.object "HarvestLender$Crop")), Cond.fieldLink RX2 11 "HarvestLender" "crops" "[LHarvestLender$Crop;", Cond.methodLink RX2 45 yX2_requireRange, Cond.static yX2_requireRange, Cond.code yX2_requireRange cX2_requireRange 3 none, Cond.classLink RX2 175 "java/lang/IllegalArgumentException", Cond.initialized "java/lang/IllegalArgumentException", Cond.methodLink RX2 72 yX1_hasPlanted, Cond.instanceMethod yX1_hasPlanted, Cond.selects RX1 yX1_hasPlanted yX1_hasPlanted, Cond.initialized RX1, Cond.code yX1_hasPlanted cX1_hasPlanted 1 (some .boolean), Cond.fieldLink RX1 50 "HarvestLender$Farmer" "plantedCrop" "I", Cond.methodLink RX2 61 yX2_requireState, Cond.static yX2_requireState, Cond.code yX2_requireState cX2_requireState 1 none, Cond.classLink RX2 180 "java/lang/IllegalStateException", Cond.initialized "java/lang/IllegalStateException", Cond.methodLink RX2 88 yX0_needUpTo, Cond.instanceMethod yX0_needUpTo, Cond.selects RX0 yX0_needUpTo yX0_needUpTo, Cond.initialized RX0, Cond.code yX0_needUpTo cX0_needUpTo 4 (some .int), Cond.fieldLink RX0 9 "HarvestLender$Crop" "needs" "[I"]
def wsL_plant : List Cond := .codeWith yL_plant cL_plant 6 (some .int) [(0, 12, 15, 13), (0, 12, 19, 15), (0, 12, 23, 24)] :: ((wsL_plant_r1 ++ wsL_plant_r2) ++ wsX20 ++ wsX10 ++ wsX00 ++ (vx_atS RX2 41 "java/lang/IndexOutOfBoundsException" ["java/lang/RuntimeException", "java/lang/Exception"]).filter goodWord ++ (vx_atS RX2 179 "java/lang/IllegalArgumentException" ["java/lang/RuntimeException", "java/lang/Exception"]).filter goodWord ++ (vx_atS RX2 184 "java/lang/IllegalStateException" ["java/lang/RuntimeException", "java/lang/Exception"]).filter goodWord)
def wsL_cover_r1 : List Cond := [Cond.classLink RL 13 "java/lang/IndexOutOfBoundsException", Cond.classLink RL 15 "java/lang/IllegalArgumentException", Cond.classLink RL 24 "java/lang/IllegalStateException", Cond.methodLink RL 29 yX2_cover, Cond.instanceMethod yX2_cover, Cond.selects RX2 yX2_cover yX2_cover, Cond.initialized RX2, Cond.code yX2_cover cX2_cover 5 (some .int), Cond.fieldLink RX2 28 "HarvestLender" "stage" "I", Cond.fieldLink RX2 92 "HarvestLender$Farmer" "coverPercent" "I", Cond.methodLink RX2 68 yX2_farmerAt, Cond.instanceMethod yX2_farmerAt, Cond.selects RX2 yX2_farmerAt yX2_farmerAt, Cond.code yX2_farmerAt cX2_farmerAt 2 (some (.object "HarvestLender$Farmer")), Cond.classLink RX2 37 "java/lang/IndexOutOfBoundsException", Cond.initialized "java/lang/IndexOutOfBoundsException", Cond.fieldLink RX2 21 "HarvestLender" "count" "I", Cond.fieldLink RX2 17 "HarvestLender" "rows" "[LHarvestLender$Farmer;", Cond.methodLink RX2 45 yX2_requireRange, Cond.static yX2_requireRange, Cond.code yX2_requireRange cX2_requireRange 3 none, Cond.classLink RX2 175 "java/lang/IllegalArgumentException", Cond.initialized "java/lang/IllegalArgumentException", Cond.methodLink RX2 72 yX1_hasPlanted]
def wsL_cover_r2 : List Cond := [Cond.instanceMethod yX1_hasPlanted, Cond.selects RX1 yX1_hasPlanted yX1_hasPlanted, Cond.initialized RX1, Cond.code yX1_hasPlanted cX1_hasPlanted 1 (some .boolean), Cond.fieldLink RX1 50 "HarvestLender$Farmer" "plantedCrop" "I", Cond.methodLink RX2 61 yX2_requireState, Cond.static yX2_requireState, Cond.code yX2_requireState cX2_requireState 1 none, Cond.classLink RX2 180 "java/lang/IllegalStateException", Cond.initialized "java/lang/IllegalStateException"]
def wsL_cover : List Cond := .codeWith yL_cover cL_cover 5 (some .int) [(0, 10, 13, 13), (0, 10, 17, 15), (0, 10, 21, 24)] :: ((wsL_cover_r1 ++ wsL_cover_r2) ++ wsX20 ++ wsX10 ++ (vx_atS RX2 41 "java/lang/IndexOutOfBoundsException" ["java/lang/RuntimeException", "java/lang/Exception"]).filter goodWord ++ (vx_atS RX2 179 "java/lang/IllegalArgumentException" ["java/lang/RuntimeException", "java/lang/Exception"]).filter goodWord ++ (vx_atS RX2 184 "java/lang/IllegalStateException" ["java/lang/RuntimeException", "java/lang/Exception"]).filter goodWord)
def wsL_draw_r1 : List Cond := [Cond.classLink RL 13 "java/lang/IndexOutOfBoundsException", Cond.classLink RL 15 "java/lang/IllegalArgumentException", Cond.classLink RL 24 "java/lang/IllegalStateException", Cond.methodLink RL 33 yX2_draw, Cond.instanceMethod yX2_draw, Cond.selects RX2 yX2_draw yX2_draw, Cond.initialized RX2, Cond.code yX2_draw cX2_draw 5 (some .int), Cond.constant RX2 95 (100000000), Cond.fieldLink RX2 28 "HarvestLender" "stage" "I", Cond.fieldLink RX2 100 "HarvestLender$Farmer" "drawn" "I", Cond.methodLink RX2 68 yX2_farmerAt, Cond.instanceMethod yX2_farmerAt, Cond.selects RX2 yX2_farmerAt yX2_farmerAt, Cond.code yX2_farmerAt cX2_farmerAt 2 (some (.object "HarvestLender$Farmer")), Cond.classLink RX2 37 "java/lang/IndexOutOfBoundsException", Cond.initialized "java/lang/IndexOutOfBoundsException", Cond.fieldLink RX2 21 "HarvestLender" "count" "I", Cond.fieldLink RX2 17 "HarvestLender" "rows" "[LHarvestLender$Farmer;", Cond.methodLink RX2 45 yX2_requireRange, Cond.static yX2_requireRange, Cond.code yX2_requireRange cX2_requireRange 3 none, Cond.classLink RX2 175 "java/lang/IllegalArgumentException", Cond.initialized "java/lang/IllegalArgumentException"]
def wsL_draw_r2 : List Cond := [Cond.methodLink RX2 61 yX2_requireState, Cond.static yX2_requireState, Cond.code yX2_requireState cX2_requireState 1 none, Cond.classLink RX2 180 "java/lang/IllegalStateException", Cond.initialized "java/lang/IllegalStateException", Cond.methodLink RX2 96 yX2_limitOf, Cond.instanceMethod yX2_limitOf, Cond.selects RX2 yX2_limitOf yX2_limitOf, Cond.code yX2_limitOf cX2_limitOf 2 (some .int), Cond.fieldLink RX2 82 "HarvestLender$Farmer" "plantedCrop" "I", Cond.fieldLink RX2 85 "HarvestLender$Farmer" "hectares" "I", Cond.methodLink RX2 72 yX1_hasPlanted, Cond.instanceMethod yX1_hasPlanted, Cond.selects RX1 yX1_hasPlanted yX1_hasPlanted, Cond.initialized RX1, Cond.code yX1_hasPlanted cX1_hasPlanted 1 (some .boolean), Cond.fieldLink RX1 50 "HarvestLender$Farmer" "plantedCrop" "I", Cond.methodLink RX2 33 yX2_cropAt, Cond.instanceMethod yX2_cropAt, Cond.selects RX2 yX2_cropAt yX2_cropAt, Cond.code yX2_cropAt cX2_cropAt 2 (some (.object "HarvestLender$Crop")), Cond.fieldLink RX2 11 "HarvestLender" "crops" "[LHarvestLender$Crop;", Cond.methodLink RX2 88 yX0_needUpTo, Cond.instanceMethod yX0_needUpTo]
def wsL_draw_r3 : List Cond := [Cond.selects RX0 yX0_needUpTo yX0_needUpTo, Cond.initialized RX0, Cond.code yX0_needUpTo cX0_needUpTo 4 (some .int), Cond.fieldLink RX0 9 "HarvestLender$Crop" "needs" "[I", Cond.methodLink RX2 103 yX1_charge, Cond.instanceMethod yX1_charge, Cond.selects RX1 yX1_charge yX1_charge, Cond.code yX1_charge cX1_charge 3 none, Cond.fieldLink RX1 19 "HarvestLender$Farmer" "debt" "J", Cond.fieldLink RX1 25 "HarvestLender$Farmer" "charged" "J"]
def wsL_draw : List Cond := .codeWith yL_draw cL_draw 5 (some .int) [(0, 10, 13, 13), (0, 10, 17, 15), (0, 10, 21, 24)] :: ((wsL_draw_r1 ++ (wsL_draw_r2 ++ wsL_draw_r3)) ++ wsX20 ++ wsX10 ++ wsX00 ++ (vx_atS RX2 41 "java/lang/IndexOutOfBoundsException" ["java/lang/RuntimeException", "java/lang/Exception"]).filter goodWord ++ (vx_atS RX2 179 "java/lang/IllegalArgumentException" ["java/lang/RuntimeException", "java/lang/Exception"]).filter goodWord ++ (vx_atS RX2 184 "java/lang/IllegalStateException" ["java/lang/RuntimeException", "java/lang/Exception"]).filter goodWord)
def wsL_setYield_r1 : List Cond := [Cond.classLink RL 13 "java/lang/IndexOutOfBoundsException", Cond.classLink RL 15 "java/lang/IllegalArgumentException", Cond.classLink RL 24 "java/lang/IllegalStateException", Cond.methodLink RL 36 yX2_setYield, Cond.instanceMethod yX2_setYield, Cond.selects RX2 yX2_setYield yX2_setYield, Cond.initialized RX2, Cond.code yX2_setYield cX2_setYield 5 (some .int), Cond.fieldLink RX2 28 "HarvestLender" "stage" "I", Cond.fieldLink RX2 107 "HarvestLender$Farmer" "yieldPercent" "I", Cond.methodLink RX2 68 yX2_farmerAt, Cond.instanceMethod yX2_farmerAt, Cond.selects RX2 yX2_farmerAt yX2_farmerAt, Cond.code yX2_farmerAt cX2_farmerAt 2 (some (.object "HarvestLender$Farmer")), Cond.classLink RX2 37 "java/lang/IndexOutOfBoundsException", Cond.initialized "java/lang/IndexOutOfBoundsException", Cond.fieldLink RX2 21 "HarvestLender" "count" "I", Cond.fieldLink RX2 17 "HarvestLender" "rows" "[LHarvestLender$Farmer;", Cond.methodLink RX2 45 yX2_requireRange, Cond.static yX2_requireRange, Cond.code yX2_requireRange cX2_requireRange 3 none, Cond.classLink RX2 175 "java/lang/IllegalArgumentException", Cond.initialized "java/lang/IllegalArgumentException", Cond.methodLink RX2 61 yX2_requireState]
def wsL_setYield_r2 : List Cond := [Cond.static yX2_requireState, Cond.code yX2_requireState cX2_requireState 1 none, Cond.classLink RX2 180 "java/lang/IllegalStateException", Cond.initialized "java/lang/IllegalStateException"]
def wsL_setYield : List Cond := .codeWith yL_setYield cL_setYield 5 (some .int) [(0, 10, 13, 13), (0, 10, 17, 15), (0, 10, 21, 24)] :: ((wsL_setYield_r1 ++ wsL_setYield_r2) ++ wsX20 ++ wsX10 ++ (vx_atS RX2 41 "java/lang/IndexOutOfBoundsException" ["java/lang/RuntimeException", "java/lang/Exception"]).filter goodWord ++ (vx_atS RX2 179 "java/lang/IllegalArgumentException" ["java/lang/RuntimeException", "java/lang/Exception"]).filter goodWord ++ (vx_atS RX2 184 "java/lang/IllegalStateException" ["java/lang/RuntimeException", "java/lang/Exception"]).filter goodWord)
def wsL_next_r1 : List Cond := [Cond.classLink RL 24 "java/lang/IllegalStateException", Cond.methodLink RL 39 yX2_next, Cond.instanceMethod yX2_next, Cond.selects RX2 yX2_next yX2_next, Cond.initialized RX2, Cond.code yX2_next cX2_next 2 (some .int), Cond.fieldLink RX2 28 "HarvestLender" "stage" "I", Cond.fieldLink RX2 21 "HarvestLender" "count" "I", Cond.fieldLink RX2 17 "HarvestLender" "rows" "[LHarvestLender$Farmer;", Cond.methodLink RX2 61 yX2_requireState, Cond.static yX2_requireState, Cond.code yX2_requireState cX2_requireState 1 none, Cond.classLink RX2 180 "java/lang/IllegalStateException", Cond.initialized "java/lang/IllegalStateException", Cond.methodLink RX2 110 yX1_chargeInterest, Cond.instanceMethod yX1_chargeInterest, Cond.selects RX1 yX1_chargeInterest yX1_chargeInterest, Cond.initialized RX1, Cond.code yX1_chargeInterest cX1_chargeInterest 1 none, Cond.fieldLink RX1 19 "HarvestLender$Farmer" "debt" "J", Cond.constantLong RX1 65 (2), Cond.constantLong RX1 67 (100), Cond.methodLink RX1 69 yX1_charge, Cond.instanceMethod yX1_charge]
def wsL_next_r2 : List Cond := [Cond.selects RX1 yX1_charge yX1_charge, Cond.code yX1_charge cX1_charge 3 none, Cond.fieldLink RX1 25 "HarvestLender$Farmer" "charged" "J", Cond.methodLink RX2 113 yX2_harvestAll, Cond.instanceMethod yX2_harvestAll, Cond.selects RX2 yX2_harvestAll yX2_harvestAll, Cond.code yX2_harvestAll cX2_harvestAll 2 none, Cond.fieldLink RX2 82 "HarvestLender$Farmer" "plantedCrop" "I", Cond.methodLink RX2 72 yX1_hasPlanted, Cond.instanceMethod yX1_hasPlanted, Cond.selects RX1 yX1_hasPlanted yX1_hasPlanted, Cond.code yX1_hasPlanted cX1_hasPlanted 1 (some .boolean), Cond.fieldLink RX1 50 "HarvestLender$Farmer" "plantedCrop" "I", Cond.methodLink RX2 33 yX2_cropAt, Cond.instanceMethod yX2_cropAt, Cond.selects RX2 yX2_cropAt yX2_cropAt, Cond.code yX2_cropAt cX2_cropAt 2 (some (.object "HarvestLender$Crop")), Cond.classLink RX2 37 "java/lang/IndexOutOfBoundsException", Cond.initialized "java/lang/IndexOutOfBoundsException", Cond.fieldLink RX2 11 "HarvestLender" "crops" "[LHarvestLender$Crop;", Cond.methodLink RX2 185 yX1_harvest, Cond.instanceMethod yX1_harvest, Cond.selects RX1 yX1_harvest yX1_harvest, Cond.code yX1_harvest cX1_harvest 5 none]
def wsL_next_r3 : List Cond := [Cond.fieldLink RX1 53 "HarvestLender$Farmer" "hectares" "I", Cond.fieldLink RX1 83 "HarvestLender$Crop" "normal" "I", Cond.fieldLink RX1 41 "HarvestLender$Farmer" "grain" "I", Cond.fieldLink RX1 59 "HarvestLender$Farmer" "yieldPercent" "I", Cond.fieldLink RX1 47 "HarvestLender$Farmer" "grainCrop" "I", Cond.fieldLink RX1 56 "HarvestLender$Farmer" "coverPercent" "I", Cond.fieldLink RX1 88 "HarvestLender$Crop" "price" "I", Cond.methodLink RX1 91 yX1_receive, Cond.instanceMethod yX1_receive, Cond.selects RX1 yX1_receive yX1_receive, Cond.code yX1_receive cX1_receive 6 none, Cond.methodLink RX1 73 Lib.MathLoose.min_long.x, Cond.static Lib.MathLoose.min_long.x, Cond.initialized "java/lang/Math", Cond.code Lib.MathLoose.min_long.x Lib.MathLoose.min_long.code 4 (some .long), Cond.fieldLink RX1 15 "HarvestLender$Farmer" "purse" "J", Cond.methodLink RX1 79 yX1_lowerDebt, Cond.instanceMethod yX1_lowerDebt, Cond.selects RX1 yX1_lowerDebt yX1_lowerDebt, Cond.code yX1_lowerDebt cX1_lowerDebt 4 none, Cond.fieldLink RX1 31 "HarvestLender$Farmer" "repaid" "[J"]
def wsL_next : List Cond := .codeWith yL_next cL_next 3 (some .int) [(0, 8, 11, 24)] :: ((wsL_next_r1 ++ (wsL_next_r2 ++ wsL_next_r3)) ++ wsX20 ++ wsX10 ++ wsX00 ++ (vx_atS RX2 184 "java/lang/IllegalStateException" ["java/lang/RuntimeException", "java/lang/Exception"]).filter goodWord ++ (vx_atS RX2 41 "java/lang/IndexOutOfBoundsException" ["java/lang/RuntimeException", "java/lang/Exception"]).filter goodWord)
def wsL_pledge_r1 : List Cond := [Cond.classLink RL 13 "java/lang/IndexOutOfBoundsException", Cond.classLink RL 15 "java/lang/IllegalArgumentException", Cond.classLink RL 24 "java/lang/IllegalStateException", Cond.methodLink RL 43 yX2_pledge, Cond.instanceMethod yX2_pledge, Cond.selects RX2 yX2_pledge yX2_pledge, Cond.initialized RX2, Cond.code yX2_pledge cX2_pledge 4 (some .int), Cond.constant RX2 116 (1000000), Cond.fieldLink RX2 79 "HarvestLender$Farmer" "grainCrop" "I", Cond.fieldLink RX2 53 "HarvestLender$Crop" "price" "I", Cond.methodLink RX2 68 yX2_farmerAt, Cond.instanceMethod yX2_farmerAt, Cond.selects RX2 yX2_farmerAt yX2_farmerAt, Cond.code yX2_farmerAt cX2_farmerAt 2 (some (.object "HarvestLender$Farmer")), Cond.classLink RX2 37 "java/lang/IndexOutOfBoundsException", Cond.initialized "java/lang/IndexOutOfBoundsException", Cond.fieldLink RX2 21 "HarvestLender" "count" "I", Cond.fieldLink RX2 17 "HarvestLender" "rows" "[LHarvestLender$Farmer;", Cond.methodLink RX2 45 yX2_requireRange, Cond.static yX2_requireRange, Cond.code yX2_requireRange cX2_requireRange 3 none, Cond.classLink RX2 175 "java/lang/IllegalArgumentException", Cond.initialized "java/lang/IllegalArgumentException"]
def wsL_pledge_r2 : List Cond := [Cond.methodLink RX2 117 yX1_freeGrain, Cond.instanceMethod yX1_freeGrain, Cond.selects RX1 yX1_freeGrain yX1_freeGrain, Cond.initialized RX1, Cond.code yX1_freeGrain cX1_freeGrain 1 (some .int), Cond.fieldLink RX1 41 "HarvestLender$Farmer" "grain" "I", Cond.fieldLink RX1 44 "HarvestLender$Farmer" "pledgedGrain" "I", Cond.methodLink RX2 61 yX2_requireState, Cond.static yX2_requireState, Cond.code yX2_requireState cX2_requireState 1 none, Cond.classLink RX2 180 "java/lang/IllegalStateException", Cond.initialized "java/lang/IllegalStateException", Cond.methodLink RX2 33 yX2_cropAt, Cond.instanceMethod yX2_cropAt, Cond.selects RX2 yX2_cropAt yX2_cropAt, Cond.code yX2_cropAt cX2_cropAt 2 (some (.object "HarvestLender$Crop")), Cond.fieldLink RX2 11 "HarvestLender" "crops" "[LHarvestLender$Crop;", Cond.methodLink RX2 121 yX1_pledgeUnits, Cond.instanceMethod yX1_pledgeUnits, Cond.selects RX1 yX1_pledgeUnits yX1_pledgeUnits, Cond.code yX1_pledgeUnits cX1_pledgeUnits 5 (some .long), Cond.constantLong RX1 94 (60), Cond.constantLong RX1 67 (100), Cond.fieldLink RX1 22 "HarvestLender$Farmer" "pledgeDebt" "J"]
def wsL_pledge_r3 : List Cond := [Cond.methodLink RX1 91 yX1_receive, Cond.instanceMethod yX1_receive, Cond.selects RX1 yX1_receive yX1_receive, Cond.code yX1_receive cX1_receive 6 none, Cond.fieldLink RX1 19 "HarvestLender$Farmer" "debt" "J", Cond.methodLink RX1 73 Lib.MathLoose.min_long.x, Cond.static Lib.MathLoose.min_long.x, Cond.initialized "java/lang/Math", Cond.code Lib.MathLoose.min_long.x Lib.MathLoose.min_long.code 4 (some .long), Cond.fieldLink RX1 15 "HarvestLender$Farmer" "purse" "J", Cond.methodLink RX1 79 yX1_lowerDebt, Cond.instanceMethod yX1_lowerDebt, Cond.selects RX1 yX1_lowerDebt yX1_lowerDebt, Cond.code yX1_lowerDebt cX1_lowerDebt 4 none, Cond.fieldLink RX1 31 "HarvestLender$Farmer" "repaid" "[J"]
def wsL_pledge : List Cond := .codeWith yL_pledge cL_pledge 5 (some .int) [(0, 10, 13, 13), (0, 10, 17, 15), (0, 10, 21, 24)] :: ((wsL_pledge_r1 ++ (wsL_pledge_r2 ++ wsL_pledge_r3)) ++ wsX10 ++ wsX00 ++ wsX20 ++ (vx_atS RX2 41 "java/lang/IndexOutOfBoundsException" ["java/lang/RuntimeException", "java/lang/Exception"]).filter goodWord ++ (vx_atS RX2 179 "java/lang/IllegalArgumentException" ["java/lang/RuntimeException", "java/lang/Exception"]).filter goodWord ++ (vx_atS RX2 184 "java/lang/IllegalStateException" ["java/lang/RuntimeException", "java/lang/Exception"]).filter goodWord)
def wsL_sell_r1 : List Cond := [Cond.classLink RL 13 "java/lang/IndexOutOfBoundsException", Cond.classLink RL 15 "java/lang/IllegalArgumentException", Cond.classLink RL 24 "java/lang/IllegalStateException", Cond.methodLink RL 46 yX2_sell, Cond.instanceMethod yX2_sell, Cond.selects RX2 yX2_sell yX2_sell, Cond.initialized RX2, Cond.code yX2_sell cX2_sell 4 (some .int), Cond.constant RX2 116 (1000000), Cond.fieldLink RX2 76 "HarvestLender$Farmer" "grain" "I", Cond.fieldLink RX2 79 "HarvestLender$Farmer" "grainCrop" "I", Cond.fieldLink RX2 53 "HarvestLender$Crop" "price" "I", Cond.methodLink RX2 68 yX2_farmerAt, Cond.instanceMethod yX2_farmerAt, Cond.selects RX2 yX2_farmerAt yX2_farmerAt, Cond.code yX2_farmerAt cX2_farmerAt 2 (some (.object "HarvestLender$Farmer")), Cond.classLink RX2 37 "java/lang/IndexOutOfBoundsException", Cond.initialized "java/lang/IndexOutOfBoundsException", Cond.fieldLink RX2 21 "HarvestLender" "count" "I", Cond.fieldLink RX2 17 "HarvestLender" "rows" "[LHarvestLender$Farmer;", Cond.methodLink RX2 45 yX2_requireRange, Cond.static yX2_requireRange, Cond.code yX2_requireRange cX2_requireRange 3 none, Cond.classLink RX2 175 "java/lang/IllegalArgumentException"]
def wsL_sell_r2 : List Cond := [Cond.initialized "java/lang/IllegalArgumentException", Cond.methodLink RX2 61 yX2_requireState, Cond.static yX2_requireState, Cond.code yX2_requireState cX2_requireState 1 none, Cond.classLink RX2 180 "java/lang/IllegalStateException", Cond.initialized "java/lang/IllegalStateException", Cond.methodLink RX2 33 yX2_cropAt, Cond.instanceMethod yX2_cropAt, Cond.selects RX2 yX2_cropAt yX2_cropAt, Cond.code yX2_cropAt cX2_cropAt 2 (some (.object "HarvestLender$Crop")), Cond.fieldLink RX2 11 "HarvestLender" "crops" "[LHarvestLender$Crop;", Cond.methodLink RX2 125 yX1_sellUnits, Cond.instanceMethod yX1_sellUnits, Cond.selects RX1 yX1_sellUnits yX1_sellUnits, Cond.initialized RX1, Cond.code yX1_sellUnits cX1_sellUnits 9 (some .long), Cond.methodLink RX1 100 Lib.Math.min.name, Cond.static Lib.Math.min.name, Cond.initialized "java/lang/Math", Cond.code Lib.Math.min.name Lib.Math.min.code 2 (some .int), Cond.fieldLink RX1 22 "HarvestLender$Farmer" "pledgeDebt" "J", Cond.methodLink RX1 73 Lib.MathLoose.min_long.x, Cond.static Lib.MathLoose.min_long.x, Cond.code Lib.MathLoose.min_long.x Lib.MathLoose.min_long.code 4 (some .long)]
def wsL_sell_r3 : List Cond := [Cond.fieldLink RX1 41 "HarvestLender$Farmer" "grain" "I", Cond.fieldLink RX1 44 "HarvestLender$Farmer" "pledgedGrain" "I", Cond.methodLink RX1 96 yX1_freeGrain, Cond.instanceMethod yX1_freeGrain, Cond.selects RX1 yX1_freeGrain yX1_freeGrain, Cond.code yX1_freeGrain cX1_freeGrain 1 (some .int), Cond.methodLink RX1 91 yX1_receive, Cond.instanceMethod yX1_receive, Cond.selects RX1 yX1_receive yX1_receive, Cond.code yX1_receive cX1_receive 6 none, Cond.fieldLink RX1 19 "HarvestLender$Farmer" "debt" "J", Cond.fieldLink RX1 15 "HarvestLender$Farmer" "purse" "J", Cond.methodLink RX1 79 yX1_lowerDebt, Cond.instanceMethod yX1_lowerDebt, Cond.selects RX1 yX1_lowerDebt yX1_lowerDebt, Cond.code yX1_lowerDebt cX1_lowerDebt 4 none, Cond.fieldLink RX1 31 "HarvestLender$Farmer" "repaid" "[J", Cond.methodLink RX1 103 yX1_moveRestOfPledgeDebt, Cond.instanceMethod yX1_moveRestOfPledgeDebt, Cond.selects RX1 yX1_moveRestOfPledgeDebt yX1_moveRestOfPledgeDebt, Cond.code yX1_moveRestOfPledgeDebt cX1_moveRestOfPledgeDebt 1 none, Cond.methodLink RX1 69 yX1_charge, Cond.instanceMethod yX1_charge, Cond.selects RX1 yX1_charge yX1_charge]
def wsL_sell_r4 : List Cond := [Cond.code yX1_charge cX1_charge 3 none, Cond.fieldLink RX1 25 "HarvestLender$Farmer" "charged" "J"]
def wsL_sell : List Cond := .codeWith yL_sell cL_sell 5 (some .int) [(0, 10, 13, 13), (0, 10, 17, 15), (0, 10, 21, 24)] :: ((wsL_sell_r1 ++ (wsL_sell_r2 ++ (wsL_sell_r3 ++ wsL_sell_r4))) ++ wsX10 ++ wsX00 ++ wsX20 ++ (vx_atS RX2 41 "java/lang/IndexOutOfBoundsException" ["java/lang/RuntimeException", "java/lang/Exception"]).filter goodWord ++ (vx_atS RX2 179 "java/lang/IllegalArgumentException" ["java/lang/RuntimeException", "java/lang/Exception"]).filter goodWord ++ (vx_atS RX2 184 "java/lang/IllegalStateException" ["java/lang/RuntimeException", "java/lang/Exception"]).filter goodWord)
def wsL_repay_r1 : List Cond := [Cond.classLink RL 13 "java/lang/IndexOutOfBoundsException", Cond.classLink RL 15 "java/lang/IllegalArgumentException", Cond.classLink RL 24 "java/lang/IllegalStateException", Cond.methodLink RL 49 yX2_repay, Cond.instanceMethod yX2_repay, Cond.selects RX2 yX2_repay yX2_repay, Cond.initialized RX2, Cond.code yX2_repay cX2_repay 4 (some .int), Cond.constant RX2 95 (100000000), Cond.fieldLink RX2 128 "HarvestLender$Farmer" "debt" "J", Cond.fieldLink RX2 132 "HarvestLender$Farmer" "purse" "J", Cond.methodLink RX2 68 yX2_farmerAt, Cond.instanceMethod yX2_farmerAt, Cond.selects RX2 yX2_farmerAt yX2_farmerAt, Cond.code yX2_farmerAt cX2_farmerAt 2 (some (.object "HarvestLender$Farmer")), Cond.classLink RX2 37 "java/lang/IndexOutOfBoundsException", Cond.initialized "java/lang/IndexOutOfBoundsException", Cond.fieldLink RX2 21 "HarvestLender" "count" "I", Cond.fieldLink RX2 17 "HarvestLender" "rows" "[LHarvestLender$Farmer;", Cond.methodLink RX2 45 yX2_requireRange, Cond.static yX2_requireRange, Cond.code yX2_requireRange cX2_requireRange 3 none, Cond.classLink RX2 175 "java/lang/IllegalArgumentException", Cond.initialized "java/lang/IllegalArgumentException"]
def wsL_repay_r2 : List Cond := [Cond.methodLink RX2 61 yX2_requireState, Cond.static yX2_requireState, Cond.code yX2_requireState cX2_requireState 1 none, Cond.classLink RX2 180 "java/lang/IllegalStateException", Cond.initialized "java/lang/IllegalStateException", Cond.methodLink RX2 135 yX1_repayFromPurse, Cond.instanceMethod yX1_repayFromPurse, Cond.selects RX1 yX1_repayFromPurse yX1_repayFromPurse, Cond.initialized RX1, Cond.code yX1_repayFromPurse cX1_repayFromPurse 3 none, Cond.fieldLink RX1 15 "HarvestLender$Farmer" "purse" "J", Cond.methodLink RX1 79 yX1_lowerDebt, Cond.instanceMethod yX1_lowerDebt, Cond.selects RX1 yX1_lowerDebt yX1_lowerDebt, Cond.code yX1_lowerDebt cX1_lowerDebt 4 none, Cond.fieldLink RX1 19 "HarvestLender$Farmer" "debt" "J", Cond.fieldLink RX1 31 "HarvestLender$Farmer" "repaid" "[J"]
def wsL_repay : List Cond := .codeWith yL_repay cL_repay 5 (some .int) [(0, 10, 13, 13), (0, 10, 17, 15), (0, 10, 21, 24)] :: ((wsL_repay_r1 ++ wsL_repay_r2) ++ wsX10 ++ wsX20 ++ (vx_atS RX2 41 "java/lang/IndexOutOfBoundsException" ["java/lang/RuntimeException", "java/lang/Exception"]).filter goodWord ++ (vx_atS RX2 179 "java/lang/IllegalArgumentException" ["java/lang/RuntimeException", "java/lang/Exception"]).filter goodWord ++ (vx_atS RX2 184 "java/lang/IllegalStateException" ["java/lang/RuntimeException", "java/lang/Exception"]).filter goodWord)
def wsL_close_r1 : List Cond := [Cond.classLink RL 24 "java/lang/IllegalStateException", Cond.methodLink RL 52 yX2_close, Cond.instanceMethod yX2_close, Cond.selects RX2 yX2_close yX2_close, Cond.initialized RX2, Cond.code yX2_close cX2_close 2 (some .int), Cond.fieldLink RX2 28 "HarvestLender" "stage" "I", Cond.fieldLink RX2 25 "HarvestLender" "season" "I", Cond.fieldLink RX2 21 "HarvestLender" "count" "I", Cond.fieldLink RX2 17 "HarvestLender" "rows" "[LHarvestLender$Farmer;", Cond.methodLink RX2 61 yX2_requireState, Cond.static yX2_requireState, Cond.code yX2_requireState cX2_requireState 1 none, Cond.classLink RX2 180 "java/lang/IllegalStateException", Cond.initialized "java/lang/IllegalStateException", Cond.methodLink RX2 138 yX1_settleFromPurse, Cond.instanceMethod yX1_settleFromPurse, Cond.selects RX1 yX1_settleFromPurse yX1_settleFromPurse, Cond.initialized RX1, Cond.code yX1_settleFromPurse cX1_settleFromPurse 1 none, Cond.fieldLink RX1 28 "HarvestLender$Farmer" "called" "J", Cond.fieldLink RX1 19 "HarvestLender$Farmer" "debt" "J", Cond.fieldLink RX1 15 "HarvestLender$Farmer" "purse" "J", Cond.methodLink RX1 73 Lib.MathLoose.min_long.x]
def wsL_close_r2 : List Cond := [Cond.static Lib.MathLoose.min_long.x, Cond.initialized "java/lang/Math", Cond.code Lib.MathLoose.min_long.x Lib.MathLoose.min_long.code 4 (some .long), Cond.methodLink RX1 106 yX1_takeInstalment, Cond.instanceMethod yX1_takeInstalment, Cond.selects RX1 yX1_takeInstalment yX1_takeInstalment, Cond.code yX1_takeInstalment cX1_takeInstalment 2 (some .long), Cond.fieldLink RX1 38 "HarvestLender$Farmer" "instalmentsLeft" "I", Cond.fieldLink RX1 35 "HarvestLender$Farmer" "instalments" "[J", Cond.methodLink RX1 110 yX1_repayFromPurse, Cond.instanceMethod yX1_repayFromPurse, Cond.selects RX1 yX1_repayFromPurse yX1_repayFromPurse, Cond.code yX1_repayFromPurse cX1_repayFromPurse 3 none, Cond.methodLink RX1 79 yX1_lowerDebt, Cond.instanceMethod yX1_lowerDebt, Cond.selects RX1 yX1_lowerDebt yX1_lowerDebt, Cond.code yX1_lowerDebt cX1_lowerDebt 4 none, Cond.fieldLink RX1 31 "HarvestLender$Farmer" "repaid" "[J", Cond.methodLink RX2 141 yX2_settleRest, Cond.instanceMethod yX2_settleRest, Cond.selects RX2 yX2_settleRest yX2_settleRest, Cond.code yX2_settleRest cX2_settleRest 2 none, Cond.fieldLink RX2 128 "HarvestLender$Farmer" "debt" "J", Cond.methodLink RX2 189 yX1_mayRoll]
def wsL_close_r3 : List Cond := [Cond.instanceMethod yX1_mayRoll, Cond.selects RX1 yX1_mayRoll yX1_mayRoll, Cond.code yX1_mayRoll cX1_mayRoll 1 (some .boolean), Cond.fieldLink RX1 59 "HarvestLender$Farmer" "yieldPercent" "I", Cond.methodLink RX1 113 yX1_hasPlanted, Cond.instanceMethod yX1_hasPlanted, Cond.selects RX1 yX1_hasPlanted yX1_hasPlanted, Cond.code yX1_hasPlanted cX1_hasPlanted 1 (some .boolean), Cond.fieldLink RX1 50 "HarvestLender$Farmer" "plantedCrop" "I", Cond.methodLink RX2 192 yX1_rollDebt, Cond.instanceMethod yX1_rollDebt, Cond.selects RX1 yX1_rollDebt yX1_rollDebt, Cond.code yX1_rollDebt cX1_rollDebt 4 none, Cond.constantLong RX1 117 (3), Cond.constantLong RX1 65 (2), Cond.methodLink RX2 195 yX2_collectFromGroup, Cond.instanceMethod yX2_collectFromGroup, Cond.selects RX2 yX2_collectFromGroup yX2_collectFromGroup, Cond.code yX2_collectFromGroup cX2_collectFromGroup 3 none, Cond.fieldLink RX2 65 "HarvestLender$Farmer" "group" "I", Cond.methodLink RX2 198 yX1_payFor, Cond.instanceMethod yX1_payFor, Cond.selects RX1 yX1_payFor yX1_payFor, Cond.code yX1_payFor cX1_payFor 4 none]
def wsL_close_r4 : List Cond := [Cond.constantLong RX1 119 (20000), Cond.methodLink RX2 145 yX1_forgetSeason, Cond.instanceMethod yX1_forgetSeason, Cond.selects RX1 yX1_forgetSeason yX1_forgetSeason, Cond.code yX1_forgetSeason cX1_forgetSeason 1 none, Cond.fieldLink RX1 53 "HarvestLender$Farmer" "hectares" "I", Cond.fieldLink RX1 56 "HarvestLender$Farmer" "coverPercent" "I", Cond.fieldLink RX1 62 "HarvestLender$Farmer" "drawn" "I"]
def wsL_close : List Cond := .codeWith yL_close cL_close 3 (some .int) [(0, 8, 11, 24)] :: ((wsL_close_r1 ++ (wsL_close_r2 ++ (wsL_close_r3 ++ wsL_close_r4))) ++ wsX20 ++ wsX10 ++ (vx_atS RX2 184 "java/lang/IllegalStateException" ["java/lang/RuntimeException", "java/lang/Exception"]).filter goodWord)
def wsL_limit_r1 : List Cond := [Cond.classLink RL 13 "java/lang/IndexOutOfBoundsException", Cond.methodLink RL 55 yX2_limit, Cond.instanceMethod yX2_limit, Cond.selects RX2 yX2_limit yX2_limit, Cond.initialized RX2, Cond.code yX2_limit cX2_limit 2 (some .int), Cond.methodLink RX2 68 yX2_farmerAt, Cond.instanceMethod yX2_farmerAt, Cond.selects RX2 yX2_farmerAt yX2_farmerAt, Cond.code yX2_farmerAt cX2_farmerAt 2 (some (.object "HarvestLender$Farmer")), Cond.classLink RX2 37 "java/lang/IndexOutOfBoundsException", Cond.initialized "java/lang/IndexOutOfBoundsException", Cond.fieldLink RX2 21 "HarvestLender" "count" "I", Cond.fieldLink RX2 17 "HarvestLender" "rows" "[LHarvestLender$Farmer;", Cond.methodLink RX2 96 yX2_limitOf, Cond.instanceMethod yX2_limitOf, Cond.selects RX2 yX2_limitOf yX2_limitOf, Cond.code yX2_limitOf cX2_limitOf 2 (some .int), Cond.fieldLink RX2 82 "HarvestLender$Farmer" "plantedCrop" "I", Cond.fieldLink RX2 28 "HarvestLender" "stage" "I", Cond.fieldLink RX2 85 "HarvestLender$Farmer" "hectares" "I", Cond.methodLink RX2 72 yX1_hasPlanted, Cond.instanceMethod yX1_hasPlanted, Cond.selects RX1 yX1_hasPlanted yX1_hasPlanted]
def wsL_limit_r2 : List Cond := [Cond.initialized RX1, Cond.code yX1_hasPlanted cX1_hasPlanted 1 (some .boolean), Cond.fieldLink RX1 50 "HarvestLender$Farmer" "plantedCrop" "I", Cond.methodLink RX2 33 yX2_cropAt, Cond.instanceMethod yX2_cropAt, Cond.selects RX2 yX2_cropAt yX2_cropAt, Cond.code yX2_cropAt cX2_cropAt 2 (some (.object "HarvestLender$Crop")), Cond.fieldLink RX2 11 "HarvestLender" "crops" "[LHarvestLender$Crop;", Cond.methodLink RX2 88 yX0_needUpTo, Cond.instanceMethod yX0_needUpTo, Cond.selects RX0 yX0_needUpTo yX0_needUpTo, Cond.initialized RX0, Cond.code yX0_needUpTo cX0_needUpTo 4 (some .int), Cond.fieldLink RX0 9 "HarvestLender$Crop" "needs" "[I"]
def wsL_limit : List Cond := .codeWith yL_limit cL_limit 4 (some .int) [(0, 9, 12, 13)] :: ((wsL_limit_r1 ++ wsL_limit_r2) ++ wsX20 ++ wsX10 ++ wsX00 ++ (vx_atS RX2 41 "java/lang/IndexOutOfBoundsException" ["java/lang/RuntimeException", "java/lang/Exception"]).filter goodWord)
def wsL_debt : List Cond := .codeWith yL_debt cL_debt 4 (some .int) [(0, 9, 12, 13)] :: ([.classLink RL 13 "java/lang/IndexOutOfBoundsException", .methodLink RL 58 yX2_debt, .instanceMethod yX2_debt, .selects RX2 yX2_debt yX2_debt, .initialized RX2, .code yX2_debt cX2_debt 2 (some .int), .fieldLink RX2 128 "HarvestLender$Farmer" "debt" "J", .methodLink RX2 68 yX2_farmerAt, .instanceMethod yX2_farmerAt, .selects RX2 yX2_farmerAt yX2_farmerAt, .code yX2_farmerAt cX2_farmerAt 2 (some (.object "HarvestLender$Farmer")), .classLink RX2 37 "java/lang/IndexOutOfBoundsException", .initialized "java/lang/IndexOutOfBoundsException", .fieldLink RX2 21 "HarvestLender" "count" "I", .fieldLink RX2 17 "HarvestLender" "rows" "[LHarvestLender$Farmer;"] ++ wsX10 ++ wsX20 ++ (vx_atS RX2 41 "java/lang/IndexOutOfBoundsException" ["java/lang/RuntimeException", "java/lang/Exception"]).filter goodWord)
def wsL_owes : List Cond := .codeWith yL_owes cL_owes 4 (some .int) [(0, 9, 12, 13)] :: ([.classLink RL 13 "java/lang/IndexOutOfBoundsException", .methodLink RL 61 yX2_owes, .instanceMethod yX2_owes, .selects RX2 yX2_owes yX2_owes, .initialized RX2, .code yX2_owes cX2_owes 3 (some .int), .fieldLink RX2 128 "HarvestLender$Farmer" "debt" "J", .fieldLink RX2 148 "HarvestLender$Farmer" "pledgeDebt" "J", .methodLink RX2 68 yX2_farmerAt, .instanceMethod yX2_farmerAt, .selects RX2 yX2_farmerAt yX2_farmerAt, .code yX2_farmerAt cX2_farmerAt 2 (some (.object "HarvestLender$Farmer")), .classLink RX2 37 "java/lang/IndexOutOfBoundsException", .initialized "java/lang/IndexOutOfBoundsException", .fieldLink RX2 21 "HarvestLender" "count" "I", .fieldLink RX2 17 "HarvestLender" "rows" "[LHarvestLender$Farmer;", .methodLink RX2 151 yX1_instalmentSum, .instanceMethod yX1_instalmentSum, .selects RX1 yX1_instalmentSum yX1_instalmentSum, .initialized RX1, .code yX1_instalmentSum cX1_instalmentSum 4 (some .long), .fieldLink RX1 38 "HarvestLender$Farmer" "instalmentsLeft" "I", .fieldLink RX1 35 "HarvestLender$Farmer" "instalments" "[J"] ++ wsX10 ++ wsX20 ++ (vx_atS RX2 41 "java/lang/IndexOutOfBoundsException" ["java/lang/RuntimeException", "java/lang/Exception"]).filter goodWord)
def wsL_instalments : List Cond := .codeWith yL_instalments cL_instalments 4 (some .int) [(0, 9, 12, 13)] :: ([.classLink RL 13 "java/lang/IndexOutOfBoundsException", .methodLink RL 64 yX2_instalments, .instanceMethod yX2_instalments, .selects RX2 yX2_instalments yX2_instalments, .initialized RX2, .code yX2_instalments cX2_instalments 2 (some .int), .fieldLink RX2 155 "HarvestLender$Farmer" "instalmentsLeft" "I", .methodLink RX2 68 yX2_farmerAt, .instanceMethod yX2_farmerAt, .selects RX2 yX2_farmerAt yX2_farmerAt, .code yX2_farmerAt cX2_farmerAt 2 (some (.object "HarvestLender$Farmer")), .classLink RX2 37 "java/lang/IndexOutOfBoundsException", .initialized "java/lang/IndexOutOfBoundsException", .fieldLink RX2 21 "HarvestLender" "count" "I", .fieldLink RX2 17 "HarvestLender" "rows" "[LHarvestLender$Farmer;"] ++ wsX10 ++ wsX20 ++ (vx_atS RX2 41 "java/lang/IndexOutOfBoundsException" ["java/lang/RuntimeException", "java/lang/Exception"]).filter goodWord)
def wsL_purse : List Cond := .codeWith yL_purse cL_purse 4 (some .int) [(0, 9, 12, 13)] :: ([.classLink RL 13 "java/lang/IndexOutOfBoundsException", .methodLink RL 67 yX2_purse, .instanceMethod yX2_purse, .selects RX2 yX2_purse yX2_purse, .initialized RX2, .code yX2_purse cX2_purse 2 (some .int), .fieldLink RX2 132 "HarvestLender$Farmer" "purse" "J", .methodLink RX2 68 yX2_farmerAt, .instanceMethod yX2_farmerAt, .selects RX2 yX2_farmerAt yX2_farmerAt, .code yX2_farmerAt cX2_farmerAt 2 (some (.object "HarvestLender$Farmer")), .classLink RX2 37 "java/lang/IndexOutOfBoundsException", .initialized "java/lang/IndexOutOfBoundsException", .fieldLink RX2 21 "HarvestLender" "count" "I", .fieldLink RX2 17 "HarvestLender" "rows" "[LHarvestLender$Farmer;"] ++ wsX10 ++ wsX20 ++ (vx_atS RX2 41 "java/lang/IndexOutOfBoundsException" ["java/lang/RuntimeException", "java/lang/Exception"]).filter goodWord)
def wsL_grain : List Cond := .codeWith yL_grain cL_grain 5 (some .int) [(0, 10, 13, 13)] :: ([.classLink RL 13 "java/lang/IndexOutOfBoundsException", .methodLink RL 70 yX2_grain, .instanceMethod yX2_grain, .selects RX2 yX2_grain yX2_grain, .initialized RX2, .code yX2_grain cX2_grain 4 (some .int), .fieldLink RX2 158 "HarvestLender$Farmer" "pledgedGrain" "I", .fieldLink RX2 76 "HarvestLender$Farmer" "grain" "I", .methodLink RX2 68 yX2_farmerAt, .instanceMethod yX2_farmerAt, .selects RX2 yX2_farmerAt yX2_farmerAt, .code yX2_farmerAt cX2_farmerAt 2 (some (.object "HarvestLender$Farmer")), .classLink RX2 37 "java/lang/IndexOutOfBoundsException", .initialized "java/lang/IndexOutOfBoundsException", .fieldLink RX2 21 "HarvestLender" "count" "I", .fieldLink RX2 17 "HarvestLender" "rows" "[LHarvestLender$Farmer;"] ++ wsX10 ++ wsX20 ++ (vx_atS RX2 41 "java/lang/IndexOutOfBoundsException" ["java/lang/RuntimeException", "java/lang/Exception"]).filter goodWord)
def wsL_called : List Cond := .codeWith yL_called cL_called 4 (some .int) [(0, 9, 12, 13)] :: ([.classLink RL 13 "java/lang/IndexOutOfBoundsException", .methodLink RL 74 yX2_called, .instanceMethod yX2_called, .selects RX2 yX2_called yX2_called, .initialized RX2, .code yX2_called cX2_called 2 (some .int), .fieldLink RX2 161 "HarvestLender$Farmer" "called" "J", .methodLink RX2 68 yX2_farmerAt, .instanceMethod yX2_farmerAt, .selects RX2 yX2_farmerAt yX2_farmerAt, .code yX2_farmerAt cX2_farmerAt 2 (some (.object "HarvestLender$Farmer")), .classLink RX2 37 "java/lang/IndexOutOfBoundsException", .initialized "java/lang/IndexOutOfBoundsException", .fieldLink RX2 21 "HarvestLender" "count" "I", .fieldLink RX2 17 "HarvestLender" "rows" "[LHarvestLender$Farmer;"] ++ wsX10 ++ wsX20 ++ (vx_atS RX2 41 "java/lang/IndexOutOfBoundsException" ["java/lang/RuntimeException", "java/lang/Exception"]).filter goodWord)
def wsL_repaid : List Cond := .codeWith yL_repaid cL_repaid 5 (some .int) [(0, 10, 13, 13), (0, 10, 17, 15)] :: ([.classLink RL 13 "java/lang/IndexOutOfBoundsException", .classLink RL 15 "java/lang/IllegalArgumentException", .methodLink RL 77 yX2_repaid, .instanceMethod yX2_repaid, .selects RX2 yX2_repaid yX2_repaid, .initialized RX2, .code yX2_repaid cX2_repaid 4 (some .int), .fieldLink RX2 164 "HarvestLender$Farmer" "repaid" "[J", .methodLink RX2 68 yX2_farmerAt, .instanceMethod yX2_farmerAt, .selects RX2 yX2_farmerAt yX2_farmerAt, .code yX2_farmerAt cX2_farmerAt 2 (some (.object "HarvestLender$Farmer")), .classLink RX2 37 "java/lang/IndexOutOfBoundsException", .initialized "java/lang/IndexOutOfBoundsException", .fieldLink RX2 21 "HarvestLender" "count" "I", .fieldLink RX2 17 "HarvestLender" "rows" "[LHarvestLender$Farmer;", .methodLink RX2 45 yX2_requireRange, .static yX2_requireRange, .code yX2_requireRange cX2_requireRange 3 none, .classLink RX2 175 "java/lang/IllegalArgumentException", .initialized "java/lang/IllegalArgumentException"] ++ wsX10 ++ wsX20 ++ (vx_atS RX2 41 "java/lang/IndexOutOfBoundsException" ["java/lang/RuntimeException", "java/lang/Exception"]).filter goodWord ++ (vx_atS RX2 179 "java/lang/IllegalArgumentException" ["java/lang/RuntimeException", "java/lang/Exception"]).filter goodWord)
def wsL_charged : List Cond := .codeWith yL_charged cL_charged 4 (some .int) [(0, 9, 12, 13)] :: ([.classLink RL 13 "java/lang/IndexOutOfBoundsException", .methodLink RL 80 yX2_charged, .instanceMethod yX2_charged, .selects RX2 yX2_charged yX2_charged, .initialized RX2, .code yX2_charged cX2_charged 2 (some .int), .fieldLink RX2 168 "HarvestLender$Farmer" "charged" "J", .methodLink RX2 68 yX2_farmerAt, .instanceMethod yX2_farmerAt, .selects RX2 yX2_farmerAt yX2_farmerAt, .code yX2_farmerAt cX2_farmerAt 2 (some (.object "HarvestLender$Farmer")), .classLink RX2 37 "java/lang/IndexOutOfBoundsException", .initialized "java/lang/IndexOutOfBoundsException", .fieldLink RX2 21 "HarvestLender" "count" "I", .fieldLink RX2 17 "HarvestLender" "rows" "[LHarvestLender$Farmer;"] ++ wsX10 ++ wsX20 ++ (vx_atS RX2 41 "java/lang/IndexOutOfBoundsException" ["java/lang/RuntimeException", "java/lang/Exception"]).filter goodWord)
def wsL_law0_r1 : List Cond := [Cond.classLink RL 8 RX2, Cond.instantiable RX2 5, Cond.initialized RX2, Cond.classLink RL 84 RX3, Cond.instantiable RX3 24, Cond.initialized RX3, Cond.arrayClass .long, Cond.methodLink RL 83 yX2_init, Cond.instanceMethod yX2_init, Cond.code yX2_init cX2_init 2 none, Cond.methodLink RX2 1 objectInit, Cond.instanceMethod objectInit, Cond.code objectInit ⟨#[0xb1]⟩ 1 none, Cond.classLink RX2 9 RX0, Cond.fieldLink RX2 11 "HarvestLender" "crops" "[LHarvestLender$Crop;", Cond.classLink RX2 15 RX1, Cond.fieldLink RX2 17 "HarvestLender" "rows" "[LHarvestLender$Farmer;", Cond.fieldLink RX2 21 "HarvestLender" "count" "I", Cond.fieldLink RX2 25 "HarvestLender" "season" "I", Cond.fieldLink RX2 28 "HarvestLender" "stage" "I", Cond.instantiable RX0 3, Cond.initialized RX0, Cond.instantiable RX1 17, Cond.initialized RX1]
def wsL_law0_r2 : List Cond := [Cond.methodLink RX2 31 yX0_init, Cond.instanceMethod yX0_init, Cond.code yX0_init cX0_init 2 none, Cond.methodLink RX0 3 objectInit, Cond.arrayClass .int, Cond.fieldLink RX0 9 "HarvestLender$Crop" "needs" "[I", Cond.fieldLink RX0 15 "HarvestLender$Crop" "price" "I", Cond.fieldLink RX0 19 "HarvestLender$Crop" "normal" "I", Cond.instanceMethod yX1_init, Cond.code yX1_init cX1_init 1 none, Cond.methodLink RX1 3 objectInit, Cond.fieldLink RX1 9 "HarvestLender$Farmer" "group" "I", Cond.fieldLink RX1 15 "HarvestLender$Farmer" "purse" "J", Cond.fieldLink RX1 19 "HarvestLender$Farmer" "debt" "J", Cond.fieldLink RX1 22 "HarvestLender$Farmer" "pledgeDebt" "J", Cond.fieldLink RX1 25 "HarvestLender$Farmer" "charged" "J", Cond.fieldLink RX1 28 "HarvestLender$Farmer" "called" "J", Cond.fieldLink RX1 31 "HarvestLender$Farmer" "repaid" "[J", Cond.fieldLink RX1 35 "HarvestLender$Farmer" "instalments" "[J", Cond.fieldLink RX1 38 "HarvestLender$Farmer" "instalmentsLeft" "I", Cond.fieldLink RX1 41 "HarvestLender$Farmer" "grain" "I", Cond.fieldLink RX1 44 "HarvestLender$Farmer" "pledgedGrain" "I", Cond.fieldLink RX1 47 "HarvestLender$Farmer" "grainCrop" "I", Cond.fieldLink RX1 50 "HarvestLender$Farmer" "plantedCrop" "I"]
def wsL_law0_r3 : List Cond := [Cond.fieldLink RX1 53 "HarvestLender$Farmer" "hectares" "I", Cond.fieldLink RX1 56 "HarvestLender$Farmer" "coverPercent" "I", Cond.fieldLink RX1 59 "HarvestLender$Farmer" "yieldPercent" "I", Cond.fieldLink RX1 62 "HarvestLender$Farmer" "drawn" "I", Cond.methodLink RL 86 yX3_init, Cond.instanceMethod yX3_init, Cond.code yX3_init cX3_init 2 none, Cond.methodLink RX3 1 objectInit, Cond.fieldLink RX3 7 "HarvestLenderModel" "needs" "[I", Cond.fieldLink RX3 13 "HarvestLenderModel" "prices" "[I", Cond.fieldLink RX3 16 "HarvestLenderModel" "normals" "[I", Cond.fieldLink RX3 19 "HarvestLenderModel" "groups" "[I", Cond.fieldLink RX3 22 "HarvestLenderModel" "purses" "[I", Cond.fieldLink RX3 25 "HarvestLenderModel" "debts" "[I", Cond.fieldLink RX3 28 "HarvestLenderModel" "grainCrops" "[I", Cond.fieldLink RX3 31 "HarvestLenderModel" "grains" "[I", Cond.fieldLink RX3 34 "HarvestLenderModel" "pledged" "[I", Cond.fieldLink RX3 37 "HarvestLenderModel" "pledgeDebts" "[I", Cond.fieldLink RX3 40 "HarvestLenderModel" "rows" "[I", Cond.fieldLink RX3 43 "HarvestLenderModel" "parts" "[I", Cond.fieldLink RX3 46 "HarvestLenderModel" "crops" "[I", Cond.fieldLink RX3 49 "HarvestLenderModel" "hectares" "[I", Cond.fieldLink RX3 52 "HarvestLenderModel" "drawn" "[I", Cond.fieldLink RX3 55 "HarvestLenderModel" "covers" "[I"]
def wsL_law0_r4 : List Cond := [Cond.fieldLink RX3 58 "HarvestLenderModel" "yields" "[I", Cond.fieldLink RX3 61 "HarvestLenderModel" "calls" "[I", Cond.fieldLink RX3 64 "HarvestLenderModel" "repaidOf" "[I", Cond.fieldLink RX3 67 "HarvestLenderModel" "charges" "[I", Cond.methodLink RL 87 yL_setNeed, Cond.static yL_setNeed, Cond.initialized RL, Cond.codeWith yL_setNeed cL_setNeed 6 (some .int) [(0, 12, 15, 13), (0, 12, 19, 15)], Cond.classLink RL 13 "java/lang/IndexOutOfBoundsException", Cond.classLink RL 15 "java/lang/IllegalArgumentException", Cond.methodLink RL 7 yX2_setNeed, Cond.instanceMethod yX2_setNeed, Cond.selects RX2 yX2_setNeed yX2_setNeed, Cond.code yX2_setNeed cX2_setNeed 6 (some .int), Cond.classLink RX2 37 "java/lang/IndexOutOfBoundsException", Cond.initialized "java/lang/IndexOutOfBoundsException", Cond.constant RX2 44 (100000), Cond.fieldLink RX2 49 "HarvestLender$Crop" "needs" "[I", Cond.methodLink RX2 33 yX2_cropAt, Cond.instanceMethod yX2_cropAt, Cond.selects RX2 yX2_cropAt yX2_cropAt, Cond.code yX2_cropAt cX2_cropAt 2 (some (.object "HarvestLender$Crop")), Cond.methodLink RX2 45 yX2_requireRange, Cond.static yX2_requireRange]
def wsL_law0_r5 : List Cond := [Cond.code yX2_requireRange cX2_requireRange 3 none, Cond.classLink RX2 175 "java/lang/IllegalArgumentException", Cond.initialized "java/lang/IllegalArgumentException", Cond.methodLink RL 92 yX3_setNeed, Cond.instanceMethod yX3_setNeed, Cond.selects RX3 yX3_setNeed yX3_setNeed, Cond.code yX3_setNeed cX3_setNeed 6 (some .int), Cond.constant RX3 85 (100000), Cond.methodLink RX3 81 yX3_isCrop, Cond.static yX3_isCrop, Cond.code yX3_isCrop cX3_isCrop 1 (some .boolean), Cond.methodLink RX3 74 yX3_in, Cond.static yX3_in, Cond.code yX3_in cX3_in 3 (some .boolean), Cond.methodLink RX3 86 yX3_refused, Cond.instanceMethod yX3_refused, Cond.selects RX3 yX3_refused yX3_refused, Cond.code yX3_refused cX3_refused 2 (some .boolean), Cond.fieldLink RX3 70 "HarvestLenderModel" "refusal" "I", Cond.methodLink RL 93 yX3_thrown, Cond.instanceMethod yX3_thrown, Cond.selects RX3 yX3_thrown yX3_thrown, Cond.code yX3_thrown cX3_thrown 1 (some .int), Cond.methodLink RL 96 yL_setCrop]
def wsL_law0_r6 : List Cond := [Cond.static yL_setCrop, Cond.codeWith yL_setCrop cL_setCrop 6 (some .int) [(0, 12, 15, 13), (0, 12, 19, 15)], Cond.methodLink RL 17 yX2_setCrop, Cond.instanceMethod yX2_setCrop, Cond.selects RX2 yX2_setCrop yX2_setCrop, Cond.code yX2_setCrop cX2_setCrop 6 (some .int), Cond.fieldLink RX2 53 "HarvestLender$Crop" "price" "I", Cond.fieldLink RX2 56 "HarvestLender$Crop" "normal" "I", Cond.methodLink RL 98 yX3_setCrop, Cond.instanceMethod yX3_setCrop, Cond.selects RX3 yX3_setCrop yX3_setCrop, Cond.code yX3_setCrop cX3_setCrop 5 (some .int), Cond.methodLink RL 99 yL_add, Cond.static yL_add, Cond.codeWith yL_add cL_add 4 (some .int) [(0, 9, 12, 13), (0, 9, 15, 24)], Cond.classLink RL 24 "java/lang/IllegalStateException", Cond.methodLink RL 20 yX2_add, Cond.instanceMethod yX2_add, Cond.selects RX2 yX2_add yX2_add, Cond.code yX2_add cX2_add 3 (some .int), Cond.fieldLink RX2 65 "HarvestLender$Farmer" "group" "I", Cond.methodLink RX2 61 yX2_requireState, Cond.static yX2_requireState, Cond.code yX2_requireState cX2_requireState 1 none]
def wsL_law0_r7 : List Cond := [Cond.classLink RX2 180 "java/lang/IllegalStateException", Cond.initialized "java/lang/IllegalStateException", Cond.methodLink RL 102 yX3_add, Cond.instanceMethod yX3_add, Cond.selects RX3 yX3_add yX3_add, Cond.code yX3_add cX3_add 2 (some .int), Cond.fieldLink RX3 78 "HarvestLenderModel" "farmers" "I", Cond.methodLink RX3 89 yX3_clear, Cond.instanceMethod yX3_clear, Cond.selects RX3 yX3_clear yX3_clear, Cond.code yX3_clear cX3_clear 2 none, Cond.methodLink RL 103 yX2_farmers, Cond.instanceMethod yX2_farmers, Cond.selects RX2 yX2_farmers yX2_farmers, Cond.code yX2_farmers cX2_farmers 1 (some .int), Cond.methodLink RL 106 yX3_farmers, Cond.instanceMethod yX3_farmers, Cond.selects RX3 yX3_farmers yX3_farmers, Cond.code yX3_farmers cX3_farmers 1 (some .int), Cond.methodLink RX3 93 yX3_fine, Cond.instanceMethod yX3_fine, Cond.selects RX3 yX3_fine yX3_fine, Cond.code yX3_fine cX3_fine 2 (some .int), Cond.methodLink RL 107 yL_plant]
def wsL_law0_r8 : List Cond := [Cond.static yL_plant, Cond.codeWith yL_plant cL_plant 6 (some .int) [(0, 12, 15, 13), (0, 12, 19, 15), (0, 12, 23, 24)], Cond.methodLink RL 26 yX2_plant, Cond.instanceMethod yX2_plant, Cond.selects RX2 yX2_plant yX2_plant, Cond.code yX2_plant cX2_plant 6 (some .int), Cond.fieldLink RX2 76 "HarvestLender$Farmer" "grain" "I", Cond.fieldLink RX2 79 "HarvestLender$Farmer" "grainCrop" "I", Cond.fieldLink RX2 82 "HarvestLender$Farmer" "plantedCrop" "I", Cond.fieldLink RX2 85 "HarvestLender$Farmer" "hectares" "I", Cond.methodLink RX2 68 yX2_farmerAt, Cond.instanceMethod yX2_farmerAt, Cond.selects RX2 yX2_farmerAt yX2_farmerAt, Cond.code yX2_farmerAt cX2_farmerAt 2 (some (.object "HarvestLender$Farmer")), Cond.methodLink RX2 72 yX1_hasPlanted, Cond.instanceMethod yX1_hasPlanted, Cond.selects RX1 yX1_hasPlanted yX1_hasPlanted, Cond.code yX1_hasPlanted cX1_hasPlanted 1 (some .boolean), Cond.methodLink RX2 88 yX0_needUpTo, Cond.instanceMethod yX0_needUpTo, Cond.selects RX0 yX0_needUpTo yX0_needUpTo, Cond.code yX0_needUpTo cX0_needUpTo 4 (some .int), Cond.methodLink RL 109 yX3_plant, Cond.instanceMethod yX3_plant]
def wsL_law0_r9 : List Cond := [Cond.selects RX3 yX3_plant yX3_plant, Cond.code yX3_plant cX3_plant 6 (some .int), Cond.fieldLink RX3 101 "HarvestLenderModel" "stage" "I", Cond.methodLink RX3 104 yX3_isFarmer, Cond.instanceMethod yX3_isFarmer, Cond.selects RX3 yX3_isFarmer yX3_isFarmer, Cond.code yX3_isFarmer cX3_isFarmer 2 (some .boolean), Cond.methodLink RX3 107 yX3_limitOf, Cond.instanceMethod yX3_limitOf, Cond.selects RX3 yX3_limitOf yX3_limitOf, Cond.code yX3_limitOf cX3_limitOf 4 (some .int), Cond.methodLink RL 110 yL_cover, Cond.static yL_cover, Cond.codeWith yL_cover cL_cover 5 (some .int) [(0, 10, 13, 13), (0, 10, 17, 15), (0, 10, 21, 24)], Cond.methodLink RL 29 yX2_cover, Cond.instanceMethod yX2_cover, Cond.selects RX2 yX2_cover yX2_cover, Cond.code yX2_cover cX2_cover 5 (some .int), Cond.fieldLink RX2 92 "HarvestLender$Farmer" "coverPercent" "I", Cond.methodLink RL 113 yX3_cover, Cond.instanceMethod yX3_cover, Cond.selects RX3 yX3_cover yX3_cover, Cond.code yX3_cover cX3_cover 5 (some .int), Cond.methodLink RL 114 yL_draw]
def wsL_law0_r10 : List Cond := [Cond.static yL_draw, Cond.codeWith yL_draw cL_draw 5 (some .int) [(0, 10, 13, 13), (0, 10, 17, 15), (0, 10, 21, 24)], Cond.methodLink RL 33 yX2_draw, Cond.instanceMethod yX2_draw, Cond.selects RX2 yX2_draw yX2_draw, Cond.code yX2_draw cX2_draw 5 (some .int), Cond.constant RX2 95 (100000000), Cond.fieldLink RX2 100 "HarvestLender$Farmer" "drawn" "I", Cond.methodLink RX2 96 yX2_limitOf, Cond.instanceMethod yX2_limitOf, Cond.selects RX2 yX2_limitOf yX2_limitOf, Cond.code yX2_limitOf cX2_limitOf 2 (some .int), Cond.methodLink RX2 103 yX1_charge, Cond.instanceMethod yX1_charge, Cond.selects RX1 yX1_charge yX1_charge, Cond.code yX1_charge cX1_charge 3 none, Cond.methodLink RL 116 yX3_draw, Cond.instanceMethod yX3_draw, Cond.selects RX3 yX3_draw yX3_draw, Cond.code yX3_draw cX3_draw 5 (some .int), Cond.constant RX3 110 (100000000), Cond.methodLink RX3 111 yX3_charge, Cond.instanceMethod yX3_charge, Cond.selects RX3 yX3_charge yX3_charge]
def wsL_law0_r11 : List Cond := [Cond.code yX3_charge cX3_charge 3 none, Cond.methodLink RL 117 yL_setYield, Cond.static yL_setYield, Cond.codeWith yL_setYield cL_setYield 5 (some .int) [(0, 10, 13, 13), (0, 10, 17, 15), (0, 10, 21, 24)], Cond.methodLink RL 36 yX2_setYield, Cond.instanceMethod yX2_setYield, Cond.selects RX2 yX2_setYield yX2_setYield, Cond.code yX2_setYield cX2_setYield 5 (some .int), Cond.fieldLink RX2 107 "HarvestLender$Farmer" "yieldPercent" "I", Cond.methodLink RL 119 yX3_setYield, Cond.instanceMethod yX3_setYield, Cond.selects RX3 yX3_setYield yX3_setYield, Cond.code yX3_setYield cX3_setYield 4 (some .int), Cond.methodLink RL 120 yL_next, Cond.static yL_next, Cond.codeWith yL_next cL_next 3 (some .int) [(0, 8, 11, 24)], Cond.methodLink RL 39 yX2_next, Cond.instanceMethod yX2_next, Cond.selects RX2 yX2_next yX2_next, Cond.code yX2_next cX2_next 2 (some .int), Cond.methodLink RX2 110 yX1_chargeInterest, Cond.instanceMethod yX1_chargeInterest, Cond.selects RX1 yX1_chargeInterest yX1_chargeInterest, Cond.code yX1_chargeInterest cX1_chargeInterest 1 none]
def wsL_law0_r12 : List Cond := [Cond.constantLong RX1 65 (2), Cond.constantLong RX1 67 (100), Cond.methodLink RX1 69 yX1_charge, Cond.methodLink RX2 113 yX2_harvestAll, Cond.instanceMethod yX2_harvestAll, Cond.selects RX2 yX2_harvestAll yX2_harvestAll, Cond.code yX2_harvestAll cX2_harvestAll 2 none, Cond.methodLink RX2 185 yX1_harvest, Cond.instanceMethod yX1_harvest, Cond.selects RX1 yX1_harvest yX1_harvest, Cond.code yX1_harvest cX1_harvest 5 none, Cond.fieldLink RX1 83 "HarvestLender$Crop" "normal" "I", Cond.fieldLink RX1 88 "HarvestLender$Crop" "price" "I", Cond.methodLink RX1 91 yX1_receive, Cond.instanceMethod yX1_receive, Cond.selects RX1 yX1_receive yX1_receive, Cond.code yX1_receive cX1_receive 6 none, Cond.methodLink RX1 73 Lib.MathLoose.min_long.x, Cond.static Lib.MathLoose.min_long.x, Cond.initialized "java/lang/Math", Cond.code Lib.MathLoose.min_long.x Lib.MathLoose.min_long.code 4 (some .long), Cond.methodLink RX1 79 yX1_lowerDebt, Cond.instanceMethod yX1_lowerDebt, Cond.selects RX1 yX1_lowerDebt yX1_lowerDebt]
def wsL_law0_r13 : List Cond := [Cond.code yX1_lowerDebt cX1_lowerDebt 4 none, Cond.methodLink RL 123 yX3_next, Cond.instanceMethod yX3_next, Cond.selects RX3 yX3_next yX3_next, Cond.code yX3_next cX3_next 2 (some .int), Cond.constantLong RX3 120 (2), Cond.constantLong RX3 115 (100), Cond.methodLink RX3 122 yX3_harvest, Cond.instanceMethod yX3_harvest, Cond.selects RX3 yX3_harvest yX3_harvest, Cond.code yX3_harvest cX3_harvest 4 none, Cond.methodLink RX3 117 yX3_come, Cond.instanceMethod yX3_come, Cond.selects RX3 yX3_come yX3_come, Cond.code yX3_come cX3_come 5 none, Cond.methodLink RX3 97 yX3_lower, Cond.instanceMethod yX3_lower, Cond.selects RX3 yX3_lower yX3_lower, Cond.code yX3_lower cX3_lower 4 none, Cond.methodLink RL 124 yL_pledge, Cond.static yL_pledge, Cond.codeWith yL_pledge cL_pledge 5 (some .int) [(0, 10, 13, 13), (0, 10, 17, 15), (0, 10, 21, 24)], Cond.methodLink RL 43 yX2_pledge, Cond.instanceMethod yX2_pledge]
def wsL_law0_r14 : List Cond := [Cond.selects RX2 yX2_pledge yX2_pledge, Cond.code yX2_pledge cX2_pledge 4 (some .int), Cond.constant RX2 116 (1000000), Cond.methodLink RX2 117 yX1_freeGrain, Cond.instanceMethod yX1_freeGrain, Cond.selects RX1 yX1_freeGrain yX1_freeGrain, Cond.code yX1_freeGrain cX1_freeGrain 1 (some .int), Cond.methodLink RX2 121 yX1_pledgeUnits, Cond.instanceMethod yX1_pledgeUnits, Cond.selects RX1 yX1_pledgeUnits yX1_pledgeUnits, Cond.code yX1_pledgeUnits cX1_pledgeUnits 5 (some .long), Cond.constantLong RX1 94 (60), Cond.methodLink RL 126 yX3_pledge, Cond.instanceMethod yX3_pledge, Cond.selects RX3 yX3_pledge yX3_pledge, Cond.code yX3_pledge cX3_pledge 6 (some .int), Cond.constant RX3 125 (1000000), Cond.constantLong RX3 126 (60), Cond.methodLink RL 127 yL_sell, Cond.static yL_sell, Cond.codeWith yL_sell cL_sell 5 (some .int) [(0, 10, 13, 13), (0, 10, 17, 15), (0, 10, 21, 24)], Cond.methodLink RL 46 yX2_sell, Cond.instanceMethod yX2_sell, Cond.selects RX2 yX2_sell yX2_sell]
def wsL_law0_r15 : List Cond := [Cond.code yX2_sell cX2_sell 4 (some .int), Cond.methodLink RX2 125 yX1_sellUnits, Cond.instanceMethod yX1_sellUnits, Cond.selects RX1 yX1_sellUnits yX1_sellUnits, Cond.code yX1_sellUnits cX1_sellUnits 9 (some .long), Cond.methodLink RX1 100 Lib.Math.min.name, Cond.static Lib.Math.min.name, Cond.code Lib.Math.min.name Lib.Math.min.code 2 (some .int), Cond.methodLink RX1 96 yX1_freeGrain, Cond.methodLink RX1 103 yX1_moveRestOfPledgeDebt, Cond.instanceMethod yX1_moveRestOfPledgeDebt, Cond.selects RX1 yX1_moveRestOfPledgeDebt yX1_moveRestOfPledgeDebt, Cond.code yX1_moveRestOfPledgeDebt cX1_moveRestOfPledgeDebt 1 none, Cond.methodLink RL 129 yX3_sell, Cond.instanceMethod yX3_sell, Cond.selects RX3 yX3_sell yX3_sell, Cond.code yX3_sell cX3_sell 9 (some .int), Cond.methodLink RL 130 yL_repay, Cond.static yL_repay, Cond.codeWith yL_repay cL_repay 5 (some .int) [(0, 10, 13, 13), (0, 10, 17, 15), (0, 10, 21, 24)], Cond.methodLink RL 49 yX2_repay, Cond.instanceMethod yX2_repay, Cond.selects RX2 yX2_repay yX2_repay, Cond.code yX2_repay cX2_repay 4 (some .int)]
def wsL_law0_r16 : List Cond := [Cond.fieldLink RX2 128 "HarvestLender$Farmer" "debt" "J", Cond.fieldLink RX2 132 "HarvestLender$Farmer" "purse" "J", Cond.methodLink RX2 135 yX1_repayFromPurse, Cond.instanceMethod yX1_repayFromPurse, Cond.selects RX1 yX1_repayFromPurse yX1_repayFromPurse, Cond.code yX1_repayFromPurse cX1_repayFromPurse 3 none, Cond.methodLink RL 132 yX3_repay, Cond.instanceMethod yX3_repay, Cond.selects RX3 yX3_repay yX3_repay, Cond.code yX3_repay cX3_repay 5 (some .int), Cond.methodLink RL 133 yL_close, Cond.static yL_close, Cond.codeWith yL_close cL_close 3 (some .int) [(0, 8, 11, 24)], Cond.methodLink RL 52 yX2_close, Cond.instanceMethod yX2_close, Cond.selects RX2 yX2_close yX2_close, Cond.code yX2_close cX2_close 2 (some .int), Cond.methodLink RX2 138 yX1_settleFromPurse, Cond.instanceMethod yX1_settleFromPurse, Cond.selects RX1 yX1_settleFromPurse yX1_settleFromPurse, Cond.code yX1_settleFromPurse cX1_settleFromPurse 1 none, Cond.methodLink RX1 106 yX1_takeInstalment, Cond.instanceMethod yX1_takeInstalment, Cond.selects RX1 yX1_takeInstalment yX1_takeInstalment]
def wsL_law0_r17 : List Cond := [Cond.code yX1_takeInstalment cX1_takeInstalment 2 (some .long), Cond.methodLink RX1 110 yX1_repayFromPurse, Cond.methodLink RX2 141 yX2_settleRest, Cond.instanceMethod yX2_settleRest, Cond.selects RX2 yX2_settleRest yX2_settleRest, Cond.code yX2_settleRest cX2_settleRest 2 none, Cond.methodLink RX2 189 yX1_mayRoll, Cond.instanceMethod yX1_mayRoll, Cond.selects RX1 yX1_mayRoll yX1_mayRoll, Cond.code yX1_mayRoll cX1_mayRoll 1 (some .boolean), Cond.methodLink RX1 113 yX1_hasPlanted, Cond.methodLink RX2 192 yX1_rollDebt, Cond.instanceMethod yX1_rollDebt, Cond.selects RX1 yX1_rollDebt yX1_rollDebt, Cond.code yX1_rollDebt cX1_rollDebt 4 none, Cond.constantLong RX1 117 (3), Cond.methodLink RX2 195 yX2_collectFromGroup, Cond.instanceMethod yX2_collectFromGroup, Cond.selects RX2 yX2_collectFromGroup yX2_collectFromGroup, Cond.code yX2_collectFromGroup cX2_collectFromGroup 3 none, Cond.methodLink RX2 198 yX1_payFor, Cond.instanceMethod yX1_payFor, Cond.selects RX1 yX1_payFor yX1_payFor, Cond.code yX1_payFor cX1_payFor 4 none]
def wsL_law0_r18 : List Cond := [Cond.constantLong RX1 119 (20000), Cond.methodLink RX2 145 yX1_forgetSeason, Cond.instanceMethod yX1_forgetSeason, Cond.selects RX1 yX1_forgetSeason yX1_forgetSeason, Cond.code yX1_forgetSeason cX1_forgetSeason 1 none, Cond.methodLink RL 135 yX3_close, Cond.instanceMethod yX3_close, Cond.selects RX3 yX3_close yX3_close, Cond.code yX3_close cX3_close 3 (some .int), Cond.fieldLink RX3 128 "HarvestLenderModel" "season" "I", Cond.methodLink RX3 131 yX3_settle, Cond.instanceMethod yX3_settle, Cond.selects RX3 yX3_settle yX3_settle, Cond.code yX3_settle cX3_settle 3 none, Cond.methodLink RX3 134 yX3_roll, Cond.instanceMethod yX3_roll, Cond.selects RX3 yX3_roll yX3_roll, Cond.code yX3_roll cX3_roll 3 none, Cond.methodLink RX3 137 yX3_call, Cond.instanceMethod yX3_call, Cond.selects RX3 yX3_call yX3_call, Cond.code yX3_call cX3_call 5 none, Cond.methodLink RL 136 yX2_season, Cond.instanceMethod yX2_season]
def wsL_law0_r19 : List Cond := [Cond.selects RX2 yX2_season yX2_season, Cond.code yX2_season cX2_season 1 (some .int), Cond.methodLink RL 139 yX3_season, Cond.instanceMethod yX3_season, Cond.selects RX3 yX3_season yX3_season, Cond.code yX3_season cX3_season 1 (some .int), Cond.methodLink RL 140 yX2_stage, Cond.instanceMethod yX2_stage, Cond.selects RX2 yX2_stage yX2_stage, Cond.code yX2_stage cX2_stage 1 (some .int), Cond.methodLink RL 143 yX3_stage, Cond.instanceMethod yX3_stage, Cond.selects RX3 yX3_stage yX3_stage, Cond.code yX3_stage cX3_stage 1 (some .int), Cond.methodLink RL 144 yL_limit, Cond.static yL_limit, Cond.codeWith yL_limit cL_limit 4 (some .int) [(0, 9, 12, 13)], Cond.methodLink RL 55 yX2_limit, Cond.instanceMethod yX2_limit, Cond.selects RX2 yX2_limit yX2_limit, Cond.code yX2_limit cX2_limit 2 (some .int), Cond.methodLink RL 146 yX3_limit, Cond.instanceMethod yX3_limit, Cond.selects RX3 yX3_limit yX3_limit]
def wsL_law0_r20 : List Cond := [Cond.code yX3_limit cX3_limit 2 (some .int), Cond.methodLink RX3 140 yX3_noFarmer, Cond.instanceMethod yX3_noFarmer, Cond.selects RX3 yX3_noFarmer yX3_noFarmer, Cond.code yX3_noFarmer cX3_noFarmer 2 (some .boolean), Cond.methodLink RL 147 yL_debt, Cond.static yL_debt, Cond.codeWith yL_debt cL_debt 4 (some .int) [(0, 9, 12, 13)], Cond.methodLink RL 58 yX2_debt, Cond.instanceMethod yX2_debt, Cond.selects RX2 yX2_debt yX2_debt, Cond.code yX2_debt cX2_debt 2 (some .int), Cond.methodLink RL 149 yX3_debt, Cond.instanceMethod yX3_debt, Cond.selects RX3 yX3_debt yX3_debt, Cond.code yX3_debt cX3_debt 2 (some .int), Cond.methodLink RL 150 yL_owes, Cond.static yL_owes, Cond.codeWith yL_owes cL_owes 4 (some .int) [(0, 9, 12, 13)], Cond.methodLink RL 61 yX2_owes, Cond.instanceMethod yX2_owes, Cond.selects RX2 yX2_owes yX2_owes, Cond.code yX2_owes cX2_owes 3 (some .int), Cond.fieldLink RX2 148 "HarvestLender$Farmer" "pledgeDebt" "J"]
def wsL_law0_r21 : List Cond := [Cond.methodLink RX2 151 yX1_instalmentSum, Cond.instanceMethod yX1_instalmentSum, Cond.selects RX1 yX1_instalmentSum yX1_instalmentSum, Cond.code yX1_instalmentSum cX1_instalmentSum 4 (some .long), Cond.methodLink RL 152 yX3_owes, Cond.instanceMethod yX3_owes, Cond.selects RX3 yX3_owes yX3_owes, Cond.code yX3_owes cX3_owes 4 (some .int), Cond.methodLink RL 153 yL_instalments, Cond.static yL_instalments, Cond.codeWith yL_instalments cL_instalments 4 (some .int) [(0, 9, 12, 13)], Cond.methodLink RL 64 yX2_instalments, Cond.instanceMethod yX2_instalments, Cond.selects RX2 yX2_instalments yX2_instalments, Cond.code yX2_instalments cX2_instalments 2 (some .int), Cond.fieldLink RX2 155 "HarvestLender$Farmer" "instalmentsLeft" "I", Cond.methodLink RL 155 yX3_instalments, Cond.instanceMethod yX3_instalments, Cond.selects RX3 yX3_instalments yX3_instalments, Cond.code yX3_instalments cX3_instalments 2 (some .int), Cond.methodLink RL 156 yL_purse, Cond.static yL_purse, Cond.codeWith yL_purse cL_purse 4 (some .int) [(0, 9, 12, 13)], Cond.methodLink RL 67 yX2_purse]
def wsL_law0_r22 : List Cond := [Cond.instanceMethod yX2_purse, Cond.selects RX2 yX2_purse yX2_purse, Cond.code yX2_purse cX2_purse 2 (some .int), Cond.methodLink RL 158 yX3_purse, Cond.instanceMethod yX3_purse, Cond.selects RX3 yX3_purse yX3_purse, Cond.code yX3_purse cX3_purse 2 (some .int), Cond.methodLink RL 159 yL_grain, Cond.static yL_grain, Cond.codeWith yL_grain cL_grain 5 (some .int) [(0, 10, 13, 13)], Cond.methodLink RL 70 yX2_grain, Cond.instanceMethod yX2_grain, Cond.selects RX2 yX2_grain yX2_grain, Cond.code yX2_grain cX2_grain 4 (some .int), Cond.fieldLink RX2 158 "HarvestLender$Farmer" "pledgedGrain" "I", Cond.methodLink RL 162 yX3_grain, Cond.instanceMethod yX3_grain, Cond.selects RX3 yX3_grain yX3_grain, Cond.code yX3_grain cX3_grain 3 (some .int), Cond.methodLink RL 163 yL_called, Cond.static yL_called, Cond.codeWith yL_called cL_called 4 (some .int) [(0, 9, 12, 13)], Cond.methodLink RL 74 yX2_called, Cond.instanceMethod yX2_called]
def wsL_law0_r23 : List Cond := [Cond.selects RX2 yX2_called yX2_called, Cond.code yX2_called cX2_called 2 (some .int), Cond.fieldLink RX2 161 "HarvestLender$Farmer" "called" "J", Cond.methodLink RL 165 yX3_called, Cond.instanceMethod yX3_called, Cond.selects RX3 yX3_called yX3_called, Cond.code yX3_called cX3_called 2 (some .int), Cond.methodLink RL 166 yL_repaid, Cond.static yL_repaid, Cond.codeWith yL_repaid cL_repaid 5 (some .int) [(0, 10, 13, 13), (0, 10, 17, 15)], Cond.methodLink RL 77 yX2_repaid, Cond.instanceMethod yX2_repaid, Cond.selects RX2 yX2_repaid yX2_repaid, Cond.code yX2_repaid cX2_repaid 4 (some .int), Cond.fieldLink RX2 164 "HarvestLender$Farmer" "repaid" "[J", Cond.methodLink RL 168 yX3_repaid, Cond.instanceMethod yX3_repaid, Cond.selects RX3 yX3_repaid yX3_repaid, Cond.code yX3_repaid cX3_repaid 3 (some .int), Cond.methodLink RL 169 yL_charged, Cond.static yL_charged, Cond.codeWith yL_charged cL_charged 4 (some .int) [(0, 9, 12, 13)], Cond.methodLink RL 80 yX2_charged, Cond.instanceMethod yX2_charged]
def wsL_law0_r24 : List Cond := [Cond.selects RX2 yX2_charged yX2_charged, Cond.code yX2_charged cX2_charged 2 (some .int), Cond.fieldLink RX2 168 "HarvestLender$Farmer" "charged" "J", Cond.methodLink RL 171 yX3_charged, Cond.instanceMethod yX3_charged, Cond.selects RX3 yX3_charged yX3_charged, Cond.code yX3_charged cX3_charged 2 (some .int)]
def wsL_law0 : List Cond := (wsL_law0_r1 ++ (wsL_law0_r2 ++ (wsL_law0_r3 ++ (wsL_law0_r4 ++ (wsL_law0_r5 ++ (wsL_law0_r6 ++ (wsL_law0_r7 ++ (wsL_law0_r8 ++ (wsL_law0_r9 ++ (wsL_law0_r10 ++ (wsL_law0_r11 ++ (wsL_law0_r12 ++ (wsL_law0_r13 ++ (wsL_law0_r14 ++ (wsL_law0_r15 ++ (wsL_law0_r16 ++ (wsL_law0_r17 ++ (wsL_law0_r18 ++ (wsL_law0_r19 ++ (wsL_law0_r20 ++ (wsL_law0_r21 ++ (wsL_law0_r22 ++ (wsL_law0_r23 ++ wsL_law0_r24))))))))))))))))))))))) ++ wsX20 ++ wsX30 ++ wsX00 ++ wsX10 ++ ([] : List Cond)
def wsL_law : List Cond := wsL_law0 ++ (vx_atS RX2 41 "java/lang/IndexOutOfBoundsException" ["java/lang/RuntimeException", "java/lang/Exception"]).filter goodWord ++ (vx_atS RX2 179 "java/lang/IllegalArgumentException" ["java/lang/RuntimeException", "java/lang/Exception"]).filter goodWord ++ (vx_atS RX2 184 "java/lang/IllegalStateException" ["java/lang/RuntimeException", "java/lang/Exception"]).filter goodWord
abbrev vwCl : List vw_C := [(RX0, TX0, 3), (RX1, TX1, 17), (RX2, TX2, 5), (RX3, TX3, 24)]
end
section
set_option maxRecDepth 100000 in
set_option maxHeartbeats 4000000 in
theorem wsL_in_r1 : ∀ w ∈ wsL_law0_r1, w ∈ lw_tbl := List.forall_mem_cons.mpr ⟨List.mem_of_getElem? (i := 32) (by decide +kernel), List.forall_mem_cons.mpr ⟨List.mem_of_getElem? (i := 33) (by decide +kernel), List.forall_mem_cons.mpr ⟨List.mem_of_getElem? (i := 21) (by decide +kernel), List.forall_mem_cons.mpr ⟨List.mem_of_getElem? (i := 544) (by decide +kernel), List.forall_mem_cons.mpr ⟨List.mem_of_getElem? (i := 545) (by decide +kernel), List.forall_mem_cons.mpr ⟨List.mem_of_getElem? (i := 24) (by decide +kernel), List.forall_mem_cons.mpr ⟨List.mem_of_getElem? (i := 138) (by decide +kernel), List.forall_mem_cons.mpr ⟨List.mem_of_getElem? (i := 34) (by decide +kernel), List.forall_mem_cons.mpr ⟨List.mem_of_getElem? (i := 35) (by decide +kernel), List.forall_mem_cons.mpr ⟨List.mem_of_getElem? (i := 36) rfl, List.forall_mem_cons.mpr ⟨List.mem_of_getElem? (i := 37) (by decide +kernel), List.forall_mem_cons.mpr ⟨List.mem_of_getElem? (i := 38) (by decide +kernel), List.forall_mem_cons.mpr ⟨List.mem_of_getElem? (i := 39) rfl, List.forall_mem_cons.mpr ⟨List.mem_of_getElem? (i := 40) (by decide +kernel), List.forall_mem_cons.mpr ⟨List.mem_of_getElem? (i := 139) (by decide +kernel), List.forall_mem_cons.mpr ⟨List.mem_of_getElem? (i := 42) (by decide +kernel), List.forall_mem_cons.mpr ⟨List.mem_of_getElem? (i := 140) (by decide +kernel), List.forall_mem_cons.mpr ⟨List.mem_of_getElem? (i := 141) (by decide +kernel), List.forall_mem_cons.mpr ⟨List.mem_of_getElem? (i := 142) (by decide +kernel), List.forall_mem_cons.mpr ⟨List.mem_of_getElem? (i := 143) (by decide +kernel), List.forall_mem_cons.mpr ⟨List.mem_of_getElem? (i := 44) (by decide +kernel), List.forall_mem_cons.mpr ⟨List.mem_of_getElem? (i := 22) (by decide +kernel), List.forall_mem_cons.mpr ⟨List.mem_of_getElem? (i := 65) (by decide +kernel), List.forall_mem_cons.mpr ⟨List.mem_of_getElem? (i := 23) (by decide +kernel), fun _ h => absurd h List.not_mem_nil⟩⟩⟩⟩⟩⟩⟩⟩⟩⟩⟩⟩⟩⟩⟩⟩⟩⟩⟩⟩⟩⟩⟩⟩
set_option maxRecDepth 100000 in
set_option maxHeartbeats 4000000 in
theorem wsL_in_r2 : ∀ w ∈ wsL_law0_r2, w ∈ lw_tbl := List.forall_mem_cons.mpr ⟨List.mem_of_getElem? (i := 45) (by decide +kernel), List.forall_mem_cons.mpr ⟨List.mem_of_getElem? (i := 46) (by decide +kernel), List.forall_mem_cons.mpr ⟨List.mem_of_getElem? (i := 47) rfl, List.forall_mem_cons.mpr ⟨List.mem_of_getElem? (i := 48) (by decide +kernel), List.forall_mem_cons.mpr ⟨List.mem_of_getElem? (i := 64) (by decide +kernel), List.forall_mem_cons.mpr ⟨List.mem_of_getElem? (i := 49) (by decide +kernel), List.forall_mem_cons.mpr ⟨List.mem_of_getElem? (i := 51) (by decide +kernel), List.forall_mem_cons.mpr ⟨List.mem_of_getElem? (i := 54) (by decide +kernel), List.forall_mem_cons.mpr ⟨List.mem_of_getElem? (i := 67) (by decide +kernel), List.forall_mem_cons.mpr ⟨List.mem_of_getElem? (i := 68) rfl, List.forall_mem_cons.mpr ⟨List.mem_of_getElem? (i := 69) (by decide +kernel), List.forall_mem_cons.mpr ⟨List.mem_of_getElem? (i := 70) (by decide +kernel), List.forall_mem_cons.mpr ⟨List.mem_of_getElem? (i := 72) (by decide +kernel), List.forall_mem_cons.mpr ⟨List.mem_of_getElem? (i := 74) (by decide +kernel), List.forall_mem_cons.mpr ⟨List.mem_of_getElem? (i := 76) (by decide +kernel), List.forall_mem_cons.mpr ⟨List.mem_of_getElem? (i := 78) (by decide +kernel), List.forall_mem_cons.mpr ⟨List.mem_of_getElem? (i := 80) (by decide +kernel), List.forall_mem_cons.mpr ⟨List.mem_of_getElem? (i := 82) (by decide +kernel), List.forall_mem_cons.mpr ⟨List.mem_of_getElem? (i := 84) (by decide +kernel), List.forall_mem_cons.mpr ⟨List.mem_of_getElem? (i := 85) (by decide +kernel), List.forall_mem_cons.mpr ⟨List.mem_of_getElem? (i := 87) (by decide +kernel), List.forall_mem_cons.mpr ⟨List.mem_of_getElem? (i := 89) (by decide +kernel), List.forall_mem_cons.mpr ⟨List.mem_of_getElem? (i := 91) (by decide +kernel), List.forall_mem_cons.mpr ⟨List.mem_of_getElem? (i := 93) (by decide +kernel), fun _ h => absurd h List.not_mem_nil⟩⟩⟩⟩⟩⟩⟩⟩⟩⟩⟩⟩⟩⟩⟩⟩⟩⟩⟩⟩⟩⟩⟩⟩
set_option maxRecDepth 100000 in
set_option maxHeartbeats 4000000 in
theorem wsL_in_r3 : ∀ w ∈ wsL_law0_r3, w ∈ lw_tbl := List.forall_mem_cons.mpr ⟨List.mem_of_getElem? (i := 95) (by decide +kernel), List.forall_mem_cons.mpr ⟨List.mem_of_getElem? (i := 97) (by decide +kernel), List.forall_mem_cons.mpr ⟨List.mem_of_getElem? (i := 99) (by decide +kernel), List.forall_mem_cons.mpr ⟨List.mem_of_getElem? (i := 101) (by decide +kernel), List.forall_mem_cons.mpr ⟨List.mem_of_getElem? (i := 546) (by decide +kernel), List.forall_mem_cons.mpr ⟨List.mem_of_getElem? (i := 547) (by decide +kernel), List.forall_mem_cons.mpr ⟨List.mem_of_getElem? (i := 548) rfl, List.forall_mem_cons.mpr ⟨List.mem_of_getElem? (i := 549) (by decide +kernel), List.forall_mem_cons.mpr ⟨List.mem_of_getElem? (i := 553) (by decide +kernel), List.forall_mem_cons.mpr ⟨List.mem_of_getElem? (i := 554) (by decide +kernel), List.forall_mem_cons.mpr ⟨List.mem_of_getElem? (i := 555) (by decide +kernel), List.forall_mem_cons.mpr ⟨List.mem_of_getElem? (i := 557) (by decide +kernel), List.forall_mem_cons.mpr ⟨List.mem_of_getElem? (i := 558) (by decide +kernel), List.forall_mem_cons.mpr ⟨List.mem_of_getElem? (i := 559) (by decide +kernel), List.forall_mem_cons.mpr ⟨List.mem_of_getElem? (i := 560) (by decide +kernel), List.forall_mem_cons.mpr ⟨List.mem_of_getElem? (i := 561) (by decide +kernel), List.forall_mem_cons.mpr ⟨List.mem_of_getElem? (i := 562) (by decide +kernel), List.forall_mem_cons.mpr ⟨List.mem_of_getElem? (i := 563) (by decide +kernel), List.forall_mem_cons.mpr ⟨List.mem_of_getElem? (i := 564) (by decide +kernel), List.forall_mem_cons.mpr ⟨List.mem_of_getElem? (i := 565) (by decide +kernel), List.forall_mem_cons.mpr ⟨List.mem_of_getElem? (i := 566) (by decide +kernel), List.forall_mem_cons.mpr ⟨List.mem_of_getElem? (i := 567) (by decide +kernel), List.forall_mem_cons.mpr ⟨List.mem_of_getElem? (i := 568) (by decide +kernel), List.forall_mem_cons.mpr ⟨List.mem_of_getElem? (i := 569) (by decide +kernel), fun _ h => absurd h List.not_mem_nil⟩⟩⟩⟩⟩⟩⟩⟩⟩⟩⟩⟩⟩⟩⟩⟩⟩⟩⟩⟩⟩⟩⟩⟩
set_option maxRecDepth 100000 in
set_option maxHeartbeats 4000000 in
theorem wsL_in_r4 : ∀ w ∈ wsL_law0_r4, w ∈ lw_tbl := List.forall_mem_cons.mpr ⟨List.mem_of_getElem? (i := 570) (by decide +kernel), List.forall_mem_cons.mpr ⟨List.mem_of_getElem? (i := 571) (by decide +kernel), List.forall_mem_cons.mpr ⟨List.mem_of_getElem? (i := 572) (by decide +kernel), List.forall_mem_cons.mpr ⟨List.mem_of_getElem? (i := 573) (by decide +kernel), List.forall_mem_cons.mpr ⟨List.mem_of_getElem? (i := 167) (by decide +kernel), List.forall_mem_cons.mpr ⟨List.mem_of_getElem? (i := 168) (by decide +kernel), List.forall_mem_cons.mpr ⟨List.mem_of_getElem? (i := 20) (by decide +kernel), List.forall_mem_cons.mpr ⟨List.mem_of_getElem? (i := 169) rfl, List.forall_mem_cons.mpr ⟨List.mem_of_getElem? (i := 170) (by decide +kernel), List.forall_mem_cons.mpr ⟨List.mem_of_getElem? (i := 171) (by decide +kernel), List.forall_mem_cons.mpr ⟨List.mem_of_getElem? (i := 172) (by decide +kernel), List.forall_mem_cons.mpr ⟨List.mem_of_getElem? (i := 173) (by decide +kernel), List.forall_mem_cons.mpr ⟨List.mem_of_getElem? (i := 174) (by decide +kernel), List.forall_mem_cons.mpr ⟨List.mem_of_getElem? (i := 175) rfl, List.forall_mem_cons.mpr ⟨List.mem_of_getElem? (i := 180) (by decide +kernel), List.forall_mem_cons.mpr ⟨List.mem_of_getElem? (i := 28) (by decide +kernel), List.forall_mem_cons.mpr ⟨List.mem_of_getElem? (i := 249) (by decide +kernel), List.forall_mem_cons.mpr ⟨List.mem_of_getElem? (i := 50) (by decide +kernel), List.forall_mem_cons.mpr ⟨List.mem_of_getElem? (i := 176) (by decide +kernel), List.forall_mem_cons.mpr ⟨List.mem_of_getElem? (i := 178) (by decide +kernel), List.forall_mem_cons.mpr ⟨List.mem_of_getElem? (i := 0) (by decide +kernel), List.forall_mem_cons.mpr ⟨List.mem_of_getElem? (i := 179) rfl, List.forall_mem_cons.mpr ⟨List.mem_of_getElem? (i := 250) (by decide +kernel), List.forall_mem_cons.mpr ⟨List.mem_of_getElem? (i := 251) (by decide +kernel), fun _ h => absurd h List.not_mem_nil⟩⟩⟩⟩⟩⟩⟩⟩⟩⟩⟩⟩⟩⟩⟩⟩⟩⟩⟩⟩⟩⟩⟩⟩
set_option maxRecDepth 100000 in
set_option maxHeartbeats 4000000 in
theorem wsL_in_r5 : ∀ w ∈ wsL_law0_r5, w ∈ lw_tbl := List.forall_mem_cons.mpr ⟨List.mem_of_getElem? (i := 252) rfl, List.forall_mem_cons.mpr ⟨List.mem_of_getElem? (i := 253) (by decide +kernel), List.forall_mem_cons.mpr ⟨List.mem_of_getElem? (i := 29) (by decide +kernel), List.forall_mem_cons.mpr ⟨List.mem_of_getElem? (i := 627) (by decide +kernel), List.forall_mem_cons.mpr ⟨List.mem_of_getElem? (i := 628) (by decide +kernel), List.forall_mem_cons.mpr ⟨List.mem_of_getElem? (i := 629) (by decide +kernel), List.forall_mem_cons.mpr ⟨List.mem_of_getElem? (i := 630) rfl, List.forall_mem_cons.mpr ⟨List.mem_of_getElem? (i := 637) (by decide +kernel), List.forall_mem_cons.mpr ⟨List.mem_of_getElem? (i := 631) (by decide +kernel), List.forall_mem_cons.mpr ⟨List.mem_of_getElem? (i := 632) (by decide +kernel), List.forall_mem_cons.mpr ⟨List.mem_of_getElem? (i := 633) rfl, List.forall_mem_cons.mpr ⟨List.mem_of_getElem? (i := 634) (by decide +kernel), List.forall_mem_cons.mpr ⟨List.mem_of_getElem? (i := 635) (by decide +kernel), List.forall_mem_cons.mpr ⟨List.mem_of_getElem? (i := 636) rfl, List.forall_mem_cons.mpr ⟨List.mem_of_getElem? (i := 638) (by decide +kernel), List.forall_mem_cons.mpr ⟨List.mem_of_getElem? (i := 640) (by decide +kernel), List.forall_mem_cons.mpr ⟨List.mem_of_getElem? (i := 7) (by decide +kernel), List.forall_mem_cons.mpr ⟨List.mem_of_getElem? (i := 641) rfl, List.forall_mem_cons.mpr ⟨List.mem_of_getElem? (i := 550) (by decide +kernel), List.forall_mem_cons.mpr ⟨List.mem_of_getElem? (i := 623) (by decide +kernel), List.forall_mem_cons.mpr ⟨List.mem_of_getElem? (i := 624) (by decide +kernel), List.forall_mem_cons.mpr ⟨List.mem_of_getElem? (i := 625) (by decide +kernel), List.forall_mem_cons.mpr ⟨List.mem_of_getElem? (i := 626) rfl, List.forall_mem_cons.mpr ⟨List.mem_of_getElem? (i := 269) (by decide +kernel), fun _ h => absurd h List.not_mem_nil⟩⟩⟩⟩⟩⟩⟩⟩⟩⟩⟩⟩⟩⟩⟩⟩⟩⟩⟩⟩⟩⟩⟩⟩
set_option maxRecDepth 100000 in
set_option maxHeartbeats 4000000 in
theorem wsL_in_r6 : ∀ w ∈ wsL_law0_r6, w ∈ lw_tbl := List.forall_mem_cons.mpr ⟨List.mem_of_getElem? (i := 270) (by decide +kernel), List.forall_mem_cons.mpr ⟨List.mem_of_getElem? (i := 271) rfl, List.forall_mem_cons.mpr ⟨List.mem_of_getElem? (i := 272) (by decide +kernel), List.forall_mem_cons.mpr ⟨List.mem_of_getElem? (i := 273) (by decide +kernel), List.forall_mem_cons.mpr ⟨List.mem_of_getElem? (i := 274) (by decide +kernel), List.forall_mem_cons.mpr ⟨List.mem_of_getElem? (i := 275) rfl, List.forall_mem_cons.mpr ⟨List.mem_of_getElem? (i := 52) (by decide +kernel), List.forall_mem_cons.mpr ⟨List.mem_of_getElem? (i := 55) (by decide +kernel), List.forall_mem_cons.mpr ⟨List.mem_of_getElem? (i := 642) (by decide +kernel), List.forall_mem_cons.mpr ⟨List.mem_of_getElem? (i := 643) (by decide +kernel), List.forall_mem_cons.mpr ⟨List.mem_of_getElem? (i := 644) (by decide +kernel), List.forall_mem_cons.mpr ⟨List.mem_of_getElem? (i := 645) rfl, List.forall_mem_cons.mpr ⟨List.mem_of_getElem? (i := 276) (by decide +kernel), List.forall_mem_cons.mpr ⟨List.mem_of_getElem? (i := 277) (by decide +kernel), List.forall_mem_cons.mpr ⟨List.mem_of_getElem? (i := 278) rfl, List.forall_mem_cons.mpr ⟨List.mem_of_getElem? (i := 279) (by decide +kernel), List.forall_mem_cons.mpr ⟨List.mem_of_getElem? (i := 280) (by decide +kernel), List.forall_mem_cons.mpr ⟨List.mem_of_getElem? (i := 281) (by decide +kernel), List.forall_mem_cons.mpr ⟨List.mem_of_getElem? (i := 282) (by decide +kernel), List.forall_mem_cons.mpr ⟨List.mem_of_getElem? (i := 283) rfl, List.forall_mem_cons.mpr ⟨List.mem_of_getElem? (i := 71) (by decide +kernel), List.forall_mem_cons.mpr ⟨List.mem_of_getElem? (i := 285) (by decide +kernel), List.forall_mem_cons.mpr ⟨List.mem_of_getElem? (i := 286) (by decide +kernel), List.forall_mem_cons.mpr ⟨List.mem_of_getElem? (i := 287) rfl, fun _ h => absurd h List.not_mem_nil⟩⟩⟩⟩⟩⟩⟩⟩⟩⟩⟩⟩⟩⟩⟩⟩⟩⟩⟩⟩⟩⟩⟩⟩
set_option maxRecDepth 100000 in
set_option maxHeartbeats 4000000 in
theorem wsL_in_r7 : ∀ w ∈ wsL_law0_r7, w ∈ lw_tbl := List.forall_mem_cons.mpr ⟨List.mem_of_getElem? (i := 288) (by decide +kernel), List.forall_mem_cons.mpr ⟨List.mem_of_getElem? (i := 30) (by decide +kernel), List.forall_mem_cons.mpr ⟨List.mem_of_getElem? (i := 646) (by decide +kernel), List.forall_mem_cons.mpr ⟨List.mem_of_getElem? (i := 647) (by decide +kernel), List.forall_mem_cons.mpr ⟨List.mem_of_getElem? (i := 648) (by decide +kernel), List.forall_mem_cons.mpr ⟨List.mem_of_getElem? (i := 649) rfl, List.forall_mem_cons.mpr ⟨List.mem_of_getElem? (i := 556) (by decide +kernel), List.forall_mem_cons.mpr ⟨List.mem_of_getElem? (i := 650) (by decide +kernel), List.forall_mem_cons.mpr ⟨List.mem_of_getElem? (i := 652) (by decide +kernel), List.forall_mem_cons.mpr ⟨List.mem_of_getElem? (i := 8) (by decide +kernel), List.forall_mem_cons.mpr ⟨List.mem_of_getElem? (i := 653) rfl, List.forall_mem_cons.mpr ⟨List.mem_of_getElem? (i := 155) (by decide +kernel), List.forall_mem_cons.mpr ⟨List.mem_of_getElem? (i := 156) (by decide +kernel), List.forall_mem_cons.mpr ⟨List.mem_of_getElem? (i := 157) (by decide +kernel), List.forall_mem_cons.mpr ⟨List.mem_of_getElem? (i := 158) rfl, List.forall_mem_cons.mpr ⟨List.mem_of_getElem? (i := 654) (by decide +kernel), List.forall_mem_cons.mpr ⟨List.mem_of_getElem? (i := 655) (by decide +kernel), List.forall_mem_cons.mpr ⟨List.mem_of_getElem? (i := 656) (by decide +kernel), List.forall_mem_cons.mpr ⟨List.mem_of_getElem? (i := 657) rfl, List.forall_mem_cons.mpr ⟨List.mem_of_getElem? (i := 658) (by decide +kernel), List.forall_mem_cons.mpr ⟨List.mem_of_getElem? (i := 660) (by decide +kernel), List.forall_mem_cons.mpr ⟨List.mem_of_getElem? (i := 9) (by decide +kernel), List.forall_mem_cons.mpr ⟨List.mem_of_getElem? (i := 661) rfl, List.forall_mem_cons.mpr ⟨List.mem_of_getElem? (i := 304) (by decide +kernel), fun _ h => absurd h List.not_mem_nil⟩⟩⟩⟩⟩⟩⟩⟩⟩⟩⟩⟩⟩⟩⟩⟩⟩⟩⟩⟩⟩⟩⟩⟩
set_option maxRecDepth 100000 in
set_option maxHeartbeats 4000000 in
theorem wsL_in_r8 : ∀ w ∈ wsL_law0_r8, w ∈ lw_tbl := List.forall_mem_cons.mpr ⟨List.mem_of_getElem? (i := 305) (by decide +kernel), List.forall_mem_cons.mpr ⟨List.mem_of_getElem? (i := 306) rfl, List.forall_mem_cons.mpr ⟨List.mem_of_getElem? (i := 307) (by decide +kernel), List.forall_mem_cons.mpr ⟨List.mem_of_getElem? (i := 308) (by decide +kernel), List.forall_mem_cons.mpr ⟨List.mem_of_getElem? (i := 309) (by decide +kernel), List.forall_mem_cons.mpr ⟨List.mem_of_getElem? (i := 310) rfl, List.forall_mem_cons.mpr ⟨List.mem_of_getElem? (i := 88) (by decide +kernel), List.forall_mem_cons.mpr ⟨List.mem_of_getElem? (i := 92) (by decide +kernel), List.forall_mem_cons.mpr ⟨List.mem_of_getElem? (i := 94) (by decide +kernel), List.forall_mem_cons.mpr ⟨List.mem_of_getElem? (i := 96) (by decide +kernel), List.forall_mem_cons.mpr ⟨List.mem_of_getElem? (i := 311) (by decide +kernel), List.forall_mem_cons.mpr ⟨List.mem_of_getElem? (i := 313) (by decide +kernel), List.forall_mem_cons.mpr ⟨List.mem_of_getElem? (i := 2) (by decide +kernel), List.forall_mem_cons.mpr ⟨List.mem_of_getElem? (i := 314) rfl, List.forall_mem_cons.mpr ⟨List.mem_of_getElem? (i := 316) (by decide +kernel), List.forall_mem_cons.mpr ⟨List.mem_of_getElem? (i := 317) (by decide +kernel), List.forall_mem_cons.mpr ⟨List.mem_of_getElem? (i := 318) (by decide +kernel), List.forall_mem_cons.mpr ⟨List.mem_of_getElem? (i := 319) rfl, List.forall_mem_cons.mpr ⟨List.mem_of_getElem? (i := 320) (by decide +kernel), List.forall_mem_cons.mpr ⟨List.mem_of_getElem? (i := 321) (by decide +kernel), List.forall_mem_cons.mpr ⟨List.mem_of_getElem? (i := 322) (by decide +kernel), List.forall_mem_cons.mpr ⟨List.mem_of_getElem? (i := 323) rfl, List.forall_mem_cons.mpr ⟨List.mem_of_getElem? (i := 662) (by decide +kernel), List.forall_mem_cons.mpr ⟨List.mem_of_getElem? (i := 663) (by decide +kernel), fun _ h => absurd h List.not_mem_nil⟩⟩⟩⟩⟩⟩⟩⟩⟩⟩⟩⟩⟩⟩⟩⟩⟩⟩⟩⟩⟩⟩⟩⟩
set_option maxRecDepth 100000 in
set_option maxHeartbeats 4000000 in
theorem wsL_in_r9 : ∀ w ∈ wsL_law0_r9, w ∈ lw_tbl := List.forall_mem_cons.mpr ⟨List.mem_of_getElem? (i := 664) (by decide +kernel), List.forall_mem_cons.mpr ⟨List.mem_of_getElem? (i := 665) rfl, List.forall_mem_cons.mpr ⟨List.mem_of_getElem? (i := 552) (by decide +kernel), List.forall_mem_cons.mpr ⟨List.mem_of_getElem? (i := 666) (by decide +kernel), List.forall_mem_cons.mpr ⟨List.mem_of_getElem? (i := 668) (by decide +kernel), List.forall_mem_cons.mpr ⟨List.mem_of_getElem? (i := 10) (by decide +kernel), List.forall_mem_cons.mpr ⟨List.mem_of_getElem? (i := 669) rfl, List.forall_mem_cons.mpr ⟨List.mem_of_getElem? (i := 670) (by decide +kernel), List.forall_mem_cons.mpr ⟨List.mem_of_getElem? (i := 672) (by decide +kernel), List.forall_mem_cons.mpr ⟨List.mem_of_getElem? (i := 11) (by decide +kernel), List.forall_mem_cons.mpr ⟨List.mem_of_getElem? (i := 673) rfl, List.forall_mem_cons.mpr ⟨List.mem_of_getElem? (i := 324) (by decide +kernel), List.forall_mem_cons.mpr ⟨List.mem_of_getElem? (i := 325) (by decide +kernel), List.forall_mem_cons.mpr ⟨List.mem_of_getElem? (i := 326) rfl, List.forall_mem_cons.mpr ⟨List.mem_of_getElem? (i := 327) (by decide +kernel), List.forall_mem_cons.mpr ⟨List.mem_of_getElem? (i := 328) (by decide +kernel), List.forall_mem_cons.mpr ⟨List.mem_of_getElem? (i := 329) (by decide +kernel), List.forall_mem_cons.mpr ⟨List.mem_of_getElem? (i := 330) rfl, List.forall_mem_cons.mpr ⟨List.mem_of_getElem? (i := 98) (by decide +kernel), List.forall_mem_cons.mpr ⟨List.mem_of_getElem? (i := 674) (by decide +kernel), List.forall_mem_cons.mpr ⟨List.mem_of_getElem? (i := 675) (by decide +kernel), List.forall_mem_cons.mpr ⟨List.mem_of_getElem? (i := 676) (by decide +kernel), List.forall_mem_cons.mpr ⟨List.mem_of_getElem? (i := 677) rfl, List.forall_mem_cons.mpr ⟨List.mem_of_getElem? (i := 331) (by decide +kernel), fun _ h => absurd h List.not_mem_nil⟩⟩⟩⟩⟩⟩⟩⟩⟩⟩⟩⟩⟩⟩⟩⟩⟩⟩⟩⟩⟩⟩⟩⟩
set_option maxRecDepth 100000 in
set_option maxHeartbeats 4000000 in
theorem wsL_in_r10 : ∀ w ∈ wsL_law0_r10, w ∈ lw_tbl := List.forall_mem_cons.mpr ⟨List.mem_of_getElem? (i := 332) (by decide +kernel), List.forall_mem_cons.mpr ⟨List.mem_of_getElem? (i := 333) rfl, List.forall_mem_cons.mpr ⟨List.mem_of_getElem? (i := 334) (by decide +kernel), List.forall_mem_cons.mpr ⟨List.mem_of_getElem? (i := 335) (by decide +kernel), List.forall_mem_cons.mpr ⟨List.mem_of_getElem? (i := 336) (by decide +kernel), List.forall_mem_cons.mpr ⟨List.mem_of_getElem? (i := 337) rfl, List.forall_mem_cons.mpr ⟨List.mem_of_getElem? (i := 338) (by decide +kernel), List.forall_mem_cons.mpr ⟨List.mem_of_getElem? (i := 102) (by decide +kernel), List.forall_mem_cons.mpr ⟨List.mem_of_getElem? (i := 339) (by decide +kernel), List.forall_mem_cons.mpr ⟨List.mem_of_getElem? (i := 341) (by decide +kernel), List.forall_mem_cons.mpr ⟨List.mem_of_getElem? (i := 3) (by decide +kernel), List.forall_mem_cons.mpr ⟨List.mem_of_getElem? (i := 342) rfl, List.forall_mem_cons.mpr ⟨List.mem_of_getElem? (i := 343) (by decide +kernel), List.forall_mem_cons.mpr ⟨List.mem_of_getElem? (i := 344) (by decide +kernel), List.forall_mem_cons.mpr ⟨List.mem_of_getElem? (i := 345) (by decide +kernel), List.forall_mem_cons.mpr ⟨List.mem_of_getElem? (i := 346) rfl, List.forall_mem_cons.mpr ⟨List.mem_of_getElem? (i := 678) (by decide +kernel), List.forall_mem_cons.mpr ⟨List.mem_of_getElem? (i := 679) (by decide +kernel), List.forall_mem_cons.mpr ⟨List.mem_of_getElem? (i := 680) (by decide +kernel), List.forall_mem_cons.mpr ⟨List.mem_of_getElem? (i := 681) rfl, List.forall_mem_cons.mpr ⟨List.mem_of_getElem? (i := 682) (by decide +kernel), List.forall_mem_cons.mpr ⟨List.mem_of_getElem? (i := 683) (by decide +kernel), List.forall_mem_cons.mpr ⟨List.mem_of_getElem? (i := 685) (by decide +kernel), List.forall_mem_cons.mpr ⟨List.mem_of_getElem? (i := 12) (by decide +kernel), fun _ h => absurd h List.not_mem_nil⟩⟩⟩⟩⟩⟩⟩⟩⟩⟩⟩⟩⟩⟩⟩⟩⟩⟩⟩⟩⟩⟩⟩⟩
set_option maxRecDepth 100000 in
set_option maxHeartbeats 4000000 in
theorem wsL_in_r11 : ∀ w ∈ wsL_law0_r11, w ∈ lw_tbl := List.forall_mem_cons.mpr ⟨List.mem_of_getElem? (i := 686) rfl, List.forall_mem_cons.mpr ⟨List.mem_of_getElem? (i := 347) (by decide +kernel), List.forall_mem_cons.mpr ⟨List.mem_of_getElem? (i := 348) (by decide +kernel), List.forall_mem_cons.mpr ⟨List.mem_of_getElem? (i := 349) rfl, List.forall_mem_cons.mpr ⟨List.mem_of_getElem? (i := 350) (by decide +kernel), List.forall_mem_cons.mpr ⟨List.mem_of_getElem? (i := 351) (by decide +kernel), List.forall_mem_cons.mpr ⟨List.mem_of_getElem? (i := 352) (by decide +kernel), List.forall_mem_cons.mpr ⟨List.mem_of_getElem? (i := 353) rfl, List.forall_mem_cons.mpr ⟨List.mem_of_getElem? (i := 100) (by decide +kernel), List.forall_mem_cons.mpr ⟨List.mem_of_getElem? (i := 687) (by decide +kernel), List.forall_mem_cons.mpr ⟨List.mem_of_getElem? (i := 688) (by decide +kernel), List.forall_mem_cons.mpr ⟨List.mem_of_getElem? (i := 689) (by decide +kernel), List.forall_mem_cons.mpr ⟨List.mem_of_getElem? (i := 690) rfl, List.forall_mem_cons.mpr ⟨List.mem_of_getElem? (i := 354) (by decide +kernel), List.forall_mem_cons.mpr ⟨List.mem_of_getElem? (i := 355) (by decide +kernel), List.forall_mem_cons.mpr ⟨List.mem_of_getElem? (i := 356) rfl, List.forall_mem_cons.mpr ⟨List.mem_of_getElem? (i := 357) (by decide +kernel), List.forall_mem_cons.mpr ⟨List.mem_of_getElem? (i := 358) (by decide +kernel), List.forall_mem_cons.mpr ⟨List.mem_of_getElem? (i := 359) (by decide +kernel), List.forall_mem_cons.mpr ⟨List.mem_of_getElem? (i := 360) rfl, List.forall_mem_cons.mpr ⟨List.mem_of_getElem? (i := 361) (by decide +kernel), List.forall_mem_cons.mpr ⟨List.mem_of_getElem? (i := 362) (by decide +kernel), List.forall_mem_cons.mpr ⟨List.mem_of_getElem? (i := 363) (by decide +kernel), List.forall_mem_cons.mpr ⟨List.mem_of_getElem? (i := 364) rfl, fun _ h => absurd h List.not_mem_nil⟩⟩⟩⟩⟩⟩⟩⟩⟩⟩⟩⟩⟩⟩⟩⟩⟩⟩⟩⟩⟩⟩⟩⟩
set_option maxRecDepth 100000 in
set_option maxHeartbeats 4000000 in
theorem wsL_in_r12 : ∀ w ∈ wsL_law0_r12, w ∈ lw_tbl := List.forall_mem_cons.mpr ⟨List.mem_of_getElem? (i := 365) (by decide +kernel), List.forall_mem_cons.mpr ⟨List.mem_of_getElem? (i := 366) (by decide +kernel), List.forall_mem_cons.mpr ⟨List.mem_of_getElem? (i := 367) (by decide +kernel), List.forall_mem_cons.mpr ⟨List.mem_of_getElem? (i := 368) (by decide +kernel), List.forall_mem_cons.mpr ⟨List.mem_of_getElem? (i := 370) (by decide +kernel), List.forall_mem_cons.mpr ⟨List.mem_of_getElem? (i := 4) (by decide +kernel), List.forall_mem_cons.mpr ⟨List.mem_of_getElem? (i := 371) rfl, List.forall_mem_cons.mpr ⟨List.mem_of_getElem? (i := 372) (by decide +kernel), List.forall_mem_cons.mpr ⟨List.mem_of_getElem? (i := 373) (by decide +kernel), List.forall_mem_cons.mpr ⟨List.mem_of_getElem? (i := 374) (by decide +kernel), List.forall_mem_cons.mpr ⟨List.mem_of_getElem? (i := 375) rfl, List.forall_mem_cons.mpr ⟨List.mem_of_getElem? (i := 56) (by decide +kernel), List.forall_mem_cons.mpr ⟨List.mem_of_getElem? (i := 53) (by decide +kernel), List.forall_mem_cons.mpr ⟨List.mem_of_getElem? (i := 376) (by decide +kernel), List.forall_mem_cons.mpr ⟨List.mem_of_getElem? (i := 377) (by decide +kernel), List.forall_mem_cons.mpr ⟨List.mem_of_getElem? (i := 378) (by decide +kernel), List.forall_mem_cons.mpr ⟨List.mem_of_getElem? (i := 379) rfl, List.forall_mem_cons.mpr ⟨List.mem_of_getElem? (i := 380) (by decide +kernel), List.forall_mem_cons.mpr ⟨List.mem_of_getElem? (i := 381) (by decide +kernel), List.forall_mem_cons.mpr ⟨List.mem_of_getElem? (i := 31) (by decide +kernel), List.forall_mem_cons.mpr ⟨List.mem_of_getElem? (i := 382) rfl, List.forall_mem_cons.mpr ⟨List.mem_of_getElem? (i := 383) (by decide +kernel), List.forall_mem_cons.mpr ⟨List.mem_of_getElem? (i := 384) (by decide +kernel), List.forall_mem_cons.mpr ⟨List.mem_of_getElem? (i := 385) (by decide +kernel), fun _ h => absurd h List.not_mem_nil⟩⟩⟩⟩⟩⟩⟩⟩⟩⟩⟩⟩⟩⟩⟩⟩⟩⟩⟩⟩⟩⟩⟩⟩
set_option maxRecDepth 100000 in
set_option maxHeartbeats 4000000 in
theorem wsL_in_r13 : ∀ w ∈ wsL_law0_r13, w ∈ lw_tbl := List.forall_mem_cons.mpr ⟨List.mem_of_getElem? (i := 386) rfl, List.forall_mem_cons.mpr ⟨List.mem_of_getElem? (i := 691) (by decide +kernel), List.forall_mem_cons.mpr ⟨List.mem_of_getElem? (i := 692) (by decide +kernel), List.forall_mem_cons.mpr ⟨List.mem_of_getElem? (i := 693) (by decide +kernel), List.forall_mem_cons.mpr ⟨List.mem_of_getElem? (i := 694) rfl, List.forall_mem_cons.mpr ⟨List.mem_of_getElem? (i := 695) (by decide +kernel), List.forall_mem_cons.mpr ⟨List.mem_of_getElem? (i := 696) (by decide +kernel), List.forall_mem_cons.mpr ⟨List.mem_of_getElem? (i := 697) (by decide +kernel), List.forall_mem_cons.mpr ⟨List.mem_of_getElem? (i := 699) (by decide +kernel), List.forall_mem_cons.mpr ⟨List.mem_of_getElem? (i := 13) (by decide +kernel), List.forall_mem_cons.mpr ⟨List.mem_of_getElem? (i := 700) rfl, List.forall_mem_cons.mpr ⟨List.mem_of_getElem? (i := 701) (by decide +kernel), List.forall_mem_cons.mpr ⟨List.mem_of_getElem? (i := 703) (by decide +kernel), List.forall_mem_cons.mpr ⟨List.mem_of_getElem? (i := 14) (by decide +kernel), List.forall_mem_cons.mpr ⟨List.mem_of_getElem? (i := 704) rfl, List.forall_mem_cons.mpr ⟨List.mem_of_getElem? (i := 705) (by decide +kernel), List.forall_mem_cons.mpr ⟨List.mem_of_getElem? (i := 707) (by decide +kernel), List.forall_mem_cons.mpr ⟨List.mem_of_getElem? (i := 15) (by decide +kernel), List.forall_mem_cons.mpr ⟨List.mem_of_getElem? (i := 708) rfl, List.forall_mem_cons.mpr ⟨List.mem_of_getElem? (i := 387) (by decide +kernel), List.forall_mem_cons.mpr ⟨List.mem_of_getElem? (i := 388) (by decide +kernel), List.forall_mem_cons.mpr ⟨List.mem_of_getElem? (i := 389) rfl, List.forall_mem_cons.mpr ⟨List.mem_of_getElem? (i := 390) (by decide +kernel), List.forall_mem_cons.mpr ⟨List.mem_of_getElem? (i := 391) (by decide +kernel), fun _ h => absurd h List.not_mem_nil⟩⟩⟩⟩⟩⟩⟩⟩⟩⟩⟩⟩⟩⟩⟩⟩⟩⟩⟩⟩⟩⟩⟩⟩
set_option maxRecDepth 100000 in
set_option maxHeartbeats 4000000 in
theorem wsL_in_r14 : ∀ w ∈ wsL_law0_r14, w ∈ lw_tbl := List.forall_mem_cons.mpr ⟨List.mem_of_getElem? (i := 392) (by decide +kernel), List.forall_mem_cons.mpr ⟨List.mem_of_getElem? (i := 393) rfl, List.forall_mem_cons.mpr ⟨List.mem_of_getElem? (i := 394) (by decide +kernel), List.forall_mem_cons.mpr ⟨List.mem_of_getElem? (i := 395) (by decide +kernel), List.forall_mem_cons.mpr ⟨List.mem_of_getElem? (i := 396) (by decide +kernel), List.forall_mem_cons.mpr ⟨List.mem_of_getElem? (i := 397) (by decide +kernel), List.forall_mem_cons.mpr ⟨List.mem_of_getElem? (i := 398) rfl, List.forall_mem_cons.mpr ⟨List.mem_of_getElem? (i := 399) (by decide +kernel), List.forall_mem_cons.mpr ⟨List.mem_of_getElem? (i := 400) (by decide +kernel), List.forall_mem_cons.mpr ⟨List.mem_of_getElem? (i := 401) (by decide +kernel), List.forall_mem_cons.mpr ⟨List.mem_of_getElem? (i := 402) rfl, List.forall_mem_cons.mpr ⟨List.mem_of_getElem? (i := 403) (by decide +kernel), List.forall_mem_cons.mpr ⟨List.mem_of_getElem? (i := 709) (by decide +kernel), List.forall_mem_cons.mpr ⟨List.mem_of_getElem? (i := 710) (by decide +kernel), List.forall_mem_cons.mpr ⟨List.mem_of_getElem? (i := 711) (by decide +kernel), List.forall_mem_cons.mpr ⟨List.mem_of_getElem? (i := 712) rfl, List.forall_mem_cons.mpr ⟨List.mem_of_getElem? (i := 713) (by decide +kernel), List.forall_mem_cons.mpr ⟨List.mem_of_getElem? (i := 714) (by decide +kernel), List.forall_mem_cons.mpr ⟨List.mem_of_getElem? (i := 404) (by decide +kernel), List.forall_mem_cons.mpr ⟨List.mem_of_getElem? (i := 405) (by decide +kernel), List.forall_mem_cons.mpr ⟨List.mem_of_getElem? (i := 406) rfl, List.forall_mem_cons.mpr ⟨List.mem_of_getElem? (i := 407) (by decide +kernel), List.forall_mem_cons.mpr ⟨List.mem_of_getElem? (i := 408) (by decide +kernel), List.forall_mem_cons.mpr ⟨List.mem_of_getElem? (i := 409) (by decide +kernel), fun _ h => absurd h List.not_mem_nil⟩⟩⟩⟩⟩⟩⟩⟩⟩⟩⟩⟩⟩⟩⟩⟩⟩⟩⟩⟩⟩⟩⟩⟩
set_option maxRecDepth 100000 in
set_option maxHeartbeats 4000000 in
theorem wsL_in_r15 : ∀ w ∈ wsL_law0_r15, w ∈ lw_tbl := List.forall_mem_cons.mpr ⟨List.mem_of_getElem? (i := 410) rfl, List.forall_mem_cons.mpr ⟨List.mem_of_getElem? (i := 411) (by decide +kernel), List.forall_mem_cons.mpr ⟨List.mem_of_getElem? (i := 412) (by decide +kernel), List.forall_mem_cons.mpr ⟨List.mem_of_getElem? (i := 413) (by decide +kernel), List.forall_mem_cons.mpr ⟨List.mem_of_getElem? (i := 414) rfl, List.forall_mem_cons.mpr ⟨List.mem_of_getElem? (i := 416) (by decide +kernel), List.forall_mem_cons.mpr ⟨List.mem_of_getElem? (i := 417) (by decide +kernel), List.forall_mem_cons.mpr ⟨List.mem_of_getElem? (i := 418) rfl, List.forall_mem_cons.mpr ⟨List.mem_of_getElem? (i := 415) (by decide +kernel), List.forall_mem_cons.mpr ⟨List.mem_of_getElem? (i := 419) (by decide +kernel), List.forall_mem_cons.mpr ⟨List.mem_of_getElem? (i := 420) (by decide +kernel), List.forall_mem_cons.mpr ⟨List.mem_of_getElem? (i := 421) (by decide +kernel), List.forall_mem_cons.mpr ⟨List.mem_of_getElem? (i := 422) rfl, List.forall_mem_cons.mpr ⟨List.mem_of_getElem? (i := 715) (by decide +kernel), List.forall_mem_cons.mpr ⟨List.mem_of_getElem? (i := 716) (by decide +kernel), List.forall_mem_cons.mpr ⟨List.mem_of_getElem? (i := 717) (by decide +kernel), List.forall_mem_cons.mpr ⟨List.mem_of_getElem? (i := 718) rfl, List.forall_mem_cons.mpr ⟨List.mem_of_getElem? (i := 423) (by decide +kernel), List.forall_mem_cons.mpr ⟨List.mem_of_getElem? (i := 424) (by decide +kernel), List.forall_mem_cons.mpr ⟨List.mem_of_getElem? (i := 425) rfl, List.forall_mem_cons.mpr ⟨List.mem_of_getElem? (i := 426) (by decide +kernel), List.forall_mem_cons.mpr ⟨List.mem_of_getElem? (i := 427) (by decide +kernel), List.forall_mem_cons.mpr ⟨List.mem_of_getElem? (i := 428) (by decide +kernel), List.forall_mem_cons.mpr ⟨List.mem_of_getElem? (i := 429) rfl, fun _ h => absurd h List.not_mem_nil⟩⟩⟩⟩⟩⟩⟩⟩⟩⟩⟩⟩⟩⟩⟩⟩⟩⟩⟩⟩⟩⟩⟩⟩
set_option maxRecDepth 100000 in
set_option maxHeartbeats 4000000 in
theorem wsL_in_r16 : ∀ w ∈ wsL_law0_r16, w ∈ lw_tbl := List.forall_mem_cons.mpr ⟨List.mem_of_getElem? (i := 75) (by decide +kernel), List.forall_mem_cons.mpr ⟨List.mem_of_getElem? (i := 73) (by decide +kernel), List.forall_mem_cons.mpr ⟨List.mem_of_getElem? (i := 430) (by decide +kernel), List.forall_mem_cons.mpr ⟨List.mem_of_getElem? (i := 431) (by decide +kernel), List.forall_mem_cons.mpr ⟨List.mem_of_getElem? (i := 432) (by decide +kernel), List.forall_mem_cons.mpr ⟨List.mem_of_getElem? (i := 433) rfl, List.forall_mem_cons.mpr ⟨List.mem_of_getElem? (i := 719) (by decide +kernel), List.forall_mem_cons.mpr ⟨List.mem_of_getElem? (i := 720) (by decide +kernel), List.forall_mem_cons.mpr ⟨List.mem_of_getElem? (i := 721) (by decide +kernel), List.forall_mem_cons.mpr ⟨List.mem_of_getElem? (i := 722) rfl, List.forall_mem_cons.mpr ⟨List.mem_of_getElem? (i := 434) (by decide +kernel), List.forall_mem_cons.mpr ⟨List.mem_of_getElem? (i := 435) (by decide +kernel), List.forall_mem_cons.mpr ⟨List.mem_of_getElem? (i := 436) rfl, List.forall_mem_cons.mpr ⟨List.mem_of_getElem? (i := 437) (by decide +kernel), List.forall_mem_cons.mpr ⟨List.mem_of_getElem? (i := 438) (by decide +kernel), List.forall_mem_cons.mpr ⟨List.mem_of_getElem? (i := 439) (by decide +kernel), List.forall_mem_cons.mpr ⟨List.mem_of_getElem? (i := 440) rfl, List.forall_mem_cons.mpr ⟨List.mem_of_getElem? (i := 441) (by decide +kernel), List.forall_mem_cons.mpr ⟨List.mem_of_getElem? (i := 442) (by decide +kernel), List.forall_mem_cons.mpr ⟨List.mem_of_getElem? (i := 443) (by decide +kernel), List.forall_mem_cons.mpr ⟨List.mem_of_getElem? (i := 444) rfl, List.forall_mem_cons.mpr ⟨List.mem_of_getElem? (i := 445) (by decide +kernel), List.forall_mem_cons.mpr ⟨List.mem_of_getElem? (i := 446) (by decide +kernel), List.forall_mem_cons.mpr ⟨List.mem_of_getElem? (i := 447) (by decide +kernel), fun _ h => absurd h List.not_mem_nil⟩⟩⟩⟩⟩⟩⟩⟩⟩⟩⟩⟩⟩⟩⟩⟩⟩⟩⟩⟩⟩⟩⟩⟩
set_option maxRecDepth 100000 in
set_option maxHeartbeats 4000000 in
theorem wsL_in_r17 : ∀ w ∈ wsL_law0_r17, w ∈ lw_tbl := List.forall_mem_cons.mpr ⟨List.mem_of_getElem? (i := 448) rfl, List.forall_mem_cons.mpr ⟨List.mem_of_getElem? (i := 449) (by decide +kernel), List.forall_mem_cons.mpr ⟨List.mem_of_getElem? (i := 450) (by decide +kernel), List.forall_mem_cons.mpr ⟨List.mem_of_getElem? (i := 452) (by decide +kernel), List.forall_mem_cons.mpr ⟨List.mem_of_getElem? (i := 5) (by decide +kernel), List.forall_mem_cons.mpr ⟨List.mem_of_getElem? (i := 453) rfl, List.forall_mem_cons.mpr ⟨List.mem_of_getElem? (i := 454) (by decide +kernel), List.forall_mem_cons.mpr ⟨List.mem_of_getElem? (i := 455) (by decide +kernel), List.forall_mem_cons.mpr ⟨List.mem_of_getElem? (i := 456) (by decide +kernel), List.forall_mem_cons.mpr ⟨List.mem_of_getElem? (i := 457) rfl, List.forall_mem_cons.mpr ⟨List.mem_of_getElem? (i := 458) (by decide +kernel), List.forall_mem_cons.mpr ⟨List.mem_of_getElem? (i := 459) (by decide +kernel), List.forall_mem_cons.mpr ⟨List.mem_of_getElem? (i := 460) (by decide +kernel), List.forall_mem_cons.mpr ⟨List.mem_of_getElem? (i := 461) (by decide +kernel), List.forall_mem_cons.mpr ⟨List.mem_of_getElem? (i := 462) rfl, List.forall_mem_cons.mpr ⟨List.mem_of_getElem? (i := 463) (by decide +kernel), List.forall_mem_cons.mpr ⟨List.mem_of_getElem? (i := 464) (by decide +kernel), List.forall_mem_cons.mpr ⟨List.mem_of_getElem? (i := 466) (by decide +kernel), List.forall_mem_cons.mpr ⟨List.mem_of_getElem? (i := 6) (by decide +kernel), List.forall_mem_cons.mpr ⟨List.mem_of_getElem? (i := 467) rfl, List.forall_mem_cons.mpr ⟨List.mem_of_getElem? (i := 468) (by decide +kernel), List.forall_mem_cons.mpr ⟨List.mem_of_getElem? (i := 469) (by decide +kernel), List.forall_mem_cons.mpr ⟨List.mem_of_getElem? (i := 470) (by decide +kernel), List.forall_mem_cons.mpr ⟨List.mem_of_getElem? (i := 471) rfl, fun _ h => absurd h List.not_mem_nil⟩⟩⟩⟩⟩⟩⟩⟩⟩⟩⟩⟩⟩⟩⟩⟩⟩⟩⟩⟩⟩⟩⟩⟩
set_option maxRecDepth 100000 in
set_option maxHeartbeats 4000000 in
theorem wsL_in_r18 : ∀ w ∈ wsL_law0_r18, w ∈ lw_tbl := List.forall_mem_cons.mpr ⟨List.mem_of_getElem? (i := 472) (by decide +kernel), List.forall_mem_cons.mpr ⟨List.mem_of_getElem? (i := 473) (by decide +kernel), List.forall_mem_cons.mpr ⟨List.mem_of_getElem? (i := 474) (by decide +kernel), List.forall_mem_cons.mpr ⟨List.mem_of_getElem? (i := 475) (by decide +kernel), List.forall_mem_cons.mpr ⟨List.mem_of_getElem? (i := 476) rfl, List.forall_mem_cons.mpr ⟨List.mem_of_getElem? (i := 723) (by decide +kernel), List.forall_mem_cons.mpr ⟨List.mem_of_getElem? (i := 724) (by decide +kernel), List.forall_mem_cons.mpr ⟨List.mem_of_getElem? (i := 725) (by decide +kernel), List.forall_mem_cons.mpr ⟨List.mem_of_getElem? (i := 726) rfl, List.forall_mem_cons.mpr ⟨List.mem_of_getElem? (i := 551) (by decide +kernel), List.forall_mem_cons.mpr ⟨List.mem_of_getElem? (i := 727) (by decide +kernel), List.forall_mem_cons.mpr ⟨List.mem_of_getElem? (i := 729) (by decide +kernel), List.forall_mem_cons.mpr ⟨List.mem_of_getElem? (i := 16) (by decide +kernel), List.forall_mem_cons.mpr ⟨List.mem_of_getElem? (i := 730) rfl, List.forall_mem_cons.mpr ⟨List.mem_of_getElem? (i := 731) (by decide +kernel), List.forall_mem_cons.mpr ⟨List.mem_of_getElem? (i := 733) (by decide +kernel), List.forall_mem_cons.mpr ⟨List.mem_of_getElem? (i := 17) (by decide +kernel), List.forall_mem_cons.mpr ⟨List.mem_of_getElem? (i := 734) rfl, List.forall_mem_cons.mpr ⟨List.mem_of_getElem? (i := 735) (by decide +kernel), List.forall_mem_cons.mpr ⟨List.mem_of_getElem? (i := 737) (by decide +kernel), List.forall_mem_cons.mpr ⟨List.mem_of_getElem? (i := 18) (by decide +kernel), List.forall_mem_cons.mpr ⟨List.mem_of_getElem? (i := 738) rfl, List.forall_mem_cons.mpr ⟨List.mem_of_getElem? (i := 159) (by decide +kernel), List.forall_mem_cons.mpr ⟨List.mem_of_getElem? (i := 160) (by decide +kernel), fun _ h => absurd h List.not_mem_nil⟩⟩⟩⟩⟩⟩⟩⟩⟩⟩⟩⟩⟩⟩⟩⟩⟩⟩⟩⟩⟩⟩⟩⟩
set_option maxRecDepth 100000 in
set_option maxHeartbeats 4000000 in
theorem wsL_in_r19 : ∀ w ∈ wsL_law0_r19, w ∈ lw_tbl := List.forall_mem_cons.mpr ⟨List.mem_of_getElem? (i := 161) (by decide +kernel), List.forall_mem_cons.mpr ⟨List.mem_of_getElem? (i := 162) rfl, List.forall_mem_cons.mpr ⟨List.mem_of_getElem? (i := 739) (by decide +kernel), List.forall_mem_cons.mpr ⟨List.mem_of_getElem? (i := 740) (by decide +kernel), List.forall_mem_cons.mpr ⟨List.mem_of_getElem? (i := 741) (by decide +kernel), List.forall_mem_cons.mpr ⟨List.mem_of_getElem? (i := 742) rfl, List.forall_mem_cons.mpr ⟨List.mem_of_getElem? (i := 163) (by decide +kernel), List.forall_mem_cons.mpr ⟨List.mem_of_getElem? (i := 164) (by decide +kernel), List.forall_mem_cons.mpr ⟨List.mem_of_getElem? (i := 165) (by decide +kernel), List.forall_mem_cons.mpr ⟨List.mem_of_getElem? (i := 166) rfl, List.forall_mem_cons.mpr ⟨List.mem_of_getElem? (i := 743) (by decide +kernel), List.forall_mem_cons.mpr ⟨List.mem_of_getElem? (i := 744) (by decide +kernel), List.forall_mem_cons.mpr ⟨List.mem_of_getElem? (i := 745) (by decide +kernel), List.forall_mem_cons.mpr ⟨List.mem_of_getElem? (i := 746) rfl, List.forall_mem_cons.mpr ⟨List.mem_of_getElem? (i := 477) (by decide +kernel), List.forall_mem_cons.mpr ⟨List.mem_of_getElem? (i := 478) (by decide +kernel), List.forall_mem_cons.mpr ⟨List.mem_of_getElem? (i := 479) rfl, List.forall_mem_cons.mpr ⟨List.mem_of_getElem? (i := 480) (by decide +kernel), List.forall_mem_cons.mpr ⟨List.mem_of_getElem? (i := 481) (by decide +kernel), List.forall_mem_cons.mpr ⟨List.mem_of_getElem? (i := 482) (by decide +kernel), List.forall_mem_cons.mpr ⟨List.mem_of_getElem? (i := 483) rfl, List.forall_mem_cons.mpr ⟨List.mem_of_getElem? (i := 747) (by decide +kernel), List.forall_mem_cons.mpr ⟨List.mem_of_getElem? (i := 748) (by decide +kernel), List.forall_mem_cons.mpr ⟨List.mem_of_getElem? (i := 749) (by decide +kernel), fun _ h => absurd h List.not_mem_nil⟩⟩⟩⟩⟩⟩⟩⟩⟩⟩⟩⟩⟩⟩⟩⟩⟩⟩⟩⟩⟩⟩⟩⟩
set_option maxRecDepth 100000 in
set_option maxHeartbeats 4000000 in
theorem wsL_in_r20 : ∀ w ∈ wsL_law0_r20, w ∈ lw_tbl := List.forall_mem_cons.mpr ⟨List.mem_of_getElem? (i := 750) rfl, List.forall_mem_cons.mpr ⟨List.mem_of_getElem? (i := 751) (by decide +kernel), List.forall_mem_cons.mpr ⟨List.mem_of_getElem? (i := 753) (by decide +kernel), List.forall_mem_cons.mpr ⟨List.mem_of_getElem? (i := 19) (by decide +kernel), List.forall_mem_cons.mpr ⟨List.mem_of_getElem? (i := 754) rfl, List.forall_mem_cons.mpr ⟨List.mem_of_getElem? (i := 484) (by decide +kernel), List.forall_mem_cons.mpr ⟨List.mem_of_getElem? (i := 485) (by decide +kernel), List.forall_mem_cons.mpr ⟨List.mem_of_getElem? (i := 486) rfl, List.forall_mem_cons.mpr ⟨List.mem_of_getElem? (i := 487) (by decide +kernel), List.forall_mem_cons.mpr ⟨List.mem_of_getElem? (i := 488) (by decide +kernel), List.forall_mem_cons.mpr ⟨List.mem_of_getElem? (i := 489) (by decide +kernel), List.forall_mem_cons.mpr ⟨List.mem_of_getElem? (i := 490) rfl, List.forall_mem_cons.mpr ⟨List.mem_of_getElem? (i := 755) (by decide +kernel), List.forall_mem_cons.mpr ⟨List.mem_of_getElem? (i := 756) (by decide +kernel), List.forall_mem_cons.mpr ⟨List.mem_of_getElem? (i := 757) (by decide +kernel), List.forall_mem_cons.mpr ⟨List.mem_of_getElem? (i := 758) rfl, List.forall_mem_cons.mpr ⟨List.mem_of_getElem? (i := 491) (by decide +kernel), List.forall_mem_cons.mpr ⟨List.mem_of_getElem? (i := 492) (by decide +kernel), List.forall_mem_cons.mpr ⟨List.mem_of_getElem? (i := 493) rfl, List.forall_mem_cons.mpr ⟨List.mem_of_getElem? (i := 494) (by decide +kernel), List.forall_mem_cons.mpr ⟨List.mem_of_getElem? (i := 495) (by decide +kernel), List.forall_mem_cons.mpr ⟨List.mem_of_getElem? (i := 496) (by decide +kernel), List.forall_mem_cons.mpr ⟨List.mem_of_getElem? (i := 497) rfl, List.forall_mem_cons.mpr ⟨List.mem_of_getElem? (i := 77) (by decide +kernel), fun _ h => absurd h List.not_mem_nil⟩⟩⟩⟩⟩⟩⟩⟩⟩⟩⟩⟩⟩⟩⟩⟩⟩⟩⟩⟩⟩⟩⟩⟩
set_option maxRecDepth 100000 in
set_option maxHeartbeats 4000000 in
theorem wsL_in_r21 : ∀ w ∈ wsL_law0_r21, w ∈ lw_tbl := List.forall_mem_cons.mpr ⟨List.mem_of_getElem? (i := 498) (by decide +kernel), List.forall_mem_cons.mpr ⟨List.mem_of_getElem? (i := 499) (by decide +kernel), List.forall_mem_cons.mpr ⟨List.mem_of_getElem? (i := 500) (by decide +kernel), List.forall_mem_cons.mpr ⟨List.mem_of_getElem? (i := 501) rfl, List.forall_mem_cons.mpr ⟨List.mem_of_getElem? (i := 759) (by decide +kernel), List.forall_mem_cons.mpr ⟨List.mem_of_getElem? (i := 760) (by decide +kernel), List.forall_mem_cons.mpr ⟨List.mem_of_getElem? (i := 761) (by decide +kernel), List.forall_mem_cons.mpr ⟨List.mem_of_getElem? (i := 762) rfl, List.forall_mem_cons.mpr ⟨List.mem_of_getElem? (i := 502) (by decide +kernel), List.forall_mem_cons.mpr ⟨List.mem_of_getElem? (i := 503) (by decide +kernel), List.forall_mem_cons.mpr ⟨List.mem_of_getElem? (i := 504) rfl, List.forall_mem_cons.mpr ⟨List.mem_of_getElem? (i := 505) (by decide +kernel), List.forall_mem_cons.mpr ⟨List.mem_of_getElem? (i := 506) (by decide +kernel), List.forall_mem_cons.mpr ⟨List.mem_of_getElem? (i := 507) (by decide +kernel), List.forall_mem_cons.mpr ⟨List.mem_of_getElem? (i := 508) rfl, List.forall_mem_cons.mpr ⟨List.mem_of_getElem? (i := 86) (by decide +kernel), List.forall_mem_cons.mpr ⟨List.mem_of_getElem? (i := 763) (by decide +kernel), List.forall_mem_cons.mpr ⟨List.mem_of_getElem? (i := 764) (by decide +kernel), List.forall_mem_cons.mpr ⟨List.mem_of_getElem? (i := 765) (by decide +kernel), List.forall_mem_cons.mpr ⟨List.mem_of_getElem? (i := 766) rfl, List.forall_mem_cons.mpr ⟨List.mem_of_getElem? (i := 509) (by decide +kernel), List.forall_mem_cons.mpr ⟨List.mem_of_getElem? (i := 510) (by decide +kernel), List.forall_mem_cons.mpr ⟨List.mem_of_getElem? (i := 511) rfl, List.forall_mem_cons.mpr ⟨List.mem_of_getElem? (i := 512) (by decide +kernel), fun _ h => absurd h List.not_mem_nil⟩⟩⟩⟩⟩⟩⟩⟩⟩⟩⟩⟩⟩⟩⟩⟩⟩⟩⟩⟩⟩⟩⟩⟩
set_option maxRecDepth 100000 in
set_option maxHeartbeats 4000000 in
theorem wsL_in_r22 : ∀ w ∈ wsL_law0_r22, w ∈ lw_tbl := List.forall_mem_cons.mpr ⟨List.mem_of_getElem? (i := 513) (by decide +kernel), List.forall_mem_cons.mpr ⟨List.mem_of_getElem? (i := 514) (by decide +kernel), List.forall_mem_cons.mpr ⟨List.mem_of_getElem? (i := 515) rfl, List.forall_mem_cons.mpr ⟨List.mem_of_getElem? (i := 767) (by decide +kernel), List.forall_mem_cons.mpr ⟨List.mem_of_getElem? (i := 768) (by decide +kernel), List.forall_mem_cons.mpr ⟨List.mem_of_getElem? (i := 769) (by decide +kernel), List.forall_mem_cons.mpr ⟨List.mem_of_getElem? (i := 770) rfl, List.forall_mem_cons.mpr ⟨List.mem_of_getElem? (i := 516) (by decide +kernel), List.forall_mem_cons.mpr ⟨List.mem_of_getElem? (i := 517) (by decide +kernel), List.forall_mem_cons.mpr ⟨List.mem_of_getElem? (i := 518) rfl, List.forall_mem_cons.mpr ⟨List.mem_of_getElem? (i := 519) (by decide +kernel), List.forall_mem_cons.mpr ⟨List.mem_of_getElem? (i := 520) (by decide +kernel), List.forall_mem_cons.mpr ⟨List.mem_of_getElem? (i := 521) (by decide +kernel), List.forall_mem_cons.mpr ⟨List.mem_of_getElem? (i := 522) rfl, List.forall_mem_cons.mpr ⟨List.mem_of_getElem? (i := 90) (by decide +kernel), List.forall_mem_cons.mpr ⟨List.mem_of_getElem? (i := 771) (by decide +kernel), List.forall_mem_cons.mpr ⟨List.mem_of_getElem? (i := 772) (by decide +kernel), List.forall_mem_cons.mpr ⟨List.mem_of_getElem? (i := 773) (by decide +kernel), List.forall_mem_cons.mpr ⟨List.mem_of_getElem? (i := 774) rfl, List.forall_mem_cons.mpr ⟨List.mem_of_getElem? (i := 523) (by decide +kernel), List.forall_mem_cons.mpr ⟨List.mem_of_getElem? (i := 524) (by decide +kernel), List.forall_mem_cons.mpr ⟨List.mem_of_getElem? (i := 525) rfl, List.forall_mem_cons.mpr ⟨List.mem_of_getElem? (i := 526) (by decide +kernel), List.forall_mem_cons.mpr ⟨List.mem_of_getElem? (i := 527) (by decide +kernel), fun _ h => absurd h List.not_mem_nil⟩⟩⟩⟩⟩⟩⟩⟩⟩⟩⟩⟩⟩⟩⟩⟩⟩⟩⟩⟩⟩⟩⟩⟩
set_option maxRecDepth 100000 in
set_option maxHeartbeats 4000000 in
theorem wsL_in_r23 : ∀ w ∈ wsL_law0_r23, w ∈ lw_tbl := List.forall_mem_cons.mpr ⟨List.mem_of_getElem? (i := 528) (by decide +kernel), List.forall_mem_cons.mpr ⟨List.mem_of_getElem? (i := 529) rfl, List.forall_mem_cons.mpr ⟨List.mem_of_getElem? (i := 81) (by decide +kernel), List.forall_mem_cons.mpr ⟨List.mem_of_getElem? (i := 775) (by decide +kernel), List.forall_mem_cons.mpr ⟨List.mem_of_getElem? (i := 776) (by decide +kernel), List.forall_mem_cons.mpr ⟨List.mem_of_getElem? (i := 777) (by decide +kernel), List.forall_mem_cons.mpr ⟨List.mem_of_getElem? (i := 778) rfl, List.forall_mem_cons.mpr ⟨List.mem_of_getElem? (i := 530) (by decide +kernel), List.forall_mem_cons.mpr ⟨List.mem_of_getElem? (i := 531) (by decide +kernel), List.forall_mem_cons.mpr ⟨List.mem_of_getElem? (i := 532) rfl, List.forall_mem_cons.mpr ⟨List.mem_of_getElem? (i := 533) (by decide +kernel), List.forall_mem_cons.mpr ⟨List.mem_of_getElem? (i := 534) (by decide +kernel), List.forall_mem_cons.mpr ⟨List.mem_of_getElem? (i := 535) (by decide +kernel), List.forall_mem_cons.mpr ⟨List.mem_of_getElem? (i := 536) rfl, List.forall_mem_cons.mpr ⟨List.mem_of_getElem? (i := 83) (by decide +kernel), List.forall_mem_cons.mpr ⟨List.mem_of_getElem? (i := 779) (by decide +kernel), List.forall_mem_cons.mpr ⟨List.mem_of_getElem? (i := 780) (by decide +kernel), List.forall_mem_cons.mpr ⟨List.mem_of_getElem? (i := 781) (by decide +kernel), List.forall_mem_cons.mpr ⟨List.mem_of_getElem? (i := 782) rfl, List.forall_mem_cons.mpr ⟨List.mem_of_getElem? (i := 537) (by decide +kernel), List.forall_mem_cons.mpr ⟨List.mem_of_getElem? (i := 538) (by decide +kernel), List.forall_mem_cons.mpr ⟨List.mem_of_getElem? (i := 539) rfl, List.forall_mem_cons.mpr ⟨List.mem_of_getElem? (i := 540) (by decide +kernel), List.forall_mem_cons.mpr ⟨List.mem_of_getElem? (i := 541) (by decide +kernel), fun _ h => absurd h List.not_mem_nil⟩⟩⟩⟩⟩⟩⟩⟩⟩⟩⟩⟩⟩⟩⟩⟩⟩⟩⟩⟩⟩⟩⟩⟩
set_option maxRecDepth 100000 in
set_option maxHeartbeats 4000000 in
theorem wsL_in_r24 : ∀ w ∈ wsL_law0_r24, w ∈ lw_tbl := List.forall_mem_cons.mpr ⟨List.mem_of_getElem? (i := 542) (by decide +kernel), List.forall_mem_cons.mpr ⟨List.mem_of_getElem? (i := 543) rfl, List.forall_mem_cons.mpr ⟨List.mem_of_getElem? (i := 79) (by decide +kernel), List.forall_mem_cons.mpr ⟨List.mem_of_getElem? (i := 783) (by decide +kernel), List.forall_mem_cons.mpr ⟨List.mem_of_getElem? (i := 784) (by decide +kernel), List.forall_mem_cons.mpr ⟨List.mem_of_getElem? (i := 785) (by decide +kernel), List.forall_mem_cons.mpr ⟨List.mem_of_getElem? (i := 786) rfl, fun _ h => absurd h List.not_mem_nil⟩⟩⟩⟩⟩⟩⟩
set_option maxRecDepth 100000 in
set_option maxHeartbeats 4000000 in
theorem wsL_in_X2 : ∀ w ∈ wsX20, w ∈ lw_tbl := by decide +kernel
set_option maxRecDepth 100000 in
set_option maxHeartbeats 4000000 in
theorem wsL_in_X3 : ∀ w ∈ wsX30, w ∈ lw_tbl := by decide +kernel
set_option maxRecDepth 100000 in
set_option maxHeartbeats 4000000 in
theorem wsL_in_X0 : ∀ w ∈ wsX00, w ∈ lw_tbl := by decide +kernel
set_option maxRecDepth 100000 in
set_option maxHeartbeats 4000000 in
theorem wsL_in_X1 : ∀ w ∈ wsX10, w ∈ lw_tbl := by decide +kernel
theorem wsL_law_in0 : ∀ w ∈ wsL_law0, w ∈ lw_tbl := fun w h => (List.mem_append.mp h).elim (fun h => (List.mem_append.mp h).elim (fun h => (List.mem_append.mp h).elim (fun h => (List.mem_append.mp h).elim (fun h => (List.mem_append.mp h).elim (fun h => (List.mem_append.mp h).elim (fun h => wsL_in_r1 w h) (fun h => (List.mem_append.mp h).elim (fun h => wsL_in_r2 w h) (fun h => (List.mem_append.mp h).elim (fun h => wsL_in_r3 w h) (fun h => (List.mem_append.mp h).elim (fun h => wsL_in_r4 w h) (fun h => (List.mem_append.mp h).elim (fun h => wsL_in_r5 w h) (fun h => (List.mem_append.mp h).elim (fun h => wsL_in_r6 w h) (fun h => (List.mem_append.mp h).elim (fun h => wsL_in_r7 w h) (fun h => (List.mem_append.mp h).elim (fun h => wsL_in_r8 w h) (fun h => (List.mem_append.mp h).elim (fun h => wsL_in_r9 w h) (fun h => (List.mem_append.mp h).elim (fun h => wsL_in_r10 w h) (fun h => (List.mem_append.mp h).elim (fun h => wsL_in_r11 w h) (fun h => (List.mem_append.mp h).elim (fun h => wsL_in_r12 w h) (fun h => (List.mem_append.mp h).elim (fun h => wsL_in_r13 w h) (fun h => (List.mem_append.mp h).elim (fun h => wsL_in_r14 w h) (fun h => (List.mem_append.mp h).elim (fun h => wsL_in_r15 w h) (fun h => (List.mem_append.mp h).elim (fun h => wsL_in_r16 w h) (fun h => (List.mem_append.mp h).elim (fun h => wsL_in_r17 w h) (fun h => (List.mem_append.mp h).elim (fun h => wsL_in_r18 w h) (fun h => (List.mem_append.mp h).elim (fun h => wsL_in_r19 w h) (fun h => (List.mem_append.mp h).elim (fun h => wsL_in_r20 w h) (fun h => (List.mem_append.mp h).elim (fun h => wsL_in_r21 w h) (fun h => (List.mem_append.mp h).elim (fun h => wsL_in_r22 w h) (fun h => (List.mem_append.mp h).elim (fun h => wsL_in_r23 w h) (fun h => wsL_in_r24 w h)))))))))))))))))))))))) (fun h => wsL_in_X2 w h)) (fun h => wsL_in_X3 w h)) (fun h => wsL_in_X0 w h)) (fun h => wsL_in_X1 w h)) (fun h => absurd h List.not_mem_nil)
theorem wsL_law_x0 : ∀ w ∈ (vx_atS RX2 41 "java/lang/IndexOutOfBoundsException" ["java/lang/RuntimeException", "java/lang/Exception"]).filter goodWord, w ∈ lw_tbl := by decide +kernel
theorem wsL_law_x1 : ∀ w ∈ (vx_atS RX2 179 "java/lang/IllegalArgumentException" ["java/lang/RuntimeException", "java/lang/Exception"]).filter goodWord, w ∈ lw_tbl := by decide +kernel
theorem wsL_law_x2 : ∀ w ∈ (vx_atS RX2 184 "java/lang/IllegalStateException" ["java/lang/RuntimeException", "java/lang/Exception"]).filter goodWord, w ∈ lw_tbl := by decide +kernel
theorem wsL_law_in : ∀ w ∈ wsL_law, w ∈ lw_tbl := fun w h => (List.mem_append.mp h).elim (fun h => (List.mem_append.mp h).elim (fun h => (List.mem_append.mp h).elim (fun h => wsL_law_in0 w h) (fun h => wsL_law_x0 w h)) (fun h => wsL_law_x1 w h)) (fun h => wsL_law_x2 w h)
theorem inlX0 : ∀ w ∈ wsX00, w ∈ wsL_law := fun _ h => List.mem_append_left _ (List.mem_append_left _ (List.mem_append_left _ (List.mem_append_left _ (List.mem_append_left _ (List.mem_append_right _ h)))))
theorem inX0 : ∀ w ∈ wsX00, w ∈ lw_tbl := fun w h => wsL_law_in w (inlX0 w h)
theorem inlX1 : ∀ w ∈ wsX10, w ∈ wsL_law := fun _ h => List.mem_append_left _ (List.mem_append_left _ (List.mem_append_left _ (List.mem_append_left _ (List.mem_append_right _ h))))
theorem inX1 : ∀ w ∈ wsX10, w ∈ lw_tbl := fun w h => wsL_law_in w (inlX1 w h)
theorem inlX2 : ∀ w ∈ wsX20, w ∈ wsL_law := fun _ h => List.mem_append_left _ (List.mem_append_left _ (List.mem_append_left _ (List.mem_append_left _ (List.mem_append_left _ (List.mem_append_left _ (List.mem_append_left _ (List.mem_append_right _ h)))))))
theorem inX2 : ∀ w ∈ wsX20, w ∈ lw_tbl := fun w h => wsL_law_in w (inlX2 w h)
theorem inlX3 : ∀ w ∈ wsX30, w ∈ wsL_law := fun _ h => List.mem_append_left _ (List.mem_append_left _ (List.mem_append_left _ (List.mem_append_left _ (List.mem_append_left _ (List.mem_append_left _ (List.mem_append_right _ h))))))
theorem inX3 : ∀ w ∈ wsX30, w ∈ lw_tbl := fun w h => wsL_law_in w (inlX3 w h)
theorem inJ9 : ∀ w ∈ wsJ90, w ∈ lw_tbl := by decide +kernel
theorem inJ0 : ∀ w ∈ wsJ00, w ∈ lw_tbl := by decide +kernel
end
section
theorem dJ9_min_7cf53_0 : decode cJ9_min_7cf53 0 = .ok (.iload_n 0, 1) := by decide +kernel
theorem dJ9_min_7cf53_1 : decode cJ9_min_7cf53 1 = .ok (.iload_n 1, 1) := by decide +kernel
theorem dJ9_min_7cf53_2 : decode cJ9_min_7cf53 2 = .ok (.if_icmp .gt 7, 3) := by decide +kernel
theorem dJ9_min_7cf53_5 : decode cJ9_min_7cf53 5 = .ok (.iload_n 0, 1) := by decide +kernel
theorem dJ9_min_7cf53_6 : decode cJ9_min_7cf53 6 = .ok (.goto 4, 3) := by decide +kernel
theorem dJ9_min_7cf53_9 : decode cJ9_min_7cf53 9 = .ok (.iload_n 1, 1) := by decide +kernel
theorem dJ9_min_7cf53_10 : decode cJ9_min_7cf53 10 = .ok (.ireturn, 1) := by decide +kernel
theorem dJ9_min_f86c9_0 : decode cJ9_min_f86c9 0 = .ok (.lload_n 0, 1) := by decide +kernel
theorem dJ9_min_f86c9_1 : decode cJ9_min_f86c9 1 = .ok (.lload_n 2, 1) := by decide +kernel
theorem dJ9_min_f86c9_2 : decode cJ9_min_f86c9 2 = .ok (.lcmp, 1) := by decide +kernel
theorem dJ9_min_f86c9_3 : decode cJ9_min_f86c9 3 = .ok (.ifCond .gt 7, 3) := by decide +kernel
theorem dJ9_min_f86c9_6 : decode cJ9_min_f86c9 6 = .ok (.lload_n 0, 1) := by decide +kernel
theorem dJ9_min_f86c9_7 : decode cJ9_min_f86c9 7 = .ok (.goto 4, 3) := by decide +kernel
theorem dJ9_min_f86c9_10 : decode cJ9_min_f86c9 10 = .ok (.lload_n 2, 1) := by decide +kernel
theorem dJ9_min_f86c9_11 : decode cJ9_min_f86c9 11 = .ok (.lreturn, 1) := by decide +kernel
theorem dX0_init_0 : decode cX0_init 0 = .ok (.aload_n 0, 1) := by decide +kernel
theorem dX0_init_1 : decode cX0_init 1 = .ok (.invokespecial 3, 3) := by decide +kernel
theorem dX0_init_4 : decode cX0_init 4 = .ok (.aload_n 0, 1) := by decide +kernel
theorem dX0_init_5 : decode cX0_init 5 = .ok (.iconst 4, 1) := by decide +kernel
theorem dX0_init_6 : decode cX0_init 6 = .ok (.newarray .int, 2) := by decide +kernel
theorem dX0_init_8 : decode cX0_init 8 = .ok (.putfield 9, 3) := by decide +kernel
theorem dX0_init_11 : decode cX0_init 11 = .ok (.aload_n 0, 1) := by decide +kernel
theorem dX0_init_12 : decode cX0_init 12 = .ok (.bipush 100, 2) := by decide +kernel
theorem dX0_init_14 : decode cX0_init 14 = .ok (.putfield 15, 3) := by decide +kernel
theorem dX0_init_17 : decode cX0_init 17 = .ok (.aload_n 0, 1) := by decide +kernel
theorem dX0_init_18 : decode cX0_init 18 = .ok (.bipush 50, 2) := by decide +kernel
theorem dX0_init_20 : decode cX0_init 20 = .ok (.putfield 19, 3) := by decide +kernel
theorem dX0_init_23 : decode cX0_init 23 = .ok (.iconst 0, 1) := by decide +kernel
theorem dX0_init_24 : decode cX0_init 24 = .ok (.istore_n 1, 1) := by decide +kernel
theorem dX0_init_25 : decode cX0_init 25 = .ok (.iload_n 1, 1) := by decide +kernel
theorem dX0_init_26 : decode cX0_init 26 = .ok (.iconst 4, 1) := by decide +kernel
theorem dX0_init_27 : decode cX0_init 27 = .ok (.if_icmp .ge 18, 3) := by decide +kernel
theorem dX0_init_30 : decode cX0_init 30 = .ok (.aload_n 0, 1) := by decide +kernel
theorem dX0_init_31 : decode cX0_init 31 = .ok (.getfield 9, 3) := by decide +kernel
theorem dX0_init_34 : decode cX0_init 34 = .ok (.iload_n 1, 1) := by decide +kernel
theorem dX0_init_35 : decode cX0_init 35 = .ok (.sipush 1000, 3) := by decide +kernel
theorem dX0_init_38 : decode cX0_init 38 = .ok (.iastore, 1) := by decide +kernel
theorem dX0_init_39 : decode cX0_init 39 = .ok (.iinc 1 1, 3) := by decide +kernel
theorem dX0_init_42 : decode cX0_init 42 = .ok (.goto (-17), 3) := by decide +kernel
theorem dX0_init_45 : decode cX0_init 45 = .ok (.return_, 1) := by decide +kernel
theorem dX0_needUpTo_0 : decode cX0_needUpTo 0 = .ok (.iconst 0, 1) := by decide +kernel
theorem dX0_needUpTo_1 : decode cX0_needUpTo 1 = .ok (.istore_n 2, 1) := by decide +kernel
theorem dX0_needUpTo_2 : decode cX0_needUpTo 2 = .ok (.iconst 0, 1) := by decide +kernel
theorem dX0_needUpTo_3 : decode cX0_needUpTo 3 = .ok (.istore_n 3, 1) := by decide +kernel
theorem dX0_needUpTo_4 : decode cX0_needUpTo 4 = .ok (.iload_n 3, 1) := by decide +kernel
theorem dX0_needUpTo_5 : decode cX0_needUpTo 5 = .ok (.iconst 4, 1) := by decide +kernel
theorem dX0_needUpTo_6 : decode cX0_needUpTo 6 = .ok (.if_icmp .ge 23, 3) := by decide +kernel
theorem dX0_needUpTo_9 : decode cX0_needUpTo 9 = .ok (.iload_n 3, 1) := by decide +kernel
theorem dX0_needUpTo_10 : decode cX0_needUpTo 10 = .ok (.iload_n 1, 1) := by decide +kernel
theorem dX0_needUpTo_11 : decode cX0_needUpTo 11 = .ok (.if_icmp .gt 18, 3) := by decide +kernel
theorem dX0_needUpTo_14 : decode cX0_needUpTo 14 = .ok (.iload_n 2, 1) := by decide +kernel
theorem dX0_needUpTo_15 : decode cX0_needUpTo 15 = .ok (.aload_n 0, 1) := by decide +kernel
theorem dX0_needUpTo_16 : decode cX0_needUpTo 16 = .ok (.getfield 9, 3) := by decide +kernel
theorem dX0_needUpTo_19 : decode cX0_needUpTo 19 = .ok (.iload_n 3, 1) := by decide +kernel
theorem dX0_needUpTo_20 : decode cX0_needUpTo 20 = .ok (.iaload, 1) := by decide +kernel
theorem dX0_needUpTo_21 : decode cX0_needUpTo 21 = .ok (.iadd, 1) := by decide +kernel
theorem dX0_needUpTo_22 : decode cX0_needUpTo 22 = .ok (.istore_n 2, 1) := by decide +kernel
theorem dX0_needUpTo_23 : decode cX0_needUpTo 23 = .ok (.iinc 3 1, 3) := by decide +kernel
theorem dX0_needUpTo_26 : decode cX0_needUpTo 26 = .ok (.goto (-22), 3) := by decide +kernel
theorem dX0_needUpTo_29 : decode cX0_needUpTo 29 = .ok (.iload_n 2, 1) := by decide +kernel
theorem dX0_needUpTo_30 : decode cX0_needUpTo 30 = .ok (.ireturn, 1) := by decide +kernel
theorem dX1_init_0 : decode cX1_init 0 = .ok (.aload_n 0, 1) := by decide +kernel
theorem dX1_init_1 : decode cX1_init 1 = .ok (.invokespecial 3, 3) := by decide +kernel
theorem dX1_init_4 : decode cX1_init 4 = .ok (.aload_n 0, 1) := by decide +kernel
theorem dX1_init_5 : decode cX1_init 5 = .ok (.iconst 0, 1) := by decide +kernel
theorem dX1_init_6 : decode cX1_init 6 = .ok (.putfield 9, 3) := by decide +kernel
theorem dX1_init_9 : decode cX1_init 9 = .ok (.aload_n 0, 1) := by decide +kernel
theorem dX1_init_10 : decode cX1_init 10 = .ok (.lconst 0, 1) := by decide +kernel
theorem dX1_init_11 : decode cX1_init 11 = .ok (.putfield 15, 3) := by decide +kernel
theorem dX1_init_14 : decode cX1_init 14 = .ok (.aload_n 0, 1) := by decide +kernel
theorem dX1_init_15 : decode cX1_init 15 = .ok (.lconst 0, 1) := by decide +kernel
theorem dX1_init_16 : decode cX1_init 16 = .ok (.putfield 19, 3) := by decide +kernel
theorem dX1_init_19 : decode cX1_init 19 = .ok (.aload_n 0, 1) := by decide +kernel
theorem dX1_init_20 : decode cX1_init 20 = .ok (.lconst 0, 1) := by decide +kernel
theorem dX1_init_21 : decode cX1_init 21 = .ok (.putfield 22, 3) := by decide +kernel
theorem dX1_init_24 : decode cX1_init 24 = .ok (.aload_n 0, 1) := by decide +kernel
theorem dX1_init_25 : decode cX1_init 25 = .ok (.lconst 0, 1) := by decide +kernel
theorem dX1_init_26 : decode cX1_init 26 = .ok (.putfield 25, 3) := by decide +kernel
theorem dX1_init_29 : decode cX1_init 29 = .ok (.aload_n 0, 1) := by decide +kernel
theorem dX1_init_30 : decode cX1_init 30 = .ok (.lconst 0, 1) := by decide +kernel
theorem dX1_init_31 : decode cX1_init 31 = .ok (.putfield 28, 3) := by decide +kernel
theorem dX1_init_34 : decode cX1_init 34 = .ok (.aload_n 0, 1) := by decide +kernel
theorem dX1_init_35 : decode cX1_init 35 = .ok (.iconst 5, 1) := by decide +kernel
theorem dX1_init_36 : decode cX1_init 36 = .ok (.newarray .long, 2) := by decide +kernel
theorem dX1_init_38 : decode cX1_init 38 = .ok (.putfield 31, 3) := by decide +kernel
theorem dX1_init_41 : decode cX1_init 41 = .ok (.aload_n 0, 1) := by decide +kernel
theorem dX1_init_42 : decode cX1_init 42 = .ok (.iconst 3, 1) := by decide +kernel
theorem dX1_init_43 : decode cX1_init 43 = .ok (.newarray .long, 2) := by decide +kernel
theorem dX1_init_45 : decode cX1_init 45 = .ok (.putfield 35, 3) := by decide +kernel
theorem dX1_init_48 : decode cX1_init 48 = .ok (.aload_n 0, 1) := by decide +kernel
theorem dX1_init_49 : decode cX1_init 49 = .ok (.iconst 0, 1) := by decide +kernel
theorem dX1_init_50 : decode cX1_init 50 = .ok (.putfield 38, 3) := by decide +kernel
theorem dX1_init_53 : decode cX1_init 53 = .ok (.aload_n 0, 1) := by decide +kernel
theorem dX1_init_54 : decode cX1_init 54 = .ok (.iconst 0, 1) := by decide +kernel
theorem dX1_init_55 : decode cX1_init 55 = .ok (.putfield 41, 3) := by decide +kernel
theorem dX1_init_58 : decode cX1_init 58 = .ok (.aload_n 0, 1) := by decide +kernel
theorem dX1_init_59 : decode cX1_init 59 = .ok (.iconst 0, 1) := by decide +kernel
theorem dX1_init_60 : decode cX1_init 60 = .ok (.putfield 44, 3) := by decide +kernel
theorem dX1_init_63 : decode cX1_init 63 = .ok (.aload_n 0, 1) := by decide +kernel
theorem dX1_init_64 : decode cX1_init 64 = .ok (.iconst 0, 1) := by decide +kernel
theorem dX1_init_65 : decode cX1_init 65 = .ok (.putfield 47, 3) := by decide +kernel
theorem dX1_init_68 : decode cX1_init 68 = .ok (.aload_n 0, 1) := by decide +kernel
theorem dX1_init_69 : decode cX1_init 69 = .ok (.iconst (-1), 1) := by decide +kernel
theorem dX1_init_70 : decode cX1_init 70 = .ok (.putfield 50, 3) := by decide +kernel
theorem dX1_init_73 : decode cX1_init 73 = .ok (.aload_n 0, 1) := by decide +kernel
theorem dX1_init_74 : decode cX1_init 74 = .ok (.iconst 0, 1) := by decide +kernel
theorem dX1_init_75 : decode cX1_init 75 = .ok (.putfield 53, 3) := by decide +kernel
theorem dX1_init_78 : decode cX1_init 78 = .ok (.aload_n 0, 1) := by decide +kernel
theorem dX1_init_79 : decode cX1_init 79 = .ok (.iconst 0, 1) := by decide +kernel
theorem dX1_init_80 : decode cX1_init 80 = .ok (.putfield 56, 3) := by decide +kernel
theorem dX1_init_83 : decode cX1_init 83 = .ok (.aload_n 0, 1) := by decide +kernel
theorem dX1_init_84 : decode cX1_init 84 = .ok (.bipush 100, 2) := by decide +kernel
theorem dX1_init_86 : decode cX1_init 86 = .ok (.putfield 59, 3) := by decide +kernel
theorem dX1_init_89 : decode cX1_init 89 = .ok (.aload_n 0, 1) := by decide +kernel
theorem dX1_init_90 : decode cX1_init 90 = .ok (.iconst 0, 1) := by decide +kernel
theorem dX1_init_91 : decode cX1_init 91 = .ok (.putfield 62, 3) := by decide +kernel
theorem dX1_init_94 : decode cX1_init 94 = .ok (.return_, 1) := by decide +kernel
theorem dX1_hasPlanted_0 : decode cX1_hasPlanted 0 = .ok (.aload_n 0, 1) := by decide +kernel
theorem dX1_hasPlanted_1 : decode cX1_hasPlanted 1 = .ok (.getfield 50, 3) := by decide +kernel
theorem dX1_hasPlanted_4 : decode cX1_hasPlanted 4 = .ok (.iconst (-1), 1) := by decide +kernel
theorem dX1_hasPlanted_5 : decode cX1_hasPlanted 5 = .ok (.if_icmp .eq 7, 3) := by decide +kernel
theorem dX1_hasPlanted_8 : decode cX1_hasPlanted 8 = .ok (.iconst 1, 1) := by decide +kernel
theorem dX1_hasPlanted_9 : decode cX1_hasPlanted 9 = .ok (.goto 4, 3) := by decide +kernel
theorem dX1_hasPlanted_12 : decode cX1_hasPlanted 12 = .ok (.iconst 0, 1) := by decide +kernel
theorem dX1_hasPlanted_13 : decode cX1_hasPlanted 13 = .ok (.ireturn, 1) := by decide +kernel
theorem dX1_freeGrain_0 : decode cX1_freeGrain 0 = .ok (.aload_n 0, 1) := by decide +kernel
theorem dX1_freeGrain_1 : decode cX1_freeGrain 1 = .ok (.getfield 41, 3) := by decide +kernel
theorem dX1_freeGrain_4 : decode cX1_freeGrain 4 = .ok (.aload_n 0, 1) := by decide +kernel
theorem dX1_freeGrain_5 : decode cX1_freeGrain 5 = .ok (.getfield 44, 3) := by decide +kernel
theorem dX1_freeGrain_8 : decode cX1_freeGrain 8 = .ok (.isub, 1) := by decide +kernel
theorem dX1_freeGrain_9 : decode cX1_freeGrain 9 = .ok (.ireturn, 1) := by decide +kernel
theorem dX1_charge_0 : decode cX1_charge 0 = .ok (.aload_n 0, 1) := by decide +kernel
theorem dX1_charge_1 : decode cX1_charge 1 = .ok (.dup, 1) := by decide +kernel
theorem dX1_charge_2 : decode cX1_charge 2 = .ok (.getfield 19, 3) := by decide +kernel
theorem dX1_charge_5 : decode cX1_charge 5 = .ok (.lload_n 1, 1) := by decide +kernel
theorem dX1_charge_6 : decode cX1_charge 6 = .ok (.ladd, 1) := by decide +kernel
theorem dX1_charge_7 : decode cX1_charge 7 = .ok (.putfield 19, 3) := by decide +kernel
theorem dX1_charge_10 : decode cX1_charge 10 = .ok (.aload_n 0, 1) := by decide +kernel
theorem dX1_charge_11 : decode cX1_charge 11 = .ok (.dup, 1) := by decide +kernel
theorem dX1_charge_12 : decode cX1_charge 12 = .ok (.getfield 25, 3) := by decide +kernel
theorem dX1_charge_15 : decode cX1_charge 15 = .ok (.lload_n 1, 1) := by decide +kernel
theorem dX1_charge_16 : decode cX1_charge 16 = .ok (.ladd, 1) := by decide +kernel
theorem dX1_charge_17 : decode cX1_charge 17 = .ok (.putfield 25, 3) := by decide +kernel
theorem dX1_charge_20 : decode cX1_charge 20 = .ok (.return_, 1) := by decide +kernel
set_option maxRecDepth 20000 in
theorem ggX1_chargeInterest_X1_charge : GoodIn wsX1_chargeInterest wsX1_charge := goodIn_r _ [8, 1, 9, 10, 11, 12, 13, 14, 15, 16, 17, 18, 19, 20, 21, 22, 23, 24, 25, 26] (by decide +kernel) (by decide +kernel)
set_option maxRecDepth 20000 in
theorem gX1_chargeInterest_X1_charge : GoodIn wsX1_chargeInterest (wsV RX1 69 RX1 yX1_charge wsX1_charge) := goodIn_app (goodIn_of _ (by decide +kernel)) ggX1_chargeInterest_X1_charge
theorem dX1_chargeInterest_0 : decode cX1_chargeInterest 0 = .ok (.aload_n 0, 1) := by decide +kernel
theorem dX1_chargeInterest_1 : decode cX1_chargeInterest 1 = .ok (.aload_n 0, 1) := by decide +kernel
theorem dX1_chargeInterest_2 : decode cX1_chargeInterest 2 = .ok (.getfield 19, 3) := by decide +kernel
theorem dX1_chargeInterest_5 : decode cX1_chargeInterest 5 = .ok (.ldc2_w 65, 3) := by decide +kernel
theorem dX1_chargeInterest_8 : decode cX1_chargeInterest 8 = .ok (.lmul, 1) := by decide +kernel
theorem dX1_chargeInterest_9 : decode cX1_chargeInterest 9 = .ok (.ldc2_w 67, 3) := by decide +kernel
theorem dX1_chargeInterest_12 : decode cX1_chargeInterest 12 = .ok (.ldiv, 1) := by decide +kernel
theorem dX1_chargeInterest_13 : decode cX1_chargeInterest 13 = .ok (.invokevirtual 69, 3) := by decide +kernel
theorem dX1_chargeInterest_16 : decode cX1_chargeInterest 16 = .ok (.return_, 1) := by decide +kernel
theorem dX1_lowerDebt_0 : decode cX1_lowerDebt 0 = .ok (.aload_n 0, 1) := by decide +kernel
theorem dX1_lowerDebt_1 : decode cX1_lowerDebt 1 = .ok (.dup, 1) := by decide +kernel
theorem dX1_lowerDebt_2 : decode cX1_lowerDebt 2 = .ok (.getfield 19, 3) := by decide +kernel
theorem dX1_lowerDebt_5 : decode cX1_lowerDebt 5 = .ok (.lload_n 1, 1) := by decide +kernel
theorem dX1_lowerDebt_6 : decode cX1_lowerDebt 6 = .ok (.lsub, 1) := by decide +kernel
theorem dX1_lowerDebt_7 : decode cX1_lowerDebt 7 = .ok (.putfield 19, 3) := by decide +kernel
theorem dX1_lowerDebt_10 : decode cX1_lowerDebt 10 = .ok (.iload_n 3, 1) := by decide +kernel
theorem dX1_lowerDebt_11 : decode cX1_lowerDebt 11 = .ok (.ifCond .lt 18, 3) := by decide +kernel
theorem dX1_lowerDebt_14 : decode cX1_lowerDebt 14 = .ok (.iload_n 3, 1) := by decide +kernel
theorem dX1_lowerDebt_15 : decode cX1_lowerDebt 15 = .ok (.iconst 5, 1) := by decide +kernel
theorem dX1_lowerDebt_16 : decode cX1_lowerDebt 16 = .ok (.if_icmp .ge 13, 3) := by decide +kernel
theorem dX1_lowerDebt_19 : decode cX1_lowerDebt 19 = .ok (.aload_n 0, 1) := by decide +kernel
theorem dX1_lowerDebt_20 : decode cX1_lowerDebt 20 = .ok (.getfield 31, 3) := by decide +kernel
theorem dX1_lowerDebt_23 : decode cX1_lowerDebt 23 = .ok (.iload_n 3, 1) := by decide +kernel
theorem dX1_lowerDebt_24 : decode cX1_lowerDebt 24 = .ok (.dup2, 1) := by decide +kernel
theorem dX1_lowerDebt_25 : decode cX1_lowerDebt 25 = .ok (.laload, 1) := by decide +kernel
theorem dX1_lowerDebt_26 : decode cX1_lowerDebt 26 = .ok (.lload_n 1, 1) := by decide +kernel
theorem dX1_lowerDebt_27 : decode cX1_lowerDebt 27 = .ok (.ladd, 1) := by decide +kernel
theorem dX1_lowerDebt_28 : decode cX1_lowerDebt 28 = .ok (.lastore, 1) := by decide +kernel
theorem dX1_lowerDebt_29 : decode cX1_lowerDebt 29 = .ok (.return_, 1) := by decide +kernel
set_option maxRecDepth 20000 in
theorem ggX1_receive_X1_lowerDebt : GoodIn wsX1_receive wsX1_lowerDebt := goodIn_r _ [11, 1, 12, 13, 14, 15, 16, 17, 18, 19, 20, 21, 22, 23, 24, 25, 26, 27, 28, 29] (by decide +kernel) (by decide +kernel)
set_option maxRecDepth 20000 in
theorem gX1_receive_X1_lowerDebt : GoodIn wsX1_receive (wsV RX1 79 RX1 yX1_lowerDebt wsX1_lowerDebt) := goodIn_app (goodIn_of _ (by decide +kernel)) ggX1_receive_X1_lowerDebt
theorem dX1_receive_0 : decode cX1_receive 0 = .ok (.lload_n 1, 1) := by decide +kernel
theorem dX1_receive_1 : decode cX1_receive 1 = .ok (.aload_n 0, 1) := by decide +kernel
theorem dX1_receive_2 : decode cX1_receive 2 = .ok (.getfield 19, 3) := by decide +kernel
theorem dX1_receive_5 : decode cX1_receive 5 = .ok (.invokestatic 73, 3) := by decide +kernel
theorem dX1_receive_8 : decode cX1_receive 8 = .ok (.lstore 4, 2) := by decide +kernel
theorem dX1_receive_10 : decode cX1_receive 10 = .ok (.aload_n 0, 1) := by decide +kernel
theorem dX1_receive_11 : decode cX1_receive 11 = .ok (.lload 4, 2) := by decide +kernel
theorem dX1_receive_13 : decode cX1_receive 13 = .ok (.iload_n 3, 1) := by decide +kernel
theorem dX1_receive_14 : decode cX1_receive 14 = .ok (.invokevirtual 79, 3) := by decide +kernel
theorem dX1_receive_17 : decode cX1_receive 17 = .ok (.aload_n 0, 1) := by decide +kernel
theorem dX1_receive_18 : decode cX1_receive 18 = .ok (.dup, 1) := by decide +kernel
theorem dX1_receive_19 : decode cX1_receive 19 = .ok (.getfield 15, 3) := by decide +kernel
theorem dX1_receive_22 : decode cX1_receive 22 = .ok (.lload_n 1, 1) := by decide +kernel
theorem dX1_receive_23 : decode cX1_receive 23 = .ok (.lload 4, 2) := by decide +kernel
theorem dX1_receive_25 : decode cX1_receive 25 = .ok (.lsub, 1) := by decide +kernel
theorem dX1_receive_26 : decode cX1_receive 26 = .ok (.ladd, 1) := by decide +kernel
theorem dX1_receive_27 : decode cX1_receive 27 = .ok (.putfield 15, 3) := by decide +kernel
theorem dX1_receive_30 : decode cX1_receive 30 = .ok (.return_, 1) := by decide +kernel
set_option maxRecDepth 20000 in
theorem ggX1_repayFromPurse_X1_lowerDebt : GoodIn wsX1_repayFromPurse wsX1_lowerDebt := goodIn_r _ [6, 7, 8, 9, 10, 11, 12, 13, 14, 15, 16, 17, 18, 19, 20, 21, 22, 23, 24, 25] (by decide +kernel) (by decide +kernel)
set_option maxRecDepth 20000 in
theorem gX1_repayFromPurse_X1_lowerDebt : GoodIn wsX1_repayFromPurse (wsV RX1 79 RX1 yX1_lowerDebt wsX1_lowerDebt) := goodIn_app (goodIn_of _ (by decide +kernel)) ggX1_repayFromPurse_X1_lowerDebt
theorem dX1_repayFromPurse_0 : decode cX1_repayFromPurse 0 = .ok (.aload_n 0, 1) := by decide +kernel
theorem dX1_repayFromPurse_1 : decode cX1_repayFromPurse 1 = .ok (.dup, 1) := by decide +kernel
theorem dX1_repayFromPurse_2 : decode cX1_repayFromPurse 2 = .ok (.getfield 15, 3) := by decide +kernel
theorem dX1_repayFromPurse_5 : decode cX1_repayFromPurse 5 = .ok (.lload_n 1, 1) := by decide +kernel
theorem dX1_repayFromPurse_6 : decode cX1_repayFromPurse 6 = .ok (.lsub, 1) := by decide +kernel
theorem dX1_repayFromPurse_7 : decode cX1_repayFromPurse 7 = .ok (.putfield 15, 3) := by decide +kernel
theorem dX1_repayFromPurse_10 : decode cX1_repayFromPurse 10 = .ok (.aload_n 0, 1) := by decide +kernel
theorem dX1_repayFromPurse_11 : decode cX1_repayFromPurse 11 = .ok (.lload_n 1, 1) := by decide +kernel
theorem dX1_repayFromPurse_12 : decode cX1_repayFromPurse 12 = .ok (.iconst 0, 1) := by decide +kernel
theorem dX1_repayFromPurse_13 : decode cX1_repayFromPurse 13 = .ok (.invokevirtual 79, 3) := by decide +kernel
theorem dX1_repayFromPurse_16 : decode cX1_repayFromPurse 16 = .ok (.return_, 1) := by decide +kernel
set_option maxRecDepth 20000 in
theorem ggX1_harvest_X1_receive : GoodIn wsX1_harvest wsX1_receive := goodIn_r _ [14, 15, 16, 17, 18, 19, 20, 21, 22, 23, 13, 24, 25, 26, 27, 28, 29, 30, 31, 32, 33, 34, 35, 36, 37, 38, 39, 40, 41, 42] (by decide +kernel) (by decide +kernel)
set_option maxRecDepth 20000 in
theorem gX1_harvest_X1_receive : GoodIn wsX1_harvest (wsV RX1 91 RX1 yX1_receive wsX1_receive) := goodIn_app (goodIn_of _ (by decide +kernel)) ggX1_harvest_X1_receive
theorem dX1_harvest_0 : decode cX1_harvest 0 = .ok (.aload_n 0, 1) := by decide +kernel
theorem dX1_harvest_1 : decode cX1_harvest 1 = .ok (.getfield 53, 3) := by decide +kernel
theorem dX1_harvest_4 : decode cX1_harvest 4 = .ok (.aload_n 1, 1) := by decide +kernel
theorem dX1_harvest_5 : decode cX1_harvest 5 = .ok (.getfield 83, 3) := by decide +kernel
theorem dX1_harvest_8 : decode cX1_harvest 8 = .ok (.imul, 1) := by decide +kernel
theorem dX1_harvest_9 : decode cX1_harvest 9 = .ok (.istore_n 2, 1) := by decide +kernel
theorem dX1_harvest_10 : decode cX1_harvest 10 = .ok (.aload_n 0, 1) := by decide +kernel
theorem dX1_harvest_11 : decode cX1_harvest 11 = .ok (.dup, 1) := by decide +kernel
theorem dX1_harvest_12 : decode cX1_harvest 12 = .ok (.getfield 41, 3) := by decide +kernel
theorem dX1_harvest_15 : decode cX1_harvest 15 = .ok (.iload_n 2, 1) := by decide +kernel
theorem dX1_harvest_16 : decode cX1_harvest 16 = .ok (.aload_n 0, 1) := by decide +kernel
theorem dX1_harvest_17 : decode cX1_harvest 17 = .ok (.getfield 59, 3) := by decide +kernel
theorem dX1_harvest_20 : decode cX1_harvest 20 = .ok (.imul, 1) := by decide +kernel
theorem dX1_harvest_21 : decode cX1_harvest 21 = .ok (.bipush 100, 2) := by decide +kernel
theorem dX1_harvest_23 : decode cX1_harvest 23 = .ok (.idiv, 1) := by decide +kernel
theorem dX1_harvest_24 : decode cX1_harvest 24 = .ok (.iadd, 1) := by decide +kernel
theorem dX1_harvest_25 : decode cX1_harvest 25 = .ok (.putfield 41, 3) := by decide +kernel
theorem dX1_harvest_28 : decode cX1_harvest 28 = .ok (.aload_n 0, 1) := by decide +kernel
theorem dX1_harvest_29 : decode cX1_harvest 29 = .ok (.aload_n 0, 1) := by decide +kernel
theorem dX1_harvest_30 : decode cX1_harvest 30 = .ok (.getfield 50, 3) := by decide +kernel
theorem dX1_harvest_33 : decode cX1_harvest 33 = .ok (.putfield 47, 3) := by decide +kernel
theorem dX1_harvest_36 : decode cX1_harvest 36 = .ok (.aload_n 0, 1) := by decide +kernel
theorem dX1_harvest_37 : decode cX1_harvest 37 = .ok (.getfield 59, 3) := by decide +kernel
theorem dX1_harvest_40 : decode cX1_harvest 40 = .ok (.aload_n 0, 1) := by decide +kernel
theorem dX1_harvest_41 : decode cX1_harvest 41 = .ok (.getfield 56, 3) := by decide +kernel
theorem dX1_harvest_44 : decode cX1_harvest 44 = .ok (.if_icmp .ge 33, 3) := by decide +kernel
theorem dX1_harvest_47 : decode cX1_harvest 47 = .ok (.iload_n 2, 1) := by decide +kernel
theorem dX1_harvest_48 : decode cX1_harvest 48 = .ok (.i2l, 1) := by decide +kernel
theorem dX1_harvest_49 : decode cX1_harvest 49 = .ok (.aload_n 1, 1) := by decide +kernel
theorem dX1_harvest_50 : decode cX1_harvest 50 = .ok (.getfield 88, 3) := by decide +kernel
theorem dX1_harvest_53 : decode cX1_harvest 53 = .ok (.i2l, 1) := by decide +kernel
theorem dX1_harvest_54 : decode cX1_harvest 54 = .ok (.lmul, 1) := by decide +kernel
theorem dX1_harvest_55 : decode cX1_harvest 55 = .ok (.aload_n 0, 1) := by decide +kernel
theorem dX1_harvest_56 : decode cX1_harvest 56 = .ok (.getfield 56, 3) := by decide +kernel
theorem dX1_harvest_59 : decode cX1_harvest 59 = .ok (.aload_n 0, 1) := by decide +kernel
theorem dX1_harvest_60 : decode cX1_harvest 60 = .ok (.getfield 59, 3) := by decide +kernel
theorem dX1_harvest_63 : decode cX1_harvest 63 = .ok (.isub, 1) := by decide +kernel
theorem dX1_harvest_64 : decode cX1_harvest 64 = .ok (.i2l, 1) := by decide +kernel
theorem dX1_harvest_65 : decode cX1_harvest 65 = .ok (.lmul, 1) := by decide +kernel
theorem dX1_harvest_66 : decode cX1_harvest 66 = .ok (.lstore_n 3, 1) := by decide +kernel
theorem dX1_harvest_67 : decode cX1_harvest 67 = .ok (.aload_n 0, 1) := by decide +kernel
theorem dX1_harvest_68 : decode cX1_harvest 68 = .ok (.lload_n 3, 1) := by decide +kernel
theorem dX1_harvest_69 : decode cX1_harvest 69 = .ok (.ldc2_w 67, 3) := by decide +kernel
theorem dX1_harvest_72 : decode cX1_harvest 72 = .ok (.ldiv, 1) := by decide +kernel
theorem dX1_harvest_73 : decode cX1_harvest 73 = .ok (.iconst 1, 1) := by decide +kernel
theorem dX1_harvest_74 : decode cX1_harvest 74 = .ok (.invokevirtual 91, 3) := by decide +kernel
theorem dX1_harvest_77 : decode cX1_harvest 77 = .ok (.return_, 1) := by decide +kernel
set_option maxRecDepth 20000 in
theorem ggX1_pledgeUnits_X1_receive : GoodIn wsX1_pledgeUnits wsX1_receive := goodIn_r _ [9, 10, 11, 12, 13, 14, 15, 16, 17, 18, 8, 19, 20, 21, 22, 23, 24, 25, 26, 27, 28, 29, 30, 31, 32, 33, 34, 35, 36, 37] (by decide +kernel) (by decide +kernel)
set_option maxRecDepth 20000 in
theorem gX1_pledgeUnits_X1_receive : GoodIn wsX1_pledgeUnits (wsV RX1 91 RX1 yX1_receive wsX1_receive) := goodIn_app (goodIn_of _ (by decide +kernel)) ggX1_pledgeUnits_X1_receive
theorem dX1_pledgeUnits_0 : decode cX1_pledgeUnits 0 = .ok (.iload_n 1, 1) := by decide +kernel
theorem dX1_pledgeUnits_1 : decode cX1_pledgeUnits 1 = .ok (.i2l, 1) := by decide +kernel
theorem dX1_pledgeUnits_2 : decode cX1_pledgeUnits 2 = .ok (.iload_n 2, 1) := by decide +kernel
theorem dX1_pledgeUnits_3 : decode cX1_pledgeUnits 3 = .ok (.i2l, 1) := by decide +kernel
theorem dX1_pledgeUnits_4 : decode cX1_pledgeUnits 4 = .ok (.lmul, 1) := by decide +kernel
theorem dX1_pledgeUnits_5 : decode cX1_pledgeUnits 5 = .ok (.ldc2_w 94, 3) := by decide +kernel
theorem dX1_pledgeUnits_8 : decode cX1_pledgeUnits 8 = .ok (.lmul, 1) := by decide +kernel
theorem dX1_pledgeUnits_9 : decode cX1_pledgeUnits 9 = .ok (.ldc2_w 67, 3) := by decide +kernel
theorem dX1_pledgeUnits_12 : decode cX1_pledgeUnits 12 = .ok (.ldiv, 1) := by decide +kernel
theorem dX1_pledgeUnits_13 : decode cX1_pledgeUnits 13 = .ok (.lstore_n 3, 1) := by decide +kernel
theorem dX1_pledgeUnits_14 : decode cX1_pledgeUnits 14 = .ok (.aload_n 0, 1) := by decide +kernel
theorem dX1_pledgeUnits_15 : decode cX1_pledgeUnits 15 = .ok (.dup, 1) := by decide +kernel
theorem dX1_pledgeUnits_16 : decode cX1_pledgeUnits 16 = .ok (.getfield 44, 3) := by decide +kernel
theorem dX1_pledgeUnits_19 : decode cX1_pledgeUnits 19 = .ok (.iload_n 1, 1) := by decide +kernel
theorem dX1_pledgeUnits_20 : decode cX1_pledgeUnits 20 = .ok (.iadd, 1) := by decide +kernel
theorem dX1_pledgeUnits_21 : decode cX1_pledgeUnits 21 = .ok (.putfield 44, 3) := by decide +kernel
theorem dX1_pledgeUnits_24 : decode cX1_pledgeUnits 24 = .ok (.aload_n 0, 1) := by decide +kernel
theorem dX1_pledgeUnits_25 : decode cX1_pledgeUnits 25 = .ok (.dup, 1) := by decide +kernel
theorem dX1_pledgeUnits_26 : decode cX1_pledgeUnits 26 = .ok (.getfield 22, 3) := by decide +kernel
theorem dX1_pledgeUnits_29 : decode cX1_pledgeUnits 29 = .ok (.lload_n 3, 1) := by decide +kernel
theorem dX1_pledgeUnits_30 : decode cX1_pledgeUnits 30 = .ok (.ladd, 1) := by decide +kernel
theorem dX1_pledgeUnits_31 : decode cX1_pledgeUnits 31 = .ok (.putfield 22, 3) := by decide +kernel
theorem dX1_pledgeUnits_34 : decode cX1_pledgeUnits 34 = .ok (.aload_n 0, 1) := by decide +kernel
theorem dX1_pledgeUnits_35 : decode cX1_pledgeUnits 35 = .ok (.lload_n 3, 1) := by decide +kernel
theorem dX1_pledgeUnits_36 : decode cX1_pledgeUnits 36 = .ok (.iconst 2, 1) := by decide +kernel
theorem dX1_pledgeUnits_37 : decode cX1_pledgeUnits 37 = .ok (.invokevirtual 91, 3) := by decide +kernel
theorem dX1_pledgeUnits_40 : decode cX1_pledgeUnits 40 = .ok (.lload_n 3, 1) := by decide +kernel
theorem dX1_pledgeUnits_41 : decode cX1_pledgeUnits 41 = .ok (.lreturn, 1) := by decide +kernel
set_option maxRecDepth 20000 in
theorem ggX1_sellUnits_X1_freeGrain : GoodIn wsX1_sellUnits wsX1_freeGrain := goodIn_r _ [15, 9, 10, 36, 37, 38, 39, 40, 41, 42, 43, 44, 45, 46, 47, 48, 49, 50, 51, 52] (by decide +kernel) (by decide +kernel)
set_option maxRecDepth 20000 in
theorem gX1_sellUnits_X1_freeGrain : GoodIn wsX1_sellUnits (wsV RX1 96 RX1 yX1_freeGrain wsX1_freeGrain) := goodIn_app (goodIn_of _ (by decide +kernel)) ggX1_sellUnits_X1_freeGrain
set_option maxRecDepth 20000 in
theorem ggX1_sellUnits_X1_receive : GoodIn wsX1_sellUnits wsX1_receive := goodIn_r _ [19, 20, 6, 7, 3, 8, 21, 22, 23, 24, 14, 25, 26, 36, 37, 38, 39, 40, 41, 42, 43, 44, 45, 46, 47, 48, 49, 50, 51, 52] (by decide +kernel) (by decide +kernel)
set_option maxRecDepth 20000 in
theorem gX1_sellUnits_X1_receive : GoodIn wsX1_sellUnits (wsV RX1 91 RX1 yX1_receive wsX1_receive) := goodIn_app (goodIn_of _ (by decide +kernel)) ggX1_sellUnits_X1_receive
set_option maxRecDepth 20000 in
theorem ggX1_sellUnits_X1_moveRestOfPledgeDebt : GoodIn wsX1_sellUnits wsX1_moveRestOfPledgeDebt := goodIn_r _ [30, 5, 31, 32, 33, 14, 34, 20, 35, 36, 37, 38, 39, 40, 41, 42, 43, 44, 45, 46, 47, 48, 49, 50, 51, 52] (by decide +kernel) (by decide +kernel)
set_option maxRecDepth 20000 in
theorem gX1_sellUnits_X1_moveRestOfPledgeDebt : GoodIn wsX1_sellUnits (wsV RX1 103 RX1 yX1_moveRestOfPledgeDebt wsX1_moveRestOfPledgeDebt) := goodIn_app (goodIn_of _ (by decide +kernel)) ggX1_sellUnits_X1_moveRestOfPledgeDebt
theorem dX1_sellUnits_0 : decode cX1_sellUnits 0 = .ok (.iload_n 1, 1) := by decide +kernel
theorem dX1_sellUnits_1 : decode cX1_sellUnits 1 = .ok (.aload_n 0, 1) := by decide +kernel
theorem dX1_sellUnits_2 : decode cX1_sellUnits 2 = .ok (.invokevirtual 96, 3) := by decide +kernel
theorem dX1_sellUnits_5 : decode cX1_sellUnits 5 = .ok (.invokestatic 100, 3) := by decide +kernel
theorem dX1_sellUnits_8 : decode cX1_sellUnits 8 = .ok (.istore_n 3, 1) := by decide +kernel
theorem dX1_sellUnits_9 : decode cX1_sellUnits 9 = .ok (.iload_n 1, 1) := by decide +kernel
theorem dX1_sellUnits_10 : decode cX1_sellUnits 10 = .ok (.iload_n 3, 1) := by decide +kernel
theorem dX1_sellUnits_11 : decode cX1_sellUnits 11 = .ok (.isub, 1) := by decide +kernel
theorem dX1_sellUnits_12 : decode cX1_sellUnits 12 = .ok (.istore 4, 2) := by decide +kernel
theorem dX1_sellUnits_14 : decode cX1_sellUnits 14 = .ok (.iload 4, 2) := by decide +kernel
theorem dX1_sellUnits_16 : decode cX1_sellUnits 16 = .ok (.i2l, 1) := by decide +kernel
theorem dX1_sellUnits_17 : decode cX1_sellUnits 17 = .ok (.iload_n 2, 1) := by decide +kernel
theorem dX1_sellUnits_18 : decode cX1_sellUnits 18 = .ok (.i2l, 1) := by decide +kernel
theorem dX1_sellUnits_19 : decode cX1_sellUnits 19 = .ok (.lmul, 1) := by decide +kernel
theorem dX1_sellUnits_20 : decode cX1_sellUnits 20 = .ok (.lstore 5, 2) := by decide +kernel
theorem dX1_sellUnits_22 : decode cX1_sellUnits 22 = .ok (.lload 5, 2) := by decide +kernel
theorem dX1_sellUnits_24 : decode cX1_sellUnits 24 = .ok (.aload_n 0, 1) := by decide +kernel
theorem dX1_sellUnits_25 : decode cX1_sellUnits 25 = .ok (.getfield 22, 3) := by decide +kernel
theorem dX1_sellUnits_28 : decode cX1_sellUnits 28 = .ok (.invokestatic 73, 3) := by decide +kernel
theorem dX1_sellUnits_31 : decode cX1_sellUnits 31 = .ok (.lstore 7, 2) := by decide +kernel
theorem dX1_sellUnits_33 : decode cX1_sellUnits 33 = .ok (.aload_n 0, 1) := by decide +kernel
theorem dX1_sellUnits_34 : decode cX1_sellUnits 34 = .ok (.dup, 1) := by decide +kernel
theorem dX1_sellUnits_35 : decode cX1_sellUnits 35 = .ok (.getfield 41, 3) := by decide +kernel
theorem dX1_sellUnits_38 : decode cX1_sellUnits 38 = .ok (.iload_n 1, 1) := by decide +kernel
theorem dX1_sellUnits_39 : decode cX1_sellUnits 39 = .ok (.isub, 1) := by decide +kernel
theorem dX1_sellUnits_40 : decode cX1_sellUnits 40 = .ok (.putfield 41, 3) := by decide +kernel
theorem dX1_sellUnits_43 : decode cX1_sellUnits 43 = .ok (.aload_n 0, 1) := by decide +kernel
theorem dX1_sellUnits_44 : decode cX1_sellUnits 44 = .ok (.dup, 1) := by decide +kernel
theorem dX1_sellUnits_45 : decode cX1_sellUnits 45 = .ok (.getfield 44, 3) := by decide +kernel
theorem dX1_sellUnits_48 : decode cX1_sellUnits 48 = .ok (.iload 4, 2) := by decide +kernel
theorem dX1_sellUnits_50 : decode cX1_sellUnits 50 = .ok (.isub, 1) := by decide +kernel
theorem dX1_sellUnits_51 : decode cX1_sellUnits 51 = .ok (.putfield 44, 3) := by decide +kernel
theorem dX1_sellUnits_54 : decode cX1_sellUnits 54 = .ok (.aload_n 0, 1) := by decide +kernel
theorem dX1_sellUnits_55 : decode cX1_sellUnits 55 = .ok (.dup, 1) := by decide +kernel
theorem dX1_sellUnits_56 : decode cX1_sellUnits 56 = .ok (.getfield 22, 3) := by decide +kernel
theorem dX1_sellUnits_59 : decode cX1_sellUnits 59 = .ok (.lload 7, 2) := by decide +kernel
theorem dX1_sellUnits_61 : decode cX1_sellUnits 61 = .ok (.lsub, 1) := by decide +kernel
theorem dX1_sellUnits_62 : decode cX1_sellUnits 62 = .ok (.putfield 22, 3) := by decide +kernel
theorem dX1_sellUnits_65 : decode cX1_sellUnits 65 = .ok (.aload_n 0, 1) := by decide +kernel
theorem dX1_sellUnits_66 : decode cX1_sellUnits 66 = .ok (.iload_n 3, 1) := by decide +kernel
theorem dX1_sellUnits_67 : decode cX1_sellUnits 67 = .ok (.i2l, 1) := by decide +kernel
theorem dX1_sellUnits_68 : decode cX1_sellUnits 68 = .ok (.iload_n 2, 1) := by decide +kernel
theorem dX1_sellUnits_69 : decode cX1_sellUnits 69 = .ok (.i2l, 1) := by decide +kernel
theorem dX1_sellUnits_70 : decode cX1_sellUnits 70 = .ok (.lmul, 1) := by decide +kernel
theorem dX1_sellUnits_71 : decode cX1_sellUnits 71 = .ok (.lload 5, 2) := by decide +kernel
theorem dX1_sellUnits_73 : decode cX1_sellUnits 73 = .ok (.ladd, 1) := by decide +kernel
theorem dX1_sellUnits_74 : decode cX1_sellUnits 74 = .ok (.lload 7, 2) := by decide +kernel
theorem dX1_sellUnits_76 : decode cX1_sellUnits 76 = .ok (.lsub, 1) := by decide +kernel
theorem dX1_sellUnits_77 : decode cX1_sellUnits 77 = .ok (.iconst 3, 1) := by decide +kernel
theorem dX1_sellUnits_78 : decode cX1_sellUnits 78 = .ok (.invokevirtual 91, 3) := by decide +kernel
theorem dX1_sellUnits_81 : decode cX1_sellUnits 81 = .ok (.aload_n 0, 1) := by decide +kernel
theorem dX1_sellUnits_82 : decode cX1_sellUnits 82 = .ok (.getfield 44, 3) := by decide +kernel
theorem dX1_sellUnits_85 : decode cX1_sellUnits 85 = .ok (.ifCond .ne 7, 3) := by decide +kernel
theorem dX1_sellUnits_88 : decode cX1_sellUnits 88 = .ok (.aload_n 0, 1) := by decide +kernel
theorem dX1_sellUnits_89 : decode cX1_sellUnits 89 = .ok (.invokevirtual 103, 3) := by decide +kernel
theorem dX1_sellUnits_92 : decode cX1_sellUnits 92 = .ok (.iload_n 1, 1) := by decide +kernel
theorem dX1_sellUnits_93 : decode cX1_sellUnits 93 = .ok (.i2l, 1) := by decide +kernel
theorem dX1_sellUnits_94 : decode cX1_sellUnits 94 = .ok (.iload_n 2, 1) := by decide +kernel
theorem dX1_sellUnits_95 : decode cX1_sellUnits 95 = .ok (.i2l, 1) := by decide +kernel
theorem dX1_sellUnits_96 : decode cX1_sellUnits 96 = .ok (.lmul, 1) := by decide +kernel
theorem dX1_sellUnits_97 : decode cX1_sellUnits 97 = .ok (.lreturn, 1) := by decide +kernel
set_option maxRecDepth 20000 in
theorem ggX1_moveRestOfPledgeDebt_X1_charge : GoodIn wsX1_moveRestOfPledgeDebt wsX1_charge := goodIn_r _ [6, 7, 8, 9, 10, 11, 12, 13, 14, 15, 16, 17, 18, 19, 20, 21, 22, 23, 24, 25] (by decide +kernel) (by decide +kernel)
set_option maxRecDepth 20000 in
theorem gX1_moveRestOfPledgeDebt_X1_charge : GoodIn wsX1_moveRestOfPledgeDebt (wsV RX1 69 RX1 yX1_charge wsX1_charge) := goodIn_app (goodIn_of _ (by decide +kernel)) ggX1_moveRestOfPledgeDebt_X1_charge
theorem dX1_moveRestOfPledgeDebt_0 : decode cX1_moveRestOfPledgeDebt 0 = .ok (.aload_n 0, 1) := by decide +kernel
theorem dX1_moveRestOfPledgeDebt_1 : decode cX1_moveRestOfPledgeDebt 1 = .ok (.aload_n 0, 1) := by decide +kernel
theorem dX1_moveRestOfPledgeDebt_2 : decode cX1_moveRestOfPledgeDebt 2 = .ok (.getfield 22, 3) := by decide +kernel
theorem dX1_moveRestOfPledgeDebt_5 : decode cX1_moveRestOfPledgeDebt 5 = .ok (.invokevirtual 69, 3) := by decide +kernel
theorem dX1_moveRestOfPledgeDebt_8 : decode cX1_moveRestOfPledgeDebt 8 = .ok (.aload_n 0, 1) := by decide +kernel
theorem dX1_moveRestOfPledgeDebt_9 : decode cX1_moveRestOfPledgeDebt 9 = .ok (.lconst 0, 1) := by decide +kernel
theorem dX1_moveRestOfPledgeDebt_10 : decode cX1_moveRestOfPledgeDebt 10 = .ok (.putfield 22, 3) := by decide +kernel
theorem dX1_moveRestOfPledgeDebt_13 : decode cX1_moveRestOfPledgeDebt 13 = .ok (.return_, 1) := by decide +kernel
set_option maxRecDepth 20000 in
theorem ggX1_settleFromPurse_X1_takeInstalment : GoodIn wsX1_settleFromPurse wsX1_takeInstalment := goodIn_r _ [12, 13, 14, 24, 25, 26, 27, 28, 29, 30, 31, 32, 33, 34, 35, 36, 37, 38, 39, 40] (by decide +kernel) (by decide +kernel)
set_option maxRecDepth 20000 in
theorem gX1_settleFromPurse_X1_takeInstalment : GoodIn wsX1_settleFromPurse (wsV RX1 106 RX1 yX1_takeInstalment wsX1_takeInstalment) := goodIn_app (goodIn_of _ (by decide +kernel)) ggX1_settleFromPurse_X1_takeInstalment
set_option maxRecDepth 20000 in
theorem ggX1_settleFromPurse_X1_repayFromPurse : GoodIn wsX1_settleFromPurse wsX1_repayFromPurse := goodIn_r _ [18, 3, 19, 20, 21, 11, 22, 2, 23, 24, 25, 26, 27, 28, 29, 30, 31, 32, 33, 34, 35, 36, 37, 38, 39, 40] (by decide +kernel) (by decide +kernel)
set_option maxRecDepth 20000 in
theorem gX1_settleFromPurse_X1_repayFromPurse : GoodIn wsX1_settleFromPurse (wsV RX1 110 RX1 yX1_repayFromPurse wsX1_repayFromPurse) := goodIn_app (goodIn_of _ (by decide +kernel)) ggX1_settleFromPurse_X1_repayFromPurse
theorem dX1_settleFromPurse_0 : decode cX1_settleFromPurse 0 = .ok (.aload_n 0, 1) := by decide +kernel
theorem dX1_settleFromPurse_1 : decode cX1_settleFromPurse 1 = .ok (.lconst 0, 1) := by decide +kernel
theorem dX1_settleFromPurse_2 : decode cX1_settleFromPurse 2 = .ok (.putfield 28, 3) := by decide +kernel
theorem dX1_settleFromPurse_5 : decode cX1_settleFromPurse 5 = .ok (.aload_n 0, 1) := by decide +kernel
theorem dX1_settleFromPurse_6 : decode cX1_settleFromPurse 6 = .ok (.dup, 1) := by decide +kernel
theorem dX1_settleFromPurse_7 : decode cX1_settleFromPurse 7 = .ok (.getfield 19, 3) := by decide +kernel
theorem dX1_settleFromPurse_10 : decode cX1_settleFromPurse 10 = .ok (.aload_n 0, 1) := by decide +kernel
theorem dX1_settleFromPurse_11 : decode cX1_settleFromPurse 11 = .ok (.invokevirtual 106, 3) := by decide +kernel
theorem dX1_settleFromPurse_14 : decode cX1_settleFromPurse 14 = .ok (.ladd, 1) := by decide +kernel
theorem dX1_settleFromPurse_15 : decode cX1_settleFromPurse 15 = .ok (.putfield 19, 3) := by decide +kernel
theorem dX1_settleFromPurse_18 : decode cX1_settleFromPurse 18 = .ok (.aload_n 0, 1) := by decide +kernel
theorem dX1_settleFromPurse_19 : decode cX1_settleFromPurse 19 = .ok (.aload_n 0, 1) := by decide +kernel
theorem dX1_settleFromPurse_20 : decode cX1_settleFromPurse 20 = .ok (.getfield 19, 3) := by decide +kernel
theorem dX1_settleFromPurse_23 : decode cX1_settleFromPurse 23 = .ok (.aload_n 0, 1) := by decide +kernel
theorem dX1_settleFromPurse_24 : decode cX1_settleFromPurse 24 = .ok (.getfield 15, 3) := by decide +kernel
theorem dX1_settleFromPurse_27 : decode cX1_settleFromPurse 27 = .ok (.invokestatic 73, 3) := by decide +kernel
theorem dX1_settleFromPurse_30 : decode cX1_settleFromPurse 30 = .ok (.invokevirtual 110, 3) := by decide +kernel
theorem dX1_settleFromPurse_33 : decode cX1_settleFromPurse 33 = .ok (.return_, 1) := by decide +kernel
theorem dX1_takeInstalment_0 : decode cX1_takeInstalment 0 = .ok (.iconst 3, 1) := by decide +kernel
theorem dX1_takeInstalment_1 : decode cX1_takeInstalment 1 = .ok (.aload_n 0, 1) := by decide +kernel
theorem dX1_takeInstalment_2 : decode cX1_takeInstalment 2 = .ok (.getfield 38, 3) := by decide +kernel
theorem dX1_takeInstalment_5 : decode cX1_takeInstalment 5 = .ok (.isub, 1) := by decide +kernel
theorem dX1_takeInstalment_6 : decode cX1_takeInstalment 6 = .ok (.istore_n 1, 1) := by decide +kernel
theorem dX1_takeInstalment_7 : decode cX1_takeInstalment 7 = .ok (.iload_n 1, 1) := by decide +kernel
theorem dX1_takeInstalment_8 : decode cX1_takeInstalment 8 = .ok (.ifCond .lt 8, 3) := by decide +kernel
theorem dX1_takeInstalment_11 : decode cX1_takeInstalment 11 = .ok (.iload_n 1, 1) := by decide +kernel
theorem dX1_takeInstalment_12 : decode cX1_takeInstalment 12 = .ok (.iconst 3, 1) := by decide +kernel
theorem dX1_takeInstalment_13 : decode cX1_takeInstalment 13 = .ok (.if_icmp .lt 5, 3) := by decide +kernel
theorem dX1_takeInstalment_16 : decode cX1_takeInstalment 16 = .ok (.lconst 0, 1) := by decide +kernel
theorem dX1_takeInstalment_17 : decode cX1_takeInstalment 17 = .ok (.lreturn, 1) := by decide +kernel
theorem dX1_takeInstalment_18 : decode cX1_takeInstalment 18 = .ok (.aload_n 0, 1) := by decide +kernel
theorem dX1_takeInstalment_19 : decode cX1_takeInstalment 19 = .ok (.dup, 1) := by decide +kernel
theorem dX1_takeInstalment_20 : decode cX1_takeInstalment 20 = .ok (.getfield 38, 3) := by decide +kernel
theorem dX1_takeInstalment_23 : decode cX1_takeInstalment 23 = .ok (.iconst 1, 1) := by decide +kernel
theorem dX1_takeInstalment_24 : decode cX1_takeInstalment 24 = .ok (.isub, 1) := by decide +kernel
theorem dX1_takeInstalment_25 : decode cX1_takeInstalment 25 = .ok (.putfield 38, 3) := by decide +kernel
theorem dX1_takeInstalment_28 : decode cX1_takeInstalment 28 = .ok (.aload_n 0, 1) := by decide +kernel
theorem dX1_takeInstalment_29 : decode cX1_takeInstalment 29 = .ok (.getfield 35, 3) := by decide +kernel
theorem dX1_takeInstalment_32 : decode cX1_takeInstalment 32 = .ok (.iload_n 1, 1) := by decide +kernel
theorem dX1_takeInstalment_33 : decode cX1_takeInstalment 33 = .ok (.laload, 1) := by decide +kernel
theorem dX1_takeInstalment_34 : decode cX1_takeInstalment 34 = .ok (.lreturn, 1) := by decide +kernel
theorem dX1_instalmentSum_0 : decode cX1_instalmentSum 0 = .ok (.lconst 0, 1) := by decide +kernel
theorem dX1_instalmentSum_1 : decode cX1_instalmentSum 1 = .ok (.lstore_n 1, 1) := by decide +kernel
theorem dX1_instalmentSum_2 : decode cX1_instalmentSum 2 = .ok (.iconst 0, 1) := by decide +kernel
theorem dX1_instalmentSum_3 : decode cX1_instalmentSum 3 = .ok (.istore_n 3, 1) := by decide +kernel
theorem dX1_instalmentSum_4 : decode cX1_instalmentSum 4 = .ok (.iload_n 3, 1) := by decide +kernel
theorem dX1_instalmentSum_5 : decode cX1_instalmentSum 5 = .ok (.iconst 3, 1) := by decide +kernel
theorem dX1_instalmentSum_6 : decode cX1_instalmentSum 6 = .ok (.if_icmp .ge 28, 3) := by decide +kernel
theorem dX1_instalmentSum_9 : decode cX1_instalmentSum 9 = .ok (.iload_n 3, 1) := by decide +kernel
theorem dX1_instalmentSum_10 : decode cX1_instalmentSum 10 = .ok (.iconst 3, 1) := by decide +kernel
theorem dX1_instalmentSum_11 : decode cX1_instalmentSum 11 = .ok (.aload_n 0, 1) := by decide +kernel
theorem dX1_instalmentSum_12 : decode cX1_instalmentSum 12 = .ok (.getfield 38, 3) := by decide +kernel
theorem dX1_instalmentSum_15 : decode cX1_instalmentSum 15 = .ok (.isub, 1) := by decide +kernel
theorem dX1_instalmentSum_16 : decode cX1_instalmentSum 16 = .ok (.if_icmp .lt 12, 3) := by decide +kernel
theorem dX1_instalmentSum_19 : decode cX1_instalmentSum 19 = .ok (.lload_n 1, 1) := by decide +kernel
theorem dX1_instalmentSum_20 : decode cX1_instalmentSum 20 = .ok (.aload_n 0, 1) := by decide +kernel
theorem dX1_instalmentSum_21 : decode cX1_instalmentSum 21 = .ok (.getfield 35, 3) := by decide +kernel
theorem dX1_instalmentSum_24 : decode cX1_instalmentSum 24 = .ok (.iload_n 3, 1) := by decide +kernel
theorem dX1_instalmentSum_25 : decode cX1_instalmentSum 25 = .ok (.laload, 1) := by decide +kernel
theorem dX1_instalmentSum_26 : decode cX1_instalmentSum 26 = .ok (.ladd, 1) := by decide +kernel
theorem dX1_instalmentSum_27 : decode cX1_instalmentSum 27 = .ok (.lstore_n 1, 1) := by decide +kernel
theorem dX1_instalmentSum_28 : decode cX1_instalmentSum 28 = .ok (.iinc 3 1, 3) := by decide +kernel
theorem dX1_instalmentSum_31 : decode cX1_instalmentSum 31 = .ok (.goto (-27), 3) := by decide +kernel
theorem dX1_instalmentSum_34 : decode cX1_instalmentSum 34 = .ok (.lload_n 1, 1) := by decide +kernel
theorem dX1_instalmentSum_35 : decode cX1_instalmentSum 35 = .ok (.lreturn, 1) := by decide +kernel
set_option maxRecDepth 20000 in
theorem ggX1_mayRoll_X1_hasPlanted : GoodIn wsX1_mayRoll wsX1_hasPlanted := goodIn_r _ [7, 8, 9, 10, 11, 12, 13, 14, 15, 16, 17, 18, 19, 20, 21, 22, 23, 24, 25] (by decide +kernel) (by decide +kernel)
set_option maxRecDepth 20000 in
theorem gX1_mayRoll_X1_hasPlanted : GoodIn wsX1_mayRoll (wsV RX1 113 RX1 yX1_hasPlanted wsX1_hasPlanted) := goodIn_app (goodIn_of _ (by decide +kernel)) ggX1_mayRoll_X1_hasPlanted
theorem dX1_mayRoll_0 : decode cX1_mayRoll 0 = .ok (.aload_n 0, 1) := by decide +kernel
theorem dX1_mayRoll_1 : decode cX1_mayRoll 1 = .ok (.invokevirtual 113, 3) := by decide +kernel
theorem dX1_mayRoll_4 : decode cX1_mayRoll 4 = .ok (.ifCond .eq 23, 3) := by decide +kernel
theorem dX1_mayRoll_7 : decode cX1_mayRoll 7 = .ok (.aload_n 0, 1) := by decide +kernel
theorem dX1_mayRoll_8 : decode cX1_mayRoll 8 = .ok (.getfield 59, 3) := by decide +kernel
theorem dX1_mayRoll_11 : decode cX1_mayRoll 11 = .ok (.bipush 60, 2) := by decide +kernel
theorem dX1_mayRoll_13 : decode cX1_mayRoll 13 = .ok (.if_icmp .ge 14, 3) := by decide +kernel
theorem dX1_mayRoll_16 : decode cX1_mayRoll 16 = .ok (.aload_n 0, 1) := by decide +kernel
theorem dX1_mayRoll_17 : decode cX1_mayRoll 17 = .ok (.getfield 38, 3) := by decide +kernel
theorem dX1_mayRoll_20 : decode cX1_mayRoll 20 = .ok (.ifCond .ne 7, 3) := by decide +kernel
theorem dX1_mayRoll_23 : decode cX1_mayRoll 23 = .ok (.iconst 1, 1) := by decide +kernel
theorem dX1_mayRoll_24 : decode cX1_mayRoll 24 = .ok (.goto 4, 3) := by decide +kernel
theorem dX1_mayRoll_27 : decode cX1_mayRoll 27 = .ok (.iconst 0, 1) := by decide +kernel
theorem dX1_mayRoll_28 : decode cX1_mayRoll 28 = .ok (.ireturn, 1) := by decide +kernel
theorem dX1_rollDebt_0 : decode cX1_rollDebt 0 = .ok (.aload_n 0, 1) := by decide +kernel
theorem dX1_rollDebt_1 : decode cX1_rollDebt 1 = .ok (.getfield 19, 3) := by decide +kernel
theorem dX1_rollDebt_4 : decode cX1_rollDebt 4 = .ok (.ldc2_w 117, 3) := by decide +kernel
theorem dX1_rollDebt_7 : decode cX1_rollDebt 7 = .ok (.ldiv, 1) := by decide +kernel
theorem dX1_rollDebt_8 : decode cX1_rollDebt 8 = .ok (.lstore_n 1, 1) := by decide +kernel
theorem dX1_rollDebt_9 : decode cX1_rollDebt 9 = .ok (.iconst 0, 1) := by decide +kernel
theorem dX1_rollDebt_10 : decode cX1_rollDebt 10 = .ok (.istore_n 3, 1) := by decide +kernel
theorem dX1_rollDebt_11 : decode cX1_rollDebt 11 = .ok (.iload_n 3, 1) := by decide +kernel
theorem dX1_rollDebt_12 : decode cX1_rollDebt 12 = .ok (.iconst 3, 1) := by decide +kernel
theorem dX1_rollDebt_13 : decode cX1_rollDebt 13 = .ok (.if_icmp .ge 16, 3) := by decide +kernel
theorem dX1_rollDebt_16 : decode cX1_rollDebt 16 = .ok (.aload_n 0, 1) := by decide +kernel
theorem dX1_rollDebt_17 : decode cX1_rollDebt 17 = .ok (.getfield 35, 3) := by decide +kernel
theorem dX1_rollDebt_20 : decode cX1_rollDebt 20 = .ok (.iload_n 3, 1) := by decide +kernel
theorem dX1_rollDebt_21 : decode cX1_rollDebt 21 = .ok (.lload_n 1, 1) := by decide +kernel
theorem dX1_rollDebt_22 : decode cX1_rollDebt 22 = .ok (.lastore, 1) := by decide +kernel
theorem dX1_rollDebt_23 : decode cX1_rollDebt 23 = .ok (.iinc 3 1, 3) := by decide +kernel
theorem dX1_rollDebt_26 : decode cX1_rollDebt 26 = .ok (.goto (-15), 3) := by decide +kernel
theorem dX1_rollDebt_29 : decode cX1_rollDebt 29 = .ok (.aload_n 0, 1) := by decide +kernel
theorem dX1_rollDebt_30 : decode cX1_rollDebt 30 = .ok (.getfield 35, 3) := by decide +kernel
theorem dX1_rollDebt_33 : decode cX1_rollDebt 33 = .ok (.iconst 2, 1) := by decide +kernel
theorem dX1_rollDebt_34 : decode cX1_rollDebt 34 = .ok (.aload_n 0, 1) := by decide +kernel
theorem dX1_rollDebt_35 : decode cX1_rollDebt 35 = .ok (.getfield 19, 3) := by decide +kernel
theorem dX1_rollDebt_38 : decode cX1_rollDebt 38 = .ok (.lload_n 1, 1) := by decide +kernel
theorem dX1_rollDebt_39 : decode cX1_rollDebt 39 = .ok (.ldc2_w 65, 3) := by decide +kernel
theorem dX1_rollDebt_42 : decode cX1_rollDebt 42 = .ok (.lmul, 1) := by decide +kernel
theorem dX1_rollDebt_43 : decode cX1_rollDebt 43 = .ok (.lsub, 1) := by decide +kernel
theorem dX1_rollDebt_44 : decode cX1_rollDebt 44 = .ok (.lastore, 1) := by decide +kernel
theorem dX1_rollDebt_45 : decode cX1_rollDebt 45 = .ok (.aload_n 0, 1) := by decide +kernel
theorem dX1_rollDebt_46 : decode cX1_rollDebt 46 = .ok (.iconst 3, 1) := by decide +kernel
theorem dX1_rollDebt_47 : decode cX1_rollDebt 47 = .ok (.putfield 38, 3) := by decide +kernel
theorem dX1_rollDebt_50 : decode cX1_rollDebt 50 = .ok (.aload_n 0, 1) := by decide +kernel
theorem dX1_rollDebt_51 : decode cX1_rollDebt 51 = .ok (.lconst 0, 1) := by decide +kernel
theorem dX1_rollDebt_52 : decode cX1_rollDebt 52 = .ok (.putfield 19, 3) := by decide +kernel
theorem dX1_rollDebt_55 : decode cX1_rollDebt 55 = .ok (.return_, 1) := by decide +kernel
set_option maxRecDepth 20000 in
theorem ggX1_payFor_X1_lowerDebt : GoodIn wsX1_payFor wsX1_lowerDebt := goodIn_r _ [13, 1, 14, 15, 16, 17, 18, 19, 20, 21, 22, 23, 24, 25, 26, 27, 28, 29, 30, 31] (by decide +kernel) (by decide +kernel)
set_option maxRecDepth 20000 in
theorem gX1_payFor_X1_lowerDebt : GoodIn wsX1_payFor (wsV RX1 79 RX1 yX1_lowerDebt wsX1_lowerDebt) := goodIn_app (goodIn_of _ (by decide +kernel)) ggX1_payFor_X1_lowerDebt
theorem dX1_payFor_0 : decode cX1_payFor 0 = .ok (.aload_n 1, 1) := by decide +kernel
theorem dX1_payFor_1 : decode cX1_payFor 1 = .ok (.getfield 19, 3) := by decide +kernel
theorem dX1_payFor_4 : decode cX1_payFor 4 = .ok (.aload_n 0, 1) := by decide +kernel
theorem dX1_payFor_5 : decode cX1_payFor 5 = .ok (.getfield 15, 3) := by decide +kernel
theorem dX1_payFor_8 : decode cX1_payFor 8 = .ok (.ldc2_w 119, 3) := by decide +kernel
theorem dX1_payFor_11 : decode cX1_payFor 11 = .ok (.aload_n 0, 1) := by decide +kernel
theorem dX1_payFor_12 : decode cX1_payFor 12 = .ok (.getfield 28, 3) := by decide +kernel
theorem dX1_payFor_15 : decode cX1_payFor 15 = .ok (.lsub, 1) := by decide +kernel
theorem dX1_payFor_16 : decode cX1_payFor 16 = .ok (.invokestatic 73, 3) := by decide +kernel
theorem dX1_payFor_19 : decode cX1_payFor 19 = .ok (.invokestatic 73, 3) := by decide +kernel
theorem dX1_payFor_22 : decode cX1_payFor 22 = .ok (.lstore_n 2, 1) := by decide +kernel
theorem dX1_payFor_23 : decode cX1_payFor 23 = .ok (.aload_n 0, 1) := by decide +kernel
theorem dX1_payFor_24 : decode cX1_payFor 24 = .ok (.dup, 1) := by decide +kernel
theorem dX1_payFor_25 : decode cX1_payFor 25 = .ok (.getfield 15, 3) := by decide +kernel
theorem dX1_payFor_28 : decode cX1_payFor 28 = .ok (.lload_n 2, 1) := by decide +kernel
theorem dX1_payFor_29 : decode cX1_payFor 29 = .ok (.lsub, 1) := by decide +kernel
theorem dX1_payFor_30 : decode cX1_payFor 30 = .ok (.putfield 15, 3) := by decide +kernel
theorem dX1_payFor_33 : decode cX1_payFor 33 = .ok (.aload_n 0, 1) := by decide +kernel
theorem dX1_payFor_34 : decode cX1_payFor 34 = .ok (.dup, 1) := by decide +kernel
theorem dX1_payFor_35 : decode cX1_payFor 35 = .ok (.getfield 28, 3) := by decide +kernel
theorem dX1_payFor_38 : decode cX1_payFor 38 = .ok (.lload_n 2, 1) := by decide +kernel
theorem dX1_payFor_39 : decode cX1_payFor 39 = .ok (.ladd, 1) := by decide +kernel
theorem dX1_payFor_40 : decode cX1_payFor 40 = .ok (.putfield 28, 3) := by decide +kernel
theorem dX1_payFor_43 : decode cX1_payFor 43 = .ok (.aload_n 1, 1) := by decide +kernel
theorem dX1_payFor_44 : decode cX1_payFor 44 = .ok (.lload_n 2, 1) := by decide +kernel
theorem dX1_payFor_45 : decode cX1_payFor 45 = .ok (.iconst 4, 1) := by decide +kernel
theorem dX1_payFor_46 : decode cX1_payFor 46 = .ok (.invokevirtual 79, 3) := by decide +kernel
theorem dX1_payFor_49 : decode cX1_payFor 49 = .ok (.return_, 1) := by decide +kernel
theorem dX1_forgetSeason_0 : decode cX1_forgetSeason 0 = .ok (.aload_n 0, 1) := by decide +kernel
theorem dX1_forgetSeason_1 : decode cX1_forgetSeason 1 = .ok (.iconst (-1), 1) := by decide +kernel
theorem dX1_forgetSeason_2 : decode cX1_forgetSeason 2 = .ok (.putfield 50, 3) := by decide +kernel
theorem dX1_forgetSeason_5 : decode cX1_forgetSeason 5 = .ok (.aload_n 0, 1) := by decide +kernel
theorem dX1_forgetSeason_6 : decode cX1_forgetSeason 6 = .ok (.iconst 0, 1) := by decide +kernel
theorem dX1_forgetSeason_7 : decode cX1_forgetSeason 7 = .ok (.putfield 53, 3) := by decide +kernel
theorem dX1_forgetSeason_10 : decode cX1_forgetSeason 10 = .ok (.aload_n 0, 1) := by decide +kernel
theorem dX1_forgetSeason_11 : decode cX1_forgetSeason 11 = .ok (.iconst 0, 1) := by decide +kernel
theorem dX1_forgetSeason_12 : decode cX1_forgetSeason 12 = .ok (.putfield 56, 3) := by decide +kernel
theorem dX1_forgetSeason_15 : decode cX1_forgetSeason 15 = .ok (.aload_n 0, 1) := by decide +kernel
theorem dX1_forgetSeason_16 : decode cX1_forgetSeason 16 = .ok (.bipush 100, 2) := by decide +kernel
theorem dX1_forgetSeason_18 : decode cX1_forgetSeason 18 = .ok (.putfield 59, 3) := by decide +kernel
theorem dX1_forgetSeason_21 : decode cX1_forgetSeason 21 = .ok (.aload_n 0, 1) := by decide +kernel
theorem dX1_forgetSeason_22 : decode cX1_forgetSeason 22 = .ok (.iconst 0, 1) := by decide +kernel
theorem dX1_forgetSeason_23 : decode cX1_forgetSeason 23 = .ok (.putfield 62, 3) := by decide +kernel
theorem dX1_forgetSeason_26 : decode cX1_forgetSeason 26 = .ok (.return_, 1) := by decide +kernel
end
section
set_option maxRecDepth 20000 in
theorem ggX2_init_X0_init : GoodIn wsX2_init wsX0_init := goodIn_r _ [17, 18, 2, 3, 19, 20, 21, 22, 49, 50, 51] (by decide +kernel) (by decide +kernel)
set_option maxRecDepth 20000 in
theorem gX2_init_X0_init : GoodIn wsX2_init (wsX0_init) := ggX2_init_X0_init
set_option maxRecDepth 20000 in
theorem ggX2_init_X1_init : GoodIn wsX2_init wsX1_init := goodIn_r _ [24, 25, 2, 3, 26, 27, 28, 29, 30, 31, 32, 33, 34, 35, 36, 37, 38, 39, 40, 41, 42, 43, 52, 53, 54, 55, 56, 57, 58, 59, 60, 61, 62, 63, 64, 65, 66, 67, 68] (by decide +kernel) (by decide +kernel)
set_option maxRecDepth 20000 in
theorem gX2_init_X1_init_n32 : GoodIn wsX2_init (wsX1_init) := ggX2_init_X1_init
theorem dX2_init_0 : decode cX2_init 0 = .ok (.aload_n 0, 1) := by decide +kernel
theorem dX2_init_1 : decode cX2_init 1 = .ok (.invokespecial 1, 3) := by decide +kernel
theorem dX2_init_4 : decode cX2_init 4 = .ok (.aload_n 0, 1) := by decide +kernel
theorem dX2_init_5 : decode cX2_init 5 = .ok (.iconst 3, 1) := by decide +kernel
theorem dX2_init_6 : decode cX2_init 6 = .ok (.anewarray 9, 3) := by decide +kernel
theorem dX2_init_9 : decode cX2_init 9 = .ok (.putfield 11, 3) := by decide +kernel
theorem dX2_init_12 : decode cX2_init 12 = .ok (.aload_n 0, 1) := by decide +kernel
theorem dX2_init_13 : decode cX2_init 13 = .ok (.bipush 8, 2) := by decide +kernel
theorem dX2_init_15 : decode cX2_init 15 = .ok (.anewarray 15, 3) := by decide +kernel
theorem dX2_init_18 : decode cX2_init 18 = .ok (.putfield 17, 3) := by decide +kernel
theorem dX2_init_21 : decode cX2_init 21 = .ok (.aload_n 0, 1) := by decide +kernel
theorem dX2_init_22 : decode cX2_init 22 = .ok (.iconst 0, 1) := by decide +kernel
theorem dX2_init_23 : decode cX2_init 23 = .ok (.putfield 21, 3) := by decide +kernel
theorem dX2_init_26 : decode cX2_init 26 = .ok (.aload_n 0, 1) := by decide +kernel
theorem dX2_init_27 : decode cX2_init 27 = .ok (.iconst 0, 1) := by decide +kernel
theorem dX2_init_28 : decode cX2_init 28 = .ok (.putfield 25, 3) := by decide +kernel
theorem dX2_init_31 : decode cX2_init 31 = .ok (.aload_n 0, 1) := by decide +kernel
theorem dX2_init_32 : decode cX2_init 32 = .ok (.iconst 0, 1) := by decide +kernel
theorem dX2_init_33 : decode cX2_init 33 = .ok (.putfield 28, 3) := by decide +kernel
theorem dX2_init_36 : decode cX2_init 36 = .ok (.iconst 0, 1) := by decide +kernel
theorem dX2_init_37 : decode cX2_init 37 = .ok (.istore_n 1, 1) := by decide +kernel
theorem dX2_init_38 : decode cX2_init 38 = .ok (.iload_n 1, 1) := by decide +kernel
theorem dX2_init_39 : decode cX2_init 39 = .ok (.iconst 3, 1) := by decide +kernel
theorem dX2_init_40 : decode cX2_init 40 = .ok (.if_icmp .ge 22, 3) := by decide +kernel
theorem dX2_init_43 : decode cX2_init 43 = .ok (.aload_n 0, 1) := by decide +kernel
theorem dX2_init_44 : decode cX2_init 44 = .ok (.getfield 11, 3) := by decide +kernel
theorem dX2_init_47 : decode cX2_init 47 = .ok (.iload_n 1, 1) := by decide +kernel
theorem dX2_init_48 : decode cX2_init 48 = .ok (.new 9, 3) := by decide +kernel
theorem dX2_init_51 : decode cX2_init 51 = .ok (.dup, 1) := by decide +kernel
theorem dX2_init_52 : decode cX2_init 52 = .ok (.invokespecial 31, 3) := by decide +kernel
theorem dX2_init_55 : decode cX2_init 55 = .ok (.aastore, 1) := by decide +kernel
theorem dX2_init_56 : decode cX2_init 56 = .ok (.iinc 1 1, 3) := by decide +kernel
theorem dX2_init_59 : decode cX2_init 59 = .ok (.goto (-21), 3) := by decide +kernel
theorem dX2_init_62 : decode cX2_init 62 = .ok (.iconst 0, 1) := by decide +kernel
theorem dX2_init_63 : decode cX2_init 63 = .ok (.istore_n 1, 1) := by decide +kernel
theorem dX2_init_64 : decode cX2_init 64 = .ok (.iload_n 1, 1) := by decide +kernel
theorem dX2_init_65 : decode cX2_init 65 = .ok (.bipush 8, 2) := by decide +kernel
theorem dX2_init_67 : decode cX2_init 67 = .ok (.if_icmp .ge 22, 3) := by decide +kernel
theorem dX2_init_70 : decode cX2_init 70 = .ok (.aload_n 0, 1) := by decide +kernel
theorem dX2_init_71 : decode cX2_init 71 = .ok (.getfield 17, 3) := by decide +kernel
theorem dX2_init_74 : decode cX2_init 74 = .ok (.iload_n 1, 1) := by decide +kernel
theorem dX2_init_75 : decode cX2_init 75 = .ok (.new 15, 3) := by decide +kernel
theorem dX2_init_78 : decode cX2_init 78 = .ok (.dup, 1) := by decide +kernel
theorem dX2_init_79 : decode cX2_init 79 = .ok (.invokespecial 32, 3) := by decide +kernel
theorem dX2_init_82 : decode cX2_init 82 = .ok (.aastore, 1) := by decide +kernel
theorem dX2_init_83 : decode cX2_init 83 = .ok (.iinc 1 1, 3) := by decide +kernel
theorem dX2_init_86 : decode cX2_init 86 = .ok (.goto (-22), 3) := by decide +kernel
theorem dX2_init_89 : decode cX2_init 89 = .ok (.return_, 1) := by decide +kernel
set_option maxRecDepth 20000 in
theorem ggX2_setNeed_X2_cropAt : GoodIn wsX2_setNeed wsX2_cropAt := goodIn_ca (goodIn_r _ [9, 1, 2, 10, 19, 20, 21, 22, 23] (by decide +kernel) (by decide +kernel)) (goodIn_sub (fun _ h => List.mem_cons_of_mem _ (List.mem_append_left _ (List.mem_append_right _ h))) (by decide +kernel))
set_option maxRecDepth 20000 in
theorem gX2_setNeed_X2_cropAt : GoodIn wsX2_setNeed (wsV RX2 33 RX2 yX2_cropAt wsX2_cropAt) := goodIn_app (goodIn_of _ (by decide +kernel)) ggX2_setNeed_X2_cropAt
set_option maxRecDepth 20000 in
theorem ggX2_setNeed_X2_requireRange : GoodIn wsX2_setNeed wsX2_requireRange := goodIn_ca (goodIn_r _ [13, 14, 15] (by decide +kernel) (by decide +kernel)) (goodIn_sub (fun _ h => List.mem_cons_of_mem _ (List.mem_append_right _ h)) (by decide +kernel))
set_option maxRecDepth 20000 in
theorem gX2_setNeed_X2_requireRange : GoodIn wsX2_setNeed (va_wsS RX2 45 yX2_requireRange wsX2_requireRange) := goodIn_app (goodIn_of _ (by decide +kernel)) ggX2_setNeed_X2_requireRange
theorem dX2_setNeed_0 : decode cX2_setNeed 0 = .ok (.aload_n 0, 1) := by decide +kernel
theorem dX2_setNeed_1 : decode cX2_setNeed 1 = .ok (.iload_n 1, 1) := by decide +kernel
theorem dX2_setNeed_2 : decode cX2_setNeed 2 = .ok (.invokevirtual 33, 3) := by decide +kernel
theorem dX2_setNeed_5 : decode cX2_setNeed 5 = .ok (.astore 4, 2) := by decide +kernel
theorem dX2_setNeed_7 : decode cX2_setNeed 7 = .ok (.iload_n 2, 1) := by decide +kernel
theorem dX2_setNeed_8 : decode cX2_setNeed 8 = .ok (.ifCond .lt 8, 3) := by decide +kernel
theorem dX2_setNeed_11 : decode cX2_setNeed 11 = .ok (.iload_n 2, 1) := by decide +kernel
theorem dX2_setNeed_12 : decode cX2_setNeed 12 = .ok (.iconst 4, 1) := by decide +kernel
theorem dX2_setNeed_13 : decode cX2_setNeed 13 = .ok (.if_icmp .lt 13, 3) := by decide +kernel
theorem dX2_setNeed_16 : decode cX2_setNeed 16 = .ok (.new 37, 3) := by decide +kernel
theorem dX2_setNeed_19 : decode cX2_setNeed 19 = .ok (.dup, 1) := by decide +kernel
theorem dX2_setNeed_20 : decode cX2_setNeed 20 = .ok (.ldc 39, 2) := by decide +kernel
theorem dX2_setNeed_22 : decode cX2_setNeed 22 = .ok (.invokespecial 41, 3) := by decide +kernel
theorem dX2_setNeed_25 : decode cX2_setNeed 25 = .ok (.athrow, 1) := by decide +kernel
theorem dX2_setNeed_26 : decode cX2_setNeed 26 = .ok (.iload_n 3, 1) := by decide +kernel
theorem dX2_setNeed_27 : decode cX2_setNeed 27 = .ok (.iconst 0, 1) := by decide +kernel
theorem dX2_setNeed_28 : decode cX2_setNeed 28 = .ok (.ldc 44, 2) := by decide +kernel
theorem dX2_setNeed_30 : decode cX2_setNeed 30 = .ok (.invokestatic 45, 3) := by decide +kernel
theorem dX2_setNeed_33 : decode cX2_setNeed 33 = .ok (.aload 4, 2) := by decide +kernel
theorem dX2_setNeed_35 : decode cX2_setNeed 35 = .ok (.getfield 49, 3) := by decide +kernel
theorem dX2_setNeed_38 : decode cX2_setNeed 38 = .ok (.iload_n 2, 1) := by decide +kernel
theorem dX2_setNeed_39 : decode cX2_setNeed 39 = .ok (.iaload, 1) := by decide +kernel
theorem dX2_setNeed_40 : decode cX2_setNeed 40 = .ok (.istore 5, 2) := by decide +kernel
theorem dX2_setNeed_42 : decode cX2_setNeed 42 = .ok (.aload 4, 2) := by decide +kernel
theorem dX2_setNeed_44 : decode cX2_setNeed 44 = .ok (.getfield 49, 3) := by decide +kernel
theorem dX2_setNeed_47 : decode cX2_setNeed 47 = .ok (.iload_n 2, 1) := by decide +kernel
theorem dX2_setNeed_48 : decode cX2_setNeed 48 = .ok (.iload_n 3, 1) := by decide +kernel
theorem dX2_setNeed_49 : decode cX2_setNeed 49 = .ok (.iastore, 1) := by decide +kernel
theorem dX2_setNeed_50 : decode cX2_setNeed 50 = .ok (.iload 5, 2) := by decide +kernel
theorem dX2_setNeed_52 : decode cX2_setNeed 52 = .ok (.ireturn, 1) := by decide +kernel
set_option maxRecDepth 20000 in
theorem ggX2_setCrop_X2_cropAt : GoodIn wsX2_setCrop wsX2_cropAt := goodIn_ca (goodIn_r _ [7, 8, 9, 10, 19, 20, 21, 22, 23] (by decide +kernel) (by decide +kernel)) (goodIn_sub (fun _ h => List.mem_cons_of_mem _ (List.mem_append_left _ (List.mem_append_right _ h))) (by decide +kernel))
set_option maxRecDepth 20000 in
theorem gX2_setCrop_X2_cropAt : GoodIn wsX2_setCrop (wsV RX2 33 RX2 yX2_cropAt wsX2_cropAt) := goodIn_app (goodIn_of _ (by decide +kernel)) ggX2_setCrop_X2_cropAt
set_option maxRecDepth 20000 in
theorem ggX2_setCrop_X2_requireRange : GoodIn wsX2_setCrop wsX2_requireRange := goodIn_ca (goodIn_r _ [13, 14, 15] (by decide +kernel) (by decide +kernel)) (goodIn_sub (fun _ h => List.mem_cons_of_mem _ (List.mem_append_right _ h)) (by decide +kernel))
set_option maxRecDepth 20000 in
theorem gX2_setCrop_X2_requireRange : GoodIn wsX2_setCrop (va_wsS RX2 45 yX2_requireRange wsX2_requireRange) := goodIn_app (goodIn_of _ (by decide +kernel)) ggX2_setCrop_X2_requireRange
theorem dX2_setCrop_0 : decode cX2_setCrop 0 = .ok (.aload_n 0, 1) := by decide +kernel
theorem dX2_setCrop_1 : decode cX2_setCrop 1 = .ok (.iload_n 1, 1) := by decide +kernel
theorem dX2_setCrop_2 : decode cX2_setCrop 2 = .ok (.invokevirtual 33, 3) := by decide +kernel
theorem dX2_setCrop_5 : decode cX2_setCrop 5 = .ok (.astore 4, 2) := by decide +kernel
theorem dX2_setCrop_7 : decode cX2_setCrop 7 = .ok (.iload_n 2, 1) := by decide +kernel
theorem dX2_setCrop_8 : decode cX2_setCrop 8 = .ok (.iconst 1, 1) := by decide +kernel
theorem dX2_setCrop_9 : decode cX2_setCrop 9 = .ok (.sipush 5000, 3) := by decide +kernel
theorem dX2_setCrop_12 : decode cX2_setCrop 12 = .ok (.invokestatic 45, 3) := by decide +kernel
theorem dX2_setCrop_15 : decode cX2_setCrop 15 = .ok (.iload_n 3, 1) := by decide +kernel
theorem dX2_setCrop_16 : decode cX2_setCrop 16 = .ok (.iconst 0, 1) := by decide +kernel
theorem dX2_setCrop_17 : decode cX2_setCrop 17 = .ok (.bipush 100, 2) := by decide +kernel
theorem dX2_setCrop_19 : decode cX2_setCrop 19 = .ok (.invokestatic 45, 3) := by decide +kernel
theorem dX2_setCrop_22 : decode cX2_setCrop 22 = .ok (.aload 4, 2) := by decide +kernel
theorem dX2_setCrop_24 : decode cX2_setCrop 24 = .ok (.getfield 53, 3) := by decide +kernel
theorem dX2_setCrop_27 : decode cX2_setCrop 27 = .ok (.istore 5, 2) := by decide +kernel
theorem dX2_setCrop_29 : decode cX2_setCrop 29 = .ok (.aload 4, 2) := by decide +kernel
theorem dX2_setCrop_31 : decode cX2_setCrop 31 = .ok (.iload_n 2, 1) := by decide +kernel
theorem dX2_setCrop_32 : decode cX2_setCrop 32 = .ok (.putfield 53, 3) := by decide +kernel
theorem dX2_setCrop_35 : decode cX2_setCrop 35 = .ok (.aload 4, 2) := by decide +kernel
theorem dX2_setCrop_37 : decode cX2_setCrop 37 = .ok (.iload_n 3, 1) := by decide +kernel
theorem dX2_setCrop_38 : decode cX2_setCrop 38 = .ok (.putfield 56, 3) := by decide +kernel
theorem dX2_setCrop_41 : decode cX2_setCrop 41 = .ok (.iload 5, 2) := by decide +kernel
theorem dX2_setCrop_43 : decode cX2_setCrop 43 = .ok (.ireturn, 1) := by decide +kernel
set_option maxRecDepth 20000 in
theorem ggX2_add_X2_requireState : GoodIn wsX2_add wsX2_requireState := goodIn_ca (goodIn_r _ [9, 10, 11] (by decide +kernel) (by decide +kernel)) (goodIn_sub (fun _ h => List.mem_cons_of_mem _ (List.mem_append_right _ h)) (by decide +kernel))
set_option maxRecDepth 20000 in
theorem gX2_add_X2_requireState : GoodIn wsX2_add (va_wsS RX2 61 yX2_requireState wsX2_requireState) := goodIn_app (goodIn_of _ (by decide +kernel)) ggX2_add_X2_requireState
theorem dX2_add_0 : decode cX2_add 0 = .ok (.iload_n 1, 1) := by decide +kernel
theorem dX2_add_1 : decode cX2_add 1 = .ok (.ifCond .lt 8, 3) := by decide +kernel
theorem dX2_add_4 : decode cX2_add 4 = .ok (.iload_n 1, 1) := by decide +kernel
theorem dX2_add_5 : decode cX2_add 5 = .ok (.iconst 3, 1) := by decide +kernel
theorem dX2_add_6 : decode cX2_add 6 = .ok (.if_icmp .lt 13, 3) := by decide +kernel
theorem dX2_add_9 : decode cX2_add 9 = .ok (.new 37, 3) := by decide +kernel
theorem dX2_add_12 : decode cX2_add 12 = .ok (.dup, 1) := by decide +kernel
theorem dX2_add_13 : decode cX2_add 13 = .ok (.ldc 59, 2) := by decide +kernel
theorem dX2_add_15 : decode cX2_add 15 = .ok (.invokespecial 41, 3) := by decide +kernel
theorem dX2_add_18 : decode cX2_add 18 = .ok (.athrow, 1) := by decide +kernel
theorem dX2_add_19 : decode cX2_add 19 = .ok (.aload_n 0, 1) := by decide +kernel
theorem dX2_add_20 : decode cX2_add 20 = .ok (.getfield 21, 3) := by decide +kernel
theorem dX2_add_23 : decode cX2_add 23 = .ok (.bipush 8, 2) := by decide +kernel
theorem dX2_add_25 : decode cX2_add 25 = .ok (.if_icmp .ge 7, 3) := by decide +kernel
theorem dX2_add_28 : decode cX2_add 28 = .ok (.iconst 1, 1) := by decide +kernel
theorem dX2_add_29 : decode cX2_add 29 = .ok (.goto 4, 3) := by decide +kernel
theorem dX2_add_32 : decode cX2_add 32 = .ok (.iconst 0, 1) := by decide +kernel
theorem dX2_add_33 : decode cX2_add 33 = .ok (.invokestatic 61, 3) := by decide +kernel
theorem dX2_add_36 : decode cX2_add 36 = .ok (.aload_n 0, 1) := by decide +kernel
theorem dX2_add_37 : decode cX2_add 37 = .ok (.getfield 21, 3) := by decide +kernel
theorem dX2_add_40 : decode cX2_add 40 = .ok (.istore_n 2, 1) := by decide +kernel
theorem dX2_add_41 : decode cX2_add 41 = .ok (.aload_n 0, 1) := by decide +kernel
theorem dX2_add_42 : decode cX2_add 42 = .ok (.getfield 17, 3) := by decide +kernel
theorem dX2_add_45 : decode cX2_add 45 = .ok (.iload_n 2, 1) := by decide +kernel
theorem dX2_add_46 : decode cX2_add 46 = .ok (.aaload, 1) := by decide +kernel
theorem dX2_add_47 : decode cX2_add 47 = .ok (.iload_n 1, 1) := by decide +kernel
theorem dX2_add_48 : decode cX2_add 48 = .ok (.putfield 65, 3) := by decide +kernel
theorem dX2_add_51 : decode cX2_add 51 = .ok (.aload_n 0, 1) := by decide +kernel
theorem dX2_add_52 : decode cX2_add 52 = .ok (.iload_n 2, 1) := by decide +kernel
theorem dX2_add_53 : decode cX2_add 53 = .ok (.iconst 1, 1) := by decide +kernel
theorem dX2_add_54 : decode cX2_add 54 = .ok (.iadd, 1) := by decide +kernel
theorem dX2_add_55 : decode cX2_add 55 = .ok (.putfield 21, 3) := by decide +kernel
theorem dX2_add_58 : decode cX2_add 58 = .ok (.iload_n 2, 1) := by decide +kernel
theorem dX2_add_59 : decode cX2_add 59 = .ok (.ireturn, 1) := by decide +kernel
theorem dX2_farmers_0 : decode cX2_farmers 0 = .ok (.aload_n 0, 1) := by decide +kernel
theorem dX2_farmers_1 : decode cX2_farmers 1 = .ok (.getfield 21, 3) := by decide +kernel
theorem dX2_farmers_4 : decode cX2_farmers 4 = .ok (.ireturn, 1) := by decide +kernel
set_option maxRecDepth 20000 in
theorem ggX2_plant_X2_farmerAt : GoodIn wsX2_plant wsX2_farmerAt := goodIn_ca (goodIn_r _ [10, 11, 12, 13, 14, 42, 43, 44, 45, 46] (by decide +kernel) (by decide +kernel)) (goodIn_sub (fun _ h => List.mem_cons_of_mem _ (List.mem_append_left _ (List.mem_append_left _ (List.mem_append_right _ h)))) (by decide +kernel))
set_option maxRecDepth 20000 in
theorem gX2_plant_X2_farmerAt : GoodIn wsX2_plant (wsV RX2 68 RX2 yX2_farmerAt wsX2_farmerAt) := goodIn_app (goodIn_of _ (by decide +kernel)) ggX2_plant_X2_farmerAt
set_option maxRecDepth 20000 in
theorem ggX2_plant_X2_cropAt : GoodIn wsX2_plant wsX2_cropAt := goodIn_ca (goodIn_r _ [18, 11, 12, 19, 42, 43, 44, 45, 46] (by decide +kernel) (by decide +kernel)) (goodIn_sub (fun _ h => List.mem_cons_of_mem _ (List.mem_append_left _ (List.mem_append_left _ (List.mem_append_right _ h)))) (by decide +kernel))
set_option maxRecDepth 20000 in
theorem gX2_plant_X2_cropAt : GoodIn wsX2_plant (wsV RX2 33 RX2 yX2_cropAt wsX2_cropAt) := goodIn_app (goodIn_of _ (by decide +kernel)) ggX2_plant_X2_cropAt
set_option maxRecDepth 20000 in
theorem ggX2_plant_X2_requireRange : GoodIn wsX2_plant wsX2_requireRange := goodIn_ca (goodIn_r _ [22, 23, 24] (by decide +kernel) (by decide +kernel)) (goodIn_sub (fun _ h => List.mem_cons_of_mem _ (List.mem_append_left _ (List.mem_append_right _ h))) (by decide +kernel))
set_option maxRecDepth 20000 in
theorem gX2_plant_X2_requireRange : GoodIn wsX2_plant (va_wsS RX2 45 yX2_requireRange wsX2_requireRange) := goodIn_app (goodIn_of _ (by decide +kernel)) ggX2_plant_X2_requireRange
set_option maxRecDepth 20000 in
theorem ggX2_plant_X1_hasPlanted : GoodIn wsX2_plant wsX1_hasPlanted := goodIn_r _ [29, 30, 47, 48, 49, 50, 51, 52, 53, 54, 55, 56, 57, 58, 59, 60, 61, 62, 63] (by decide +kernel) (by decide +kernel)
set_option maxRecDepth 20000 in
theorem gX2_plant_X1_hasPlanted : GoodIn wsX2_plant (wsV RX2 72 RX1 yX1_hasPlanted wsX1_hasPlanted) := goodIn_app (goodIn_of _ (by decide +kernel)) ggX2_plant_X1_hasPlanted
set_option maxRecDepth 20000 in
theorem ggX2_plant_X2_requireState : GoodIn wsX2_plant wsX2_requireState := goodIn_ca (goodIn_r _ [33, 34, 35] (by decide +kernel) (by decide +kernel)) (goodIn_sub (fun _ h => List.mem_cons_of_mem _ (List.mem_append_right _ h)) (by decide +kernel))
set_option maxRecDepth 20000 in
theorem gX2_plant_X2_requireState : GoodIn wsX2_plant (va_wsS RX2 61 yX2_requireState wsX2_requireState) := goodIn_app (goodIn_of _ (by decide +kernel)) ggX2_plant_X2_requireState
set_option maxRecDepth 20000 in
theorem ggX2_plant_X0_needUpTo : GoodIn wsX2_plant wsX0_needUpTo := goodIn_r _ [40, 41, 64, 65, 66] (by decide +kernel) (by decide +kernel)
set_option maxRecDepth 20000 in
theorem gX2_plant_X0_needUpTo : GoodIn wsX2_plant (wsV RX2 88 RX0 yX0_needUpTo wsX0_needUpTo) := goodIn_app (goodIn_of _ (by decide +kernel)) ggX2_plant_X0_needUpTo
theorem dX2_plant_0 : decode cX2_plant 0 = .ok (.aload_n 0, 1) := by decide +kernel
theorem dX2_plant_1 : decode cX2_plant 1 = .ok (.iload_n 1, 1) := by decide +kernel
theorem dX2_plant_2 : decode cX2_plant 2 = .ok (.invokevirtual 68, 3) := by decide +kernel
theorem dX2_plant_5 : decode cX2_plant 5 = .ok (.astore 4, 2) := by decide +kernel
theorem dX2_plant_7 : decode cX2_plant 7 = .ok (.aload_n 0, 1) := by decide +kernel
theorem dX2_plant_8 : decode cX2_plant 8 = .ok (.iload_n 2, 1) := by decide +kernel
theorem dX2_plant_9 : decode cX2_plant 9 = .ok (.invokevirtual 33, 3) := by decide +kernel
theorem dX2_plant_12 : decode cX2_plant 12 = .ok (.astore 5, 2) := by decide +kernel
theorem dX2_plant_14 : decode cX2_plant 14 = .ok (.iload_n 3, 1) := by decide +kernel
theorem dX2_plant_15 : decode cX2_plant 15 = .ok (.iconst 1, 1) := by decide +kernel
theorem dX2_plant_16 : decode cX2_plant 16 = .ok (.bipush 50, 2) := by decide +kernel
theorem dX2_plant_18 : decode cX2_plant 18 = .ok (.invokestatic 45, 3) := by decide +kernel
theorem dX2_plant_21 : decode cX2_plant 21 = .ok (.aload_n 0, 1) := by decide +kernel
theorem dX2_plant_22 : decode cX2_plant 22 = .ok (.getfield 28, 3) := by decide +kernel
theorem dX2_plant_25 : decode cX2_plant 25 = .ok (.ifCond .ne 15, 3) := by decide +kernel
theorem dX2_plant_28 : decode cX2_plant 28 = .ok (.aload 4, 2) := by decide +kernel
theorem dX2_plant_30 : decode cX2_plant 30 = .ok (.invokevirtual 72, 3) := by decide +kernel
theorem dX2_plant_33 : decode cX2_plant 33 = .ok (.ifCond .ne 7, 3) := by decide +kernel
theorem dX2_plant_36 : decode cX2_plant 36 = .ok (.iconst 1, 1) := by decide +kernel
theorem dX2_plant_37 : decode cX2_plant 37 = .ok (.goto 4, 3) := by decide +kernel
theorem dX2_plant_40 : decode cX2_plant 40 = .ok (.iconst 0, 1) := by decide +kernel
theorem dX2_plant_41 : decode cX2_plant 41 = .ok (.invokestatic 61, 3) := by decide +kernel
theorem dX2_plant_44 : decode cX2_plant 44 = .ok (.aload 4, 2) := by decide +kernel
theorem dX2_plant_46 : decode cX2_plant 46 = .ok (.getfield 76, 3) := by decide +kernel
theorem dX2_plant_49 : decode cX2_plant 49 = .ok (.ifCond .eq 12, 3) := by decide +kernel
theorem dX2_plant_52 : decode cX2_plant 52 = .ok (.aload 4, 2) := by decide +kernel
theorem dX2_plant_54 : decode cX2_plant 54 = .ok (.getfield 79, 3) := by decide +kernel
theorem dX2_plant_57 : decode cX2_plant 57 = .ok (.iload_n 2, 1) := by decide +kernel
theorem dX2_plant_58 : decode cX2_plant 58 = .ok (.if_icmp .ne 7, 3) := by decide +kernel
theorem dX2_plant_61 : decode cX2_plant 61 = .ok (.iconst 1, 1) := by decide +kernel
theorem dX2_plant_62 : decode cX2_plant 62 = .ok (.goto 4, 3) := by decide +kernel
theorem dX2_plant_65 : decode cX2_plant 65 = .ok (.iconst 0, 1) := by decide +kernel
theorem dX2_plant_66 : decode cX2_plant 66 = .ok (.invokestatic 61, 3) := by decide +kernel
theorem dX2_plant_69 : decode cX2_plant 69 = .ok (.aload 4, 2) := by decide +kernel
theorem dX2_plant_71 : decode cX2_plant 71 = .ok (.iload_n 2, 1) := by decide +kernel
theorem dX2_plant_72 : decode cX2_plant 72 = .ok (.putfield 82, 3) := by decide +kernel
theorem dX2_plant_75 : decode cX2_plant 75 = .ok (.aload 4, 2) := by decide +kernel
theorem dX2_plant_77 : decode cX2_plant 77 = .ok (.iload_n 3, 1) := by decide +kernel
theorem dX2_plant_78 : decode cX2_plant 78 = .ok (.putfield 85, 3) := by decide +kernel
theorem dX2_plant_81 : decode cX2_plant 81 = .ok (.aload 5, 2) := by decide +kernel
theorem dX2_plant_83 : decode cX2_plant 83 = .ok (.aload_n 0, 1) := by decide +kernel
theorem dX2_plant_84 : decode cX2_plant 84 = .ok (.getfield 28, 3) := by decide +kernel
theorem dX2_plant_87 : decode cX2_plant 87 = .ok (.invokevirtual 88, 3) := by decide +kernel
theorem dX2_plant_90 : decode cX2_plant 90 = .ok (.iload_n 3, 1) := by decide +kernel
theorem dX2_plant_91 : decode cX2_plant 91 = .ok (.imul, 1) := by decide +kernel
theorem dX2_plant_92 : decode cX2_plant 92 = .ok (.ireturn, 1) := by decide +kernel
set_option maxRecDepth 20000 in
theorem ggX2_cover_X2_farmerAt : GoodIn wsX2_cover wsX2_farmerAt := goodIn_ca (goodIn_r _ [7, 8, 9, 10, 11, 28, 29, 30, 31, 32] (by decide +kernel) (by decide +kernel)) (goodIn_sub (fun _ h => List.mem_cons_of_mem _ (List.mem_append_left _ (List.mem_append_left _ (List.mem_append_right _ h)))) (by decide +kernel))
set_option maxRecDepth 20000 in
theorem gX2_cover_X2_farmerAt : GoodIn wsX2_cover (wsV RX2 68 RX2 yX2_farmerAt wsX2_farmerAt) := goodIn_app (goodIn_of _ (by decide +kernel)) ggX2_cover_X2_farmerAt
set_option maxRecDepth 20000 in
theorem ggX2_cover_X2_requireRange : GoodIn wsX2_cover wsX2_requireRange := goodIn_ca (goodIn_r _ [14, 15, 16] (by decide +kernel) (by decide +kernel)) (goodIn_sub (fun _ h => List.mem_cons_of_mem _ (List.mem_append_left _ (List.mem_append_right _ h))) (by decide +kernel))
set_option maxRecDepth 20000 in
theorem gX2_cover_X2_requireRange : GoodIn wsX2_cover (va_wsS RX2 45 yX2_requireRange wsX2_requireRange) := goodIn_app (goodIn_of _ (by decide +kernel)) ggX2_cover_X2_requireRange
set_option maxRecDepth 20000 in
theorem ggX2_cover_X1_hasPlanted : GoodIn wsX2_cover wsX1_hasPlanted := goodIn_r _ [21, 22, 33, 34, 35, 36, 37, 38, 39, 40, 41, 42, 43, 44, 45, 46, 47, 48, 49] (by decide +kernel) (by decide +kernel)
set_option maxRecDepth 20000 in
theorem gX2_cover_X1_hasPlanted : GoodIn wsX2_cover (wsV RX2 72 RX1 yX1_hasPlanted wsX1_hasPlanted) := goodIn_app (goodIn_of _ (by decide +kernel)) ggX2_cover_X1_hasPlanted
set_option maxRecDepth 20000 in
theorem ggX2_cover_X2_requireState : GoodIn wsX2_cover wsX2_requireState := goodIn_ca (goodIn_r _ [25, 26, 27] (by decide +kernel) (by decide +kernel)) (goodIn_sub (fun _ h => List.mem_cons_of_mem _ (List.mem_append_right _ h)) (by decide +kernel))
set_option maxRecDepth 20000 in
theorem gX2_cover_X2_requireState : GoodIn wsX2_cover (va_wsS RX2 61 yX2_requireState wsX2_requireState) := goodIn_app (goodIn_of _ (by decide +kernel)) ggX2_cover_X2_requireState
theorem dX2_cover_0 : decode cX2_cover 0 = .ok (.aload_n 0, 1) := by decide +kernel
theorem dX2_cover_1 : decode cX2_cover 1 = .ok (.iload_n 1, 1) := by decide +kernel
theorem dX2_cover_2 : decode cX2_cover 2 = .ok (.invokevirtual 68, 3) := by decide +kernel
theorem dX2_cover_5 : decode cX2_cover 5 = .ok (.astore_n 3, 1) := by decide +kernel
theorem dX2_cover_6 : decode cX2_cover 6 = .ok (.iload_n 2, 1) := by decide +kernel
theorem dX2_cover_7 : decode cX2_cover 7 = .ok (.iconst 1, 1) := by decide +kernel
theorem dX2_cover_8 : decode cX2_cover 8 = .ok (.bipush 90, 2) := by decide +kernel
theorem dX2_cover_10 : decode cX2_cover 10 = .ok (.invokestatic 45, 3) := by decide +kernel
theorem dX2_cover_13 : decode cX2_cover 13 = .ok (.aload_n 0, 1) := by decide +kernel
theorem dX2_cover_14 : decode cX2_cover 14 = .ok (.getfield 28, 3) := by decide +kernel
theorem dX2_cover_17 : decode cX2_cover 17 = .ok (.ifCond .ne 14, 3) := by decide +kernel
theorem dX2_cover_20 : decode cX2_cover 20 = .ok (.aload_n 3, 1) := by decide +kernel
theorem dX2_cover_21 : decode cX2_cover 21 = .ok (.invokevirtual 72, 3) := by decide +kernel
theorem dX2_cover_24 : decode cX2_cover 24 = .ok (.ifCond .eq 7, 3) := by decide +kernel
theorem dX2_cover_27 : decode cX2_cover 27 = .ok (.iconst 1, 1) := by decide +kernel
theorem dX2_cover_28 : decode cX2_cover 28 = .ok (.goto 4, 3) := by decide +kernel
theorem dX2_cover_31 : decode cX2_cover 31 = .ok (.iconst 0, 1) := by decide +kernel
theorem dX2_cover_32 : decode cX2_cover 32 = .ok (.invokestatic 61, 3) := by decide +kernel
theorem dX2_cover_35 : decode cX2_cover 35 = .ok (.aload_n 3, 1) := by decide +kernel
theorem dX2_cover_36 : decode cX2_cover 36 = .ok (.getfield 92, 3) := by decide +kernel
theorem dX2_cover_39 : decode cX2_cover 39 = .ok (.istore 4, 2) := by decide +kernel
theorem dX2_cover_41 : decode cX2_cover 41 = .ok (.aload_n 3, 1) := by decide +kernel
theorem dX2_cover_42 : decode cX2_cover 42 = .ok (.iload_n 2, 1) := by decide +kernel
theorem dX2_cover_43 : decode cX2_cover 43 = .ok (.putfield 92, 3) := by decide +kernel
theorem dX2_cover_46 : decode cX2_cover 46 = .ok (.iload 4, 2) := by decide +kernel
theorem dX2_cover_48 : decode cX2_cover 48 = .ok (.ireturn, 1) := by decide +kernel
set_option maxRecDepth 20000 in
theorem ggX2_draw_X2_farmerAt : GoodIn wsX2_draw wsX2_farmerAt := goodIn_ca (goodIn_r _ [8, 9, 10, 11, 12, 52, 53, 54, 55, 56] (by decide +kernel) (by decide +kernel)) (goodIn_sub (fun _ h => List.mem_cons_of_mem _ (List.mem_append_left _ (List.mem_append_left _ (List.mem_append_right _ h)))) (by decide +kernel))
set_option maxRecDepth 20000 in
theorem gX2_draw_X2_farmerAt : GoodIn wsX2_draw (wsV RX2 68 RX2 yX2_farmerAt wsX2_farmerAt) := goodIn_app (goodIn_of _ (by decide +kernel)) ggX2_draw_X2_farmerAt
set_option maxRecDepth 20000 in
theorem ggX2_draw_X2_requireRange : GoodIn wsX2_draw wsX2_requireRange := goodIn_ca (goodIn_r _ [15, 16, 17] (by decide +kernel) (by decide +kernel)) (goodIn_sub (fun _ h => List.mem_cons_of_mem _ (List.mem_append_left _ (List.mem_append_right _ h))) (by decide +kernel))
set_option maxRecDepth 20000 in
theorem gX2_draw_X2_requireRange : GoodIn wsX2_draw (va_wsS RX2 45 yX2_requireRange wsX2_requireRange) := goodIn_app (goodIn_of _ (by decide +kernel)) ggX2_draw_X2_requireRange
set_option maxRecDepth 20000 in
theorem ggX2_draw_X2_requireState : GoodIn wsX2_draw wsX2_requireState := goodIn_ca (goodIn_r _ [20, 21, 22] (by decide +kernel) (by decide +kernel)) (goodIn_sub (fun _ h => List.mem_cons_of_mem _ (List.mem_append_right _ h)) (by decide +kernel))
set_option maxRecDepth 20000 in
theorem gX2_draw_X2_requireState : GoodIn wsX2_draw (va_wsS RX2 61 yX2_requireState wsX2_requireState) := goodIn_app (goodIn_of _ (by decide +kernel)) ggX2_draw_X2_requireState
set_option maxRecDepth 20000 in
theorem ggX2_draw_X2_limitOf : GoodIn wsX2_draw wsX2_limitOf := goodIn_ca (goodIn_r _ [26, 27, 2, 28, 29, 30, 31, 32, 33, 34, 35, 36, 37, 7, 38, 9, 10, 39, 40, 41, 42, 43, 44, 45, 57, 58, 59, 60, 61, 62, 63, 64, 65, 66, 67, 68, 69, 70, 71, 72, 73, 52, 53, 54, 55, 56, 74, 75, 76] (by decide +kernel) (by decide +kernel)) (goodIn_sub (fun _ h => List.mem_cons_of_mem _ (List.mem_append_left _ (List.mem_append_left _ (List.mem_append_right _ h)))) (by decide +kernel))
set_option maxRecDepth 20000 in
theorem gX2_draw_X2_limitOf : GoodIn wsX2_draw (wsV RX2 96 RX2 yX2_limitOf wsX2_limitOf) := goodIn_app (goodIn_of _ (by decide +kernel)) ggX2_draw_X2_limitOf
set_option maxRecDepth 20000 in
theorem ggX2_draw_X1_charge : GoodIn wsX2_draw wsX1_charge := goodIn_r _ [49, 50, 51, 57, 58, 59, 60, 61, 62, 63, 64, 65, 66, 67, 68, 69, 70, 71, 72, 73] (by decide +kernel) (by decide +kernel)
set_option maxRecDepth 20000 in
theorem gX2_draw_X1_charge : GoodIn wsX2_draw (wsV RX2 103 RX1 yX1_charge wsX1_charge) := goodIn_app (goodIn_of _ (by decide +kernel)) ggX2_draw_X1_charge
theorem dX2_draw_0 : decode cX2_draw 0 = .ok (.aload_n 0, 1) := by decide +kernel
theorem dX2_draw_1 : decode cX2_draw 1 = .ok (.iload_n 1, 1) := by decide +kernel
theorem dX2_draw_2 : decode cX2_draw 2 = .ok (.invokevirtual 68, 3) := by decide +kernel
theorem dX2_draw_5 : decode cX2_draw 5 = .ok (.astore_n 3, 1) := by decide +kernel
theorem dX2_draw_6 : decode cX2_draw 6 = .ok (.iload_n 2, 1) := by decide +kernel
theorem dX2_draw_7 : decode cX2_draw 7 = .ok (.iconst 1, 1) := by decide +kernel
theorem dX2_draw_8 : decode cX2_draw 8 = .ok (.ldc 95, 2) := by decide +kernel
theorem dX2_draw_10 : decode cX2_draw 10 = .ok (.invokestatic 45, 3) := by decide +kernel
theorem dX2_draw_13 : decode cX2_draw 13 = .ok (.aload_n 0, 1) := by decide +kernel
theorem dX2_draw_14 : decode cX2_draw 14 = .ok (.getfield 28, 3) := by decide +kernel
theorem dX2_draw_17 : decode cX2_draw 17 = .ok (.iconst 4, 1) := by decide +kernel
theorem dX2_draw_18 : decode cX2_draw 18 = .ok (.if_icmp .ge 7, 3) := by decide +kernel
theorem dX2_draw_21 : decode cX2_draw 21 = .ok (.iconst 1, 1) := by decide +kernel
theorem dX2_draw_22 : decode cX2_draw 22 = .ok (.goto 4, 3) := by decide +kernel
theorem dX2_draw_25 : decode cX2_draw 25 = .ok (.iconst 0, 1) := by decide +kernel
theorem dX2_draw_26 : decode cX2_draw 26 = .ok (.invokestatic 61, 3) := by decide +kernel
theorem dX2_draw_29 : decode cX2_draw 29 = .ok (.aload_n 0, 1) := by decide +kernel
theorem dX2_draw_30 : decode cX2_draw 30 = .ok (.aload_n 3, 1) := by decide +kernel
theorem dX2_draw_31 : decode cX2_draw 31 = .ok (.invokevirtual 96, 3) := by decide +kernel
theorem dX2_draw_34 : decode cX2_draw 34 = .ok (.aload_n 3, 1) := by decide +kernel
theorem dX2_draw_35 : decode cX2_draw 35 = .ok (.getfield 100, 3) := by decide +kernel
theorem dX2_draw_38 : decode cX2_draw 38 = .ok (.isub, 1) := by decide +kernel
theorem dX2_draw_39 : decode cX2_draw 39 = .ok (.istore 4, 2) := by decide +kernel
theorem dX2_draw_41 : decode cX2_draw 41 = .ok (.iload_n 2, 1) := by decide +kernel
theorem dX2_draw_42 : decode cX2_draw 42 = .ok (.iload 4, 2) := by decide +kernel
theorem dX2_draw_44 : decode cX2_draw 44 = .ok (.if_icmp .gt 7, 3) := by decide +kernel
theorem dX2_draw_47 : decode cX2_draw 47 = .ok (.iconst 1, 1) := by decide +kernel
theorem dX2_draw_48 : decode cX2_draw 48 = .ok (.goto 4, 3) := by decide +kernel
theorem dX2_draw_51 : decode cX2_draw 51 = .ok (.iconst 0, 1) := by decide +kernel
theorem dX2_draw_52 : decode cX2_draw 52 = .ok (.invokestatic 61, 3) := by decide +kernel
theorem dX2_draw_55 : decode cX2_draw 55 = .ok (.aload_n 3, 1) := by decide +kernel
theorem dX2_draw_56 : decode cX2_draw 56 = .ok (.dup, 1) := by decide +kernel
theorem dX2_draw_57 : decode cX2_draw 57 = .ok (.getfield 100, 3) := by decide +kernel
theorem dX2_draw_60 : decode cX2_draw 60 = .ok (.iload_n 2, 1) := by decide +kernel
theorem dX2_draw_61 : decode cX2_draw 61 = .ok (.iadd, 1) := by decide +kernel
theorem dX2_draw_62 : decode cX2_draw 62 = .ok (.putfield 100, 3) := by decide +kernel
theorem dX2_draw_65 : decode cX2_draw 65 = .ok (.aload_n 3, 1) := by decide +kernel
theorem dX2_draw_66 : decode cX2_draw 66 = .ok (.iload_n 2, 1) := by decide +kernel
theorem dX2_draw_67 : decode cX2_draw 67 = .ok (.i2l, 1) := by decide +kernel
theorem dX2_draw_68 : decode cX2_draw 68 = .ok (.invokevirtual 103, 3) := by decide +kernel
theorem dX2_draw_71 : decode cX2_draw 71 = .ok (.iload 4, 2) := by decide +kernel
theorem dX2_draw_73 : decode cX2_draw 73 = .ok (.iload_n 2, 1) := by decide +kernel
theorem dX2_draw_74 : decode cX2_draw 74 = .ok (.isub, 1) := by decide +kernel
theorem dX2_draw_75 : decode cX2_draw 75 = .ok (.ireturn, 1) := by decide +kernel
set_option maxRecDepth 20000 in
theorem ggX2_setYield_X2_farmerAt : GoodIn wsX2_setYield wsX2_farmerAt := goodIn_ca (goodIn_r _ [7, 8, 9, 10, 11, 22, 23, 24, 25, 26] (by decide +kernel) (by decide +kernel)) (goodIn_sub (fun _ h => List.mem_cons_of_mem _ (List.mem_append_left _ (List.mem_append_left _ (List.mem_append_right _ h)))) (by decide +kernel))
set_option maxRecDepth 20000 in
theorem gX2_setYield_X2_farmerAt : GoodIn wsX2_setYield (wsV RX2 68 RX2 yX2_farmerAt wsX2_farmerAt) := goodIn_app (goodIn_of _ (by decide +kernel)) ggX2_setYield_X2_farmerAt
set_option maxRecDepth 20000 in
theorem ggX2_setYield_X2_requireRange : GoodIn wsX2_setYield wsX2_requireRange := goodIn_ca (goodIn_r _ [14, 15, 16] (by decide +kernel) (by decide +kernel)) (goodIn_sub (fun _ h => List.mem_cons_of_mem _ (List.mem_append_left _ (List.mem_append_right _ h))) (by decide +kernel))
set_option maxRecDepth 20000 in
theorem gX2_setYield_X2_requireRange : GoodIn wsX2_setYield (va_wsS RX2 45 yX2_requireRange wsX2_requireRange) := goodIn_app (goodIn_of _ (by decide +kernel)) ggX2_setYield_X2_requireRange
set_option maxRecDepth 20000 in
theorem ggX2_setYield_X2_requireState : GoodIn wsX2_setYield wsX2_requireState := goodIn_ca (goodIn_r _ [19, 20, 21] (by decide +kernel) (by decide +kernel)) (goodIn_sub (fun _ h => List.mem_cons_of_mem _ (List.mem_append_right _ h)) (by decide +kernel))
set_option maxRecDepth 20000 in
theorem gX2_setYield_X2_requireState : GoodIn wsX2_setYield (va_wsS RX2 61 yX2_requireState wsX2_requireState) := goodIn_app (goodIn_of _ (by decide +kernel)) ggX2_setYield_X2_requireState
theorem dX2_setYield_0 : decode cX2_setYield 0 = .ok (.aload_n 0, 1) := by decide +kernel
theorem dX2_setYield_1 : decode cX2_setYield 1 = .ok (.iload_n 1, 1) := by decide +kernel
theorem dX2_setYield_2 : decode cX2_setYield 2 = .ok (.invokevirtual 68, 3) := by decide +kernel
theorem dX2_setYield_5 : decode cX2_setYield 5 = .ok (.astore_n 3, 1) := by decide +kernel
theorem dX2_setYield_6 : decode cX2_setYield 6 = .ok (.iload_n 2, 1) := by decide +kernel
theorem dX2_setYield_7 : decode cX2_setYield 7 = .ok (.iconst 0, 1) := by decide +kernel
theorem dX2_setYield_8 : decode cX2_setYield 8 = .ok (.sipush 200, 3) := by decide +kernel
theorem dX2_setYield_11 : decode cX2_setYield 11 = .ok (.invokestatic 45, 3) := by decide +kernel
theorem dX2_setYield_14 : decode cX2_setYield 14 = .ok (.aload_n 0, 1) := by decide +kernel
theorem dX2_setYield_15 : decode cX2_setYield 15 = .ok (.getfield 28, 3) := by decide +kernel
theorem dX2_setYield_18 : decode cX2_setYield 18 = .ok (.iconst 4, 1) := by decide +kernel
theorem dX2_setYield_19 : decode cX2_setYield 19 = .ok (.if_icmp .ge 7, 3) := by decide +kernel
theorem dX2_setYield_22 : decode cX2_setYield 22 = .ok (.iconst 1, 1) := by decide +kernel
theorem dX2_setYield_23 : decode cX2_setYield 23 = .ok (.goto 4, 3) := by decide +kernel
theorem dX2_setYield_26 : decode cX2_setYield 26 = .ok (.iconst 0, 1) := by decide +kernel
theorem dX2_setYield_27 : decode cX2_setYield 27 = .ok (.invokestatic 61, 3) := by decide +kernel
theorem dX2_setYield_30 : decode cX2_setYield 30 = .ok (.aload_n 3, 1) := by decide +kernel
theorem dX2_setYield_31 : decode cX2_setYield 31 = .ok (.getfield 107, 3) := by decide +kernel
theorem dX2_setYield_34 : decode cX2_setYield 34 = .ok (.istore 4, 2) := by decide +kernel
theorem dX2_setYield_36 : decode cX2_setYield 36 = .ok (.aload_n 3, 1) := by decide +kernel
theorem dX2_setYield_37 : decode cX2_setYield 37 = .ok (.iload_n 2, 1) := by decide +kernel
theorem dX2_setYield_38 : decode cX2_setYield 38 = .ok (.putfield 107, 3) := by decide +kernel
theorem dX2_setYield_41 : decode cX2_setYield 41 = .ok (.iload 4, 2) := by decide +kernel
theorem dX2_setYield_43 : decode cX2_setYield 43 = .ok (.ireturn, 1) := by decide +kernel
set_option maxRecDepth 20000 in
theorem ggX2_next_X2_requireState : GoodIn wsX2_next wsX2_requireState := goodIn_ca (goodIn_r _ [7, 8, 9] (by decide +kernel) (by decide +kernel)) (goodIn_sub (fun _ h => List.mem_cons_of_mem _ (List.mem_append_left _ (List.mem_append_right _ h))) (by decide +kernel))
set_option maxRecDepth 20000 in
theorem gX2_next_X2_requireState : GoodIn wsX2_next (va_wsS RX2 61 yX2_requireState wsX2_requireState) := goodIn_app (goodIn_of _ (by decide +kernel)) ggX2_next_X2_requireState
set_option maxRecDepth 20000 in
theorem ggX2_next_X1_chargeInterest : GoodIn wsX2_next wsX1_chargeInterest := goodIn_r _ [14, 15, 16, 17, 18, 19, 20, 13, 21, 22, 70, 71, 72, 73, 74, 75, 76, 77, 78, 79, 80, 81, 82, 83, 84, 85, 86] (by decide +kernel) (by decide +kernel)
set_option maxRecDepth 20000 in
theorem gX2_next_X1_chargeInterest : GoodIn wsX2_next (wsV RX2 110 RX1 yX1_chargeInterest wsX1_chargeInterest) := goodIn_app (goodIn_of _ (by decide +kernel)) ggX2_next_X1_chargeInterest
set_option maxRecDepth 20000 in
theorem ggX2_next_X2_harvestAll : GoodIn wsX2_next wsX2_harvestAll := goodIn_ca (goodIn_r _ [26, 2, 3, 27, 28, 29, 30, 13, 31, 32, 33, 34, 35, 6, 36, 37, 38, 39, 40, 41, 42, 43, 44, 45, 46, 47, 48, 49, 50, 17, 51, 52, 53, 54, 15, 55, 56, 57, 58, 59, 60, 61, 62, 63, 64, 65, 66, 67, 68, 69, 70, 71, 72, 73, 74, 75, 76, 77, 78, 79, 80, 81, 82, 83, 84, 85, 86, 87, 88, 89] (by decide +kernel) (by decide +kernel)) (goodIn_sub (fun _ h => List.mem_cons_of_mem _ (List.mem_append_right _ h)) (by decide +kernel))
set_option maxRecDepth 20000 in
theorem gX2_next_X2_harvestAll : GoodIn wsX2_next (wsV RX2 113 RX2 yX2_harvestAll wsX2_harvestAll) := goodIn_app (goodIn_of _ (by decide +kernel)) ggX2_next_X2_harvestAll
theorem dX2_next_0 : decode cX2_next 0 = .ok (.aload_n 0, 1) := by decide +kernel
theorem dX2_next_1 : decode cX2_next 1 = .ok (.getfield 28, 3) := by decide +kernel
theorem dX2_next_4 : decode cX2_next 4 = .ok (.iconst 4, 1) := by decide +kernel
theorem dX2_next_5 : decode cX2_next 5 = .ok (.if_icmp .ge 7, 3) := by decide +kernel
theorem dX2_next_8 : decode cX2_next 8 = .ok (.iconst 1, 1) := by decide +kernel
theorem dX2_next_9 : decode cX2_next 9 = .ok (.goto 4, 3) := by decide +kernel
theorem dX2_next_12 : decode cX2_next 12 = .ok (.iconst 0, 1) := by decide +kernel
theorem dX2_next_13 : decode cX2_next 13 = .ok (.invokestatic 61, 3) := by decide +kernel
theorem dX2_next_16 : decode cX2_next 16 = .ok (.aload_n 0, 1) := by decide +kernel
theorem dX2_next_17 : decode cX2_next 17 = .ok (.dup, 1) := by decide +kernel
theorem dX2_next_18 : decode cX2_next 18 = .ok (.getfield 28, 3) := by decide +kernel
theorem dX2_next_21 : decode cX2_next 21 = .ok (.iconst 1, 1) := by decide +kernel
theorem dX2_next_22 : decode cX2_next 22 = .ok (.iadd, 1) := by decide +kernel
theorem dX2_next_23 : decode cX2_next 23 = .ok (.putfield 28, 3) := by decide +kernel
theorem dX2_next_26 : decode cX2_next 26 = .ok (.iconst 0, 1) := by decide +kernel
theorem dX2_next_27 : decode cX2_next 27 = .ok (.istore_n 1, 1) := by decide +kernel
theorem dX2_next_28 : decode cX2_next 28 = .ok (.iload_n 1, 1) := by decide +kernel
theorem dX2_next_29 : decode cX2_next 29 = .ok (.aload_n 0, 1) := by decide +kernel
theorem dX2_next_30 : decode cX2_next 30 = .ok (.getfield 21, 3) := by decide +kernel
theorem dX2_next_33 : decode cX2_next 33 = .ok (.if_icmp .ge 18, 3) := by decide +kernel
theorem dX2_next_36 : decode cX2_next 36 = .ok (.aload_n 0, 1) := by decide +kernel
theorem dX2_next_37 : decode cX2_next 37 = .ok (.getfield 17, 3) := by decide +kernel
theorem dX2_next_40 : decode cX2_next 40 = .ok (.iload_n 1, 1) := by decide +kernel
theorem dX2_next_41 : decode cX2_next 41 = .ok (.aaload, 1) := by decide +kernel
theorem dX2_next_42 : decode cX2_next 42 = .ok (.invokevirtual 110, 3) := by decide +kernel
theorem dX2_next_45 : decode cX2_next 45 = .ok (.iinc 1 1, 3) := by decide +kernel
theorem dX2_next_48 : decode cX2_next 48 = .ok (.goto (-20), 3) := by decide +kernel
theorem dX2_next_51 : decode cX2_next 51 = .ok (.aload_n 0, 1) := by decide +kernel
theorem dX2_next_52 : decode cX2_next 52 = .ok (.getfield 28, 3) := by decide +kernel
theorem dX2_next_55 : decode cX2_next 55 = .ok (.iconst 4, 1) := by decide +kernel
theorem dX2_next_56 : decode cX2_next 56 = .ok (.if_icmp .ne 7, 3) := by decide +kernel
theorem dX2_next_59 : decode cX2_next 59 = .ok (.aload_n 0, 1) := by decide +kernel
theorem dX2_next_60 : decode cX2_next 60 = .ok (.invokevirtual 113, 3) := by decide +kernel
theorem dX2_next_63 : decode cX2_next 63 = .ok (.aload_n 0, 1) := by decide +kernel
theorem dX2_next_64 : decode cX2_next 64 = .ok (.getfield 28, 3) := by decide +kernel
theorem dX2_next_67 : decode cX2_next 67 = .ok (.ireturn, 1) := by decide +kernel
set_option maxRecDepth 20000 in
theorem ggX2_pledge_X2_farmerAt : GoodIn wsX2_pledge wsX2_farmerAt := goodIn_ca (goodIn_r _ [8, 9, 10, 11, 12, 77, 78, 79, 80, 81] (by decide +kernel) (by decide +kernel)) (goodIn_sub (fun _ h => List.mem_cons_of_mem _ (List.mem_append_left _ (List.mem_append_left _ (List.mem_append_right _ h)))) (by decide +kernel))
set_option maxRecDepth 20000 in
theorem gX2_pledge_X2_farmerAt : GoodIn wsX2_pledge (wsV RX2 68 RX2 yX2_farmerAt wsX2_farmerAt) := goodIn_app (goodIn_of _ (by decide +kernel)) ggX2_pledge_X2_farmerAt
set_option maxRecDepth 20000 in
theorem ggX2_pledge_X2_requireRange : GoodIn wsX2_pledge wsX2_requireRange := goodIn_ca (goodIn_r _ [15, 16, 17] (by decide +kernel) (by decide +kernel)) (goodIn_sub (fun _ h => List.mem_cons_of_mem _ (List.mem_append_left _ (List.mem_append_right _ h))) (by decide +kernel))
set_option maxRecDepth 20000 in
theorem gX2_pledge_X2_requireRange : GoodIn wsX2_pledge (va_wsS RX2 45 yX2_requireRange wsX2_requireRange) := goodIn_app (goodIn_of _ (by decide +kernel)) ggX2_pledge_X2_requireRange
set_option maxRecDepth 20000 in
theorem ggX2_pledge_X1_freeGrain : GoodIn wsX2_pledge wsX1_freeGrain := goodIn_r _ [22, 23, 24, 57, 58, 59, 60, 61, 62, 63, 64, 65, 66, 67, 68, 69, 70, 71, 72, 73] (by decide +kernel) (by decide +kernel)
set_option maxRecDepth 20000 in
theorem gX2_pledge_X1_freeGrain : GoodIn wsX2_pledge (wsV RX2 117 RX1 yX1_freeGrain wsX1_freeGrain) := goodIn_app (goodIn_of _ (by decide +kernel)) ggX2_pledge_X1_freeGrain
set_option maxRecDepth 20000 in
theorem ggX2_pledge_X2_requireState : GoodIn wsX2_pledge wsX2_requireState := goodIn_ca (goodIn_r _ [27, 28, 29] (by decide +kernel) (by decide +kernel)) (goodIn_sub (fun _ h => List.mem_cons_of_mem _ (List.mem_append_right _ h)) (by decide +kernel))
set_option maxRecDepth 20000 in
theorem gX2_pledge_X2_requireState : GoodIn wsX2_pledge (va_wsS RX2 61 yX2_requireState wsX2_requireState) := goodIn_app (goodIn_of _ (by decide +kernel)) ggX2_pledge_X2_requireState
set_option maxRecDepth 20000 in
theorem ggX2_pledge_X2_cropAt : GoodIn wsX2_pledge wsX2_cropAt := goodIn_ca (goodIn_r _ [33, 9, 10, 34, 77, 78, 79, 80, 81] (by decide +kernel) (by decide +kernel)) (goodIn_sub (fun _ h => List.mem_cons_of_mem _ (List.mem_append_left _ (List.mem_append_left _ (List.mem_append_right _ h)))) (by decide +kernel))
set_option maxRecDepth 20000 in
theorem gX2_pledge_X2_cropAt : GoodIn wsX2_pledge (wsV RX2 33 RX2 yX2_cropAt wsX2_cropAt) := goodIn_app (goodIn_of _ (by decide +kernel)) ggX2_pledge_X2_cropAt
set_option maxRecDepth 20000 in
theorem ggX2_pledge_X1_pledgeUnits : GoodIn wsX2_pledge wsX1_pledgeUnits := goodIn_r _ [38, 39, 40, 24, 41, 42, 43, 44, 21, 45, 46, 47, 48, 49, 50, 51, 52, 53, 54, 55, 56, 57, 58, 59, 60, 61, 62, 63, 64, 65, 66, 67, 68, 69, 70, 71, 72, 73] (by decide +kernel) (by decide +kernel)
set_option maxRecDepth 20000 in
theorem gX2_pledge_X1_pledgeUnits : GoodIn wsX2_pledge (wsV RX2 121 RX1 yX1_pledgeUnits wsX1_pledgeUnits) := goodIn_app (goodIn_of _ (by decide +kernel)) ggX2_pledge_X1_pledgeUnits
theorem dX2_pledge_0 : decode cX2_pledge 0 = .ok (.aload_n 0, 1) := by decide +kernel
theorem dX2_pledge_1 : decode cX2_pledge 1 = .ok (.iload_n 1, 1) := by decide +kernel
theorem dX2_pledge_2 : decode cX2_pledge 2 = .ok (.invokevirtual 68, 3) := by decide +kernel
theorem dX2_pledge_5 : decode cX2_pledge 5 = .ok (.astore_n 3, 1) := by decide +kernel
theorem dX2_pledge_6 : decode cX2_pledge 6 = .ok (.iload_n 2, 1) := by decide +kernel
theorem dX2_pledge_7 : decode cX2_pledge 7 = .ok (.iconst 1, 1) := by decide +kernel
theorem dX2_pledge_8 : decode cX2_pledge 8 = .ok (.ldc 116, 2) := by decide +kernel
theorem dX2_pledge_10 : decode cX2_pledge 10 = .ok (.invokestatic 45, 3) := by decide +kernel
theorem dX2_pledge_13 : decode cX2_pledge 13 = .ok (.iload_n 2, 1) := by decide +kernel
theorem dX2_pledge_14 : decode cX2_pledge 14 = .ok (.aload_n 3, 1) := by decide +kernel
theorem dX2_pledge_15 : decode cX2_pledge 15 = .ok (.invokevirtual 117, 3) := by decide +kernel
theorem dX2_pledge_18 : decode cX2_pledge 18 = .ok (.if_icmp .gt 7, 3) := by decide +kernel
theorem dX2_pledge_21 : decode cX2_pledge 21 = .ok (.iconst 1, 1) := by decide +kernel
theorem dX2_pledge_22 : decode cX2_pledge 22 = .ok (.goto 4, 3) := by decide +kernel
theorem dX2_pledge_25 : decode cX2_pledge 25 = .ok (.iconst 0, 1) := by decide +kernel
theorem dX2_pledge_26 : decode cX2_pledge 26 = .ok (.invokestatic 61, 3) := by decide +kernel
theorem dX2_pledge_29 : decode cX2_pledge 29 = .ok (.aload_n 3, 1) := by decide +kernel
theorem dX2_pledge_30 : decode cX2_pledge 30 = .ok (.iload_n 2, 1) := by decide +kernel
theorem dX2_pledge_31 : decode cX2_pledge 31 = .ok (.aload_n 0, 1) := by decide +kernel
theorem dX2_pledge_32 : decode cX2_pledge 32 = .ok (.aload_n 3, 1) := by decide +kernel
theorem dX2_pledge_33 : decode cX2_pledge 33 = .ok (.getfield 79, 3) := by decide +kernel
theorem dX2_pledge_36 : decode cX2_pledge 36 = .ok (.invokevirtual 33, 3) := by decide +kernel
theorem dX2_pledge_39 : decode cX2_pledge 39 = .ok (.getfield 53, 3) := by decide +kernel
theorem dX2_pledge_42 : decode cX2_pledge 42 = .ok (.invokevirtual 121, 3) := by decide +kernel
theorem dX2_pledge_45 : decode cX2_pledge 45 = .ok (.l2i, 1) := by decide +kernel
theorem dX2_pledge_46 : decode cX2_pledge 46 = .ok (.ireturn, 1) := by decide +kernel
set_option maxRecDepth 20000 in
theorem ggX2_sell_X2_farmerAt : GoodIn wsX2_sell wsX2_farmerAt := goodIn_ca (goodIn_r _ [9, 10, 11, 12, 13, 88, 89, 90, 91, 92] (by decide +kernel) (by decide +kernel)) (goodIn_sub (fun _ h => List.mem_cons_of_mem _ (List.mem_append_left _ (List.mem_append_left _ (List.mem_append_right _ h)))) (by decide +kernel))
set_option maxRecDepth 20000 in
theorem gX2_sell_X2_farmerAt : GoodIn wsX2_sell (wsV RX2 68 RX2 yX2_farmerAt wsX2_farmerAt) := goodIn_app (goodIn_of _ (by decide +kernel)) ggX2_sell_X2_farmerAt
set_option maxRecDepth 20000 in
theorem ggX2_sell_X2_requireRange : GoodIn wsX2_sell wsX2_requireRange := goodIn_ca (goodIn_r _ [16, 17, 18] (by decide +kernel) (by decide +kernel)) (goodIn_sub (fun _ h => List.mem_cons_of_mem _ (List.mem_append_left _ (List.mem_append_right _ h))) (by decide +kernel))
set_option maxRecDepth 20000 in
theorem gX2_sell_X2_requireRange : GoodIn wsX2_sell (va_wsS RX2 45 yX2_requireRange wsX2_requireRange) := goodIn_app (goodIn_of _ (by decide +kernel)) ggX2_sell_X2_requireRange
set_option maxRecDepth 20000 in
theorem ggX2_sell_X2_requireState : GoodIn wsX2_sell wsX2_requireState := goodIn_ca (goodIn_r _ [21, 22, 23] (by decide +kernel) (by decide +kernel)) (goodIn_sub (fun _ h => List.mem_cons_of_mem _ (List.mem_append_right _ h)) (by decide +kernel))
set_option maxRecDepth 20000 in
theorem gX2_sell_X2_requireState : GoodIn wsX2_sell (va_wsS RX2 61 yX2_requireState wsX2_requireState) := goodIn_app (goodIn_of _ (by decide +kernel)) ggX2_sell_X2_requireState
set_option maxRecDepth 20000 in
theorem ggX2_sell_X2_cropAt : GoodIn wsX2_sell wsX2_cropAt := goodIn_ca (goodIn_r _ [27, 10, 11, 28, 88, 89, 90, 91, 92] (by decide +kernel) (by decide +kernel)) (goodIn_sub (fun _ h => List.mem_cons_of_mem _ (List.mem_append_left _ (List.mem_append_left _ (List.mem_append_right _ h)))) (by decide +kernel))
set_option maxRecDepth 20000 in
theorem gX2_sell_X2_cropAt : GoodIn wsX2_sell (wsV RX2 33 RX2 yX2_cropAt wsX2_cropAt) := goodIn_app (goodIn_of _ (by decide +kernel)) ggX2_sell_X2_cropAt
set_option maxRecDepth 20000 in
theorem ggX2_sell_X1_sellUnits : GoodIn wsX2_sell wsX1_sellUnits := goodIn_r _ [33, 34, 35, 36, 37, 38, 39, 40, 41, 42, 43, 44, 45, 46, 32, 47, 48, 49, 50, 51, 52, 53, 54, 55, 56, 57, 58, 59, 60, 61, 62, 63, 64, 65, 66, 67, 68, 69, 70, 71, 72, 73, 74, 75, 76, 77, 78, 79, 80, 81, 82, 83, 84] (by decide +kernel) (by decide +kernel)
set_option maxRecDepth 20000 in
theorem gX2_sell_X1_sellUnits : GoodIn wsX2_sell (wsV RX2 125 RX1 yX1_sellUnits wsX1_sellUnits) := goodIn_app (goodIn_of _ (by decide +kernel)) ggX2_sell_X1_sellUnits
theorem dX2_sell_0 : decode cX2_sell 0 = .ok (.aload_n 0, 1) := by decide +kernel
theorem dX2_sell_1 : decode cX2_sell 1 = .ok (.iload_n 1, 1) := by decide +kernel
theorem dX2_sell_2 : decode cX2_sell 2 = .ok (.invokevirtual 68, 3) := by decide +kernel
theorem dX2_sell_5 : decode cX2_sell 5 = .ok (.astore_n 3, 1) := by decide +kernel
theorem dX2_sell_6 : decode cX2_sell 6 = .ok (.iload_n 2, 1) := by decide +kernel
theorem dX2_sell_7 : decode cX2_sell 7 = .ok (.iconst 1, 1) := by decide +kernel
theorem dX2_sell_8 : decode cX2_sell 8 = .ok (.ldc 116, 2) := by decide +kernel
theorem dX2_sell_10 : decode cX2_sell 10 = .ok (.invokestatic 45, 3) := by decide +kernel
theorem dX2_sell_13 : decode cX2_sell 13 = .ok (.iload_n 2, 1) := by decide +kernel
theorem dX2_sell_14 : decode cX2_sell 14 = .ok (.aload_n 3, 1) := by decide +kernel
theorem dX2_sell_15 : decode cX2_sell 15 = .ok (.getfield 76, 3) := by decide +kernel
theorem dX2_sell_18 : decode cX2_sell 18 = .ok (.if_icmp .gt 7, 3) := by decide +kernel
theorem dX2_sell_21 : decode cX2_sell 21 = .ok (.iconst 1, 1) := by decide +kernel
theorem dX2_sell_22 : decode cX2_sell 22 = .ok (.goto 4, 3) := by decide +kernel
theorem dX2_sell_25 : decode cX2_sell 25 = .ok (.iconst 0, 1) := by decide +kernel
theorem dX2_sell_26 : decode cX2_sell 26 = .ok (.invokestatic 61, 3) := by decide +kernel
theorem dX2_sell_29 : decode cX2_sell 29 = .ok (.aload_n 3, 1) := by decide +kernel
theorem dX2_sell_30 : decode cX2_sell 30 = .ok (.iload_n 2, 1) := by decide +kernel
theorem dX2_sell_31 : decode cX2_sell 31 = .ok (.aload_n 0, 1) := by decide +kernel
theorem dX2_sell_32 : decode cX2_sell 32 = .ok (.aload_n 3, 1) := by decide +kernel
theorem dX2_sell_33 : decode cX2_sell 33 = .ok (.getfield 79, 3) := by decide +kernel
theorem dX2_sell_36 : decode cX2_sell 36 = .ok (.invokevirtual 33, 3) := by decide +kernel
theorem dX2_sell_39 : decode cX2_sell 39 = .ok (.getfield 53, 3) := by decide +kernel
theorem dX2_sell_42 : decode cX2_sell 42 = .ok (.invokevirtual 125, 3) := by decide +kernel
theorem dX2_sell_45 : decode cX2_sell 45 = .ok (.l2i, 1) := by decide +kernel
theorem dX2_sell_46 : decode cX2_sell 46 = .ok (.ireturn, 1) := by decide +kernel
set_option maxRecDepth 20000 in
theorem ggX2_repay_X2_farmerAt : GoodIn wsX2_repay wsX2_farmerAt := goodIn_ca (goodIn_r _ [8, 9, 10, 11, 12, 52, 53, 54, 55, 56] (by decide +kernel) (by decide +kernel)) (goodIn_sub (fun _ h => List.mem_cons_of_mem _ (List.mem_append_left _ (List.mem_append_left _ (List.mem_append_right _ h)))) (by decide +kernel))
set_option maxRecDepth 20000 in
theorem gX2_repay_X2_farmerAt : GoodIn wsX2_repay (wsV RX2 68 RX2 yX2_farmerAt wsX2_farmerAt) := goodIn_app (goodIn_of _ (by decide +kernel)) ggX2_repay_X2_farmerAt
set_option maxRecDepth 20000 in
theorem ggX2_repay_X2_requireRange : GoodIn wsX2_repay wsX2_requireRange := goodIn_ca (goodIn_r _ [15, 16, 17] (by decide +kernel) (by decide +kernel)) (goodIn_sub (fun _ h => List.mem_cons_of_mem _ (List.mem_append_left _ (List.mem_append_right _ h))) (by decide +kernel))
set_option maxRecDepth 20000 in
theorem gX2_repay_X2_requireRange : GoodIn wsX2_repay (va_wsS RX2 45 yX2_requireRange wsX2_requireRange) := goodIn_app (goodIn_of _ (by decide +kernel)) ggX2_repay_X2_requireRange
set_option maxRecDepth 20000 in
theorem ggX2_repay_X2_requireState : GoodIn wsX2_repay wsX2_requireState := goodIn_ca (goodIn_r _ [20, 21, 22] (by decide +kernel) (by decide +kernel)) (goodIn_sub (fun _ h => List.mem_cons_of_mem _ (List.mem_append_right _ h)) (by decide +kernel))
set_option maxRecDepth 20000 in
theorem gX2_repay_X2_requireState : GoodIn wsX2_repay (va_wsS RX2 61 yX2_requireState wsX2_requireState) := goodIn_app (goodIn_of _ (by decide +kernel)) ggX2_repay_X2_requireState
set_option maxRecDepth 20000 in
theorem ggX2_repay_X1_repayFromPurse : GoodIn wsX2_repay wsX1_repayFromPurse := goodIn_r _ [27, 28, 29, 30, 31, 26, 32, 33, 34, 35, 36, 37, 38, 39, 40, 41, 42, 43, 44, 45, 46, 47, 48, 49, 50, 51] (by decide +kernel) (by decide +kernel)
set_option maxRecDepth 20000 in
theorem gX2_repay_X1_repayFromPurse : GoodIn wsX2_repay (wsV RX2 135 RX1 yX1_repayFromPurse wsX1_repayFromPurse) := goodIn_app (goodIn_of _ (by decide +kernel)) ggX2_repay_X1_repayFromPurse
theorem dX2_repay_0 : decode cX2_repay 0 = .ok (.aload_n 0, 1) := by decide +kernel
theorem dX2_repay_1 : decode cX2_repay 1 = .ok (.iload_n 1, 1) := by decide +kernel
theorem dX2_repay_2 : decode cX2_repay 2 = .ok (.invokevirtual 68, 3) := by decide +kernel
theorem dX2_repay_5 : decode cX2_repay 5 = .ok (.astore_n 3, 1) := by decide +kernel
theorem dX2_repay_6 : decode cX2_repay 6 = .ok (.iload_n 2, 1) := by decide +kernel
theorem dX2_repay_7 : decode cX2_repay 7 = .ok (.iconst 1, 1) := by decide +kernel
theorem dX2_repay_8 : decode cX2_repay 8 = .ok (.ldc 95, 2) := by decide +kernel
theorem dX2_repay_10 : decode cX2_repay 10 = .ok (.invokestatic 45, 3) := by decide +kernel
theorem dX2_repay_13 : decode cX2_repay 13 = .ok (.iload_n 2, 1) := by decide +kernel
theorem dX2_repay_14 : decode cX2_repay 14 = .ok (.i2l, 1) := by decide +kernel
theorem dX2_repay_15 : decode cX2_repay 15 = .ok (.aload_n 3, 1) := by decide +kernel
theorem dX2_repay_16 : decode cX2_repay 16 = .ok (.getfield 128, 3) := by decide +kernel
theorem dX2_repay_19 : decode cX2_repay 19 = .ok (.lcmp, 1) := by decide +kernel
theorem dX2_repay_20 : decode cX2_repay 20 = .ok (.ifCond .gt 17, 3) := by decide +kernel
theorem dX2_repay_23 : decode cX2_repay 23 = .ok (.iload_n 2, 1) := by decide +kernel
theorem dX2_repay_24 : decode cX2_repay 24 = .ok (.i2l, 1) := by decide +kernel
theorem dX2_repay_25 : decode cX2_repay 25 = .ok (.aload_n 3, 1) := by decide +kernel
theorem dX2_repay_26 : decode cX2_repay 26 = .ok (.getfield 132, 3) := by decide +kernel
theorem dX2_repay_29 : decode cX2_repay 29 = .ok (.lcmp, 1) := by decide +kernel
theorem dX2_repay_30 : decode cX2_repay 30 = .ok (.ifCond .gt 7, 3) := by decide +kernel
theorem dX2_repay_33 : decode cX2_repay 33 = .ok (.iconst 1, 1) := by decide +kernel
theorem dX2_repay_34 : decode cX2_repay 34 = .ok (.goto 4, 3) := by decide +kernel
theorem dX2_repay_37 : decode cX2_repay 37 = .ok (.iconst 0, 1) := by decide +kernel
theorem dX2_repay_38 : decode cX2_repay 38 = .ok (.invokestatic 61, 3) := by decide +kernel
theorem dX2_repay_41 : decode cX2_repay 41 = .ok (.aload_n 3, 1) := by decide +kernel
theorem dX2_repay_42 : decode cX2_repay 42 = .ok (.iload_n 2, 1) := by decide +kernel
theorem dX2_repay_43 : decode cX2_repay 43 = .ok (.i2l, 1) := by decide +kernel
theorem dX2_repay_44 : decode cX2_repay 44 = .ok (.invokevirtual 135, 3) := by decide +kernel
theorem dX2_repay_47 : decode cX2_repay 47 = .ok (.aload_n 3, 1) := by decide +kernel
theorem dX2_repay_48 : decode cX2_repay 48 = .ok (.getfield 128, 3) := by decide +kernel
theorem dX2_repay_51 : decode cX2_repay 51 = .ok (.l2i, 1) := by decide +kernel
theorem dX2_repay_52 : decode cX2_repay 52 = .ok (.ireturn, 1) := by decide +kernel
set_option maxRecDepth 20000 in
theorem ggX2_close_X2_requireState : GoodIn wsX2_close wsX2_requireState := goodIn_ca (goodIn_r _ [8, 9, 10] (by decide +kernel) (by decide +kernel)) (goodIn_sub (fun _ h => List.mem_cons_of_mem _ (List.mem_append_right _ h)) (by decide +kernel))
set_option maxRecDepth 20000 in
theorem gX2_close_X2_requireState : GoodIn wsX2_close (va_wsS RX2 61 yX2_requireState wsX2_requireState) := goodIn_app (goodIn_of _ (by decide +kernel)) ggX2_close_X2_requireState
set_option maxRecDepth 20000 in
theorem ggX2_close_X1_settleFromPurse : GoodIn wsX2_close wsX1_settleFromPurse := goodIn_r _ [15, 16, 17, 18, 19, 20, 21, 22, 23, 24, 25, 14, 26, 27, 28, 29, 30, 31, 32, 33, 34, 35, 36, 37, 81, 82, 83, 84, 85, 86, 87, 88, 89, 90, 91, 92, 93, 94, 95, 96, 97] (by decide +kernel) (by decide +kernel)
set_option maxRecDepth 20000 in
theorem gX2_close_X1_settleFromPurse : GoodIn wsX2_close (wsV RX2 138 RX1 yX1_settleFromPurse wsX1_settleFromPurse) := goodIn_app (goodIn_of _ (by decide +kernel)) ggX2_close_X1_settleFromPurse
set_option maxRecDepth 20000 in
theorem ggX2_close_X2_settleRest : GoodIn wsX2_close wsX2_settleRest := goodIn_r _ [41, 42, 43, 44, 45, 14, 46, 47, 27, 48, 49, 50, 51, 52, 53, 54, 55, 56, 17, 57, 28, 58, 59, 60, 61, 7, 62, 3, 4, 63, 64, 65, 66, 67, 18, 68, 16, 19, 20, 21, 22, 33, 34, 35, 36, 37, 81, 82, 83, 84, 85, 86, 87, 88, 89, 90, 91, 92, 93, 94, 95, 96, 97, 76, 77, 78, 79, 80] (by decide +kernel) (by decide +kernel)
set_option maxRecDepth 20000 in
theorem gX2_close_X2_settleRest : GoodIn wsX2_close (wsV RX2 141 RX2 yX2_settleRest wsX2_settleRest) := goodIn_app (goodIn_of _ (by decide +kernel)) ggX2_close_X2_settleRest
set_option maxRecDepth 20000 in
theorem ggX2_close_X1_forgetSeason : GoodIn wsX2_close wsX1_forgetSeason := goodIn_r _ [72, 52, 73, 74, 47, 75, 81, 82, 83, 84, 85, 86, 87, 88, 89, 90, 91, 92, 93, 94, 95, 96, 97] (by decide +kernel) (by decide +kernel)
set_option maxRecDepth 20000 in
theorem gX2_close_X1_forgetSeason : GoodIn wsX2_close (wsV RX2 145 RX1 yX1_forgetSeason wsX1_forgetSeason) := goodIn_app (goodIn_of _ (by decide +kernel)) ggX2_close_X1_forgetSeason
theorem dX2_close_0 : decode cX2_close 0 = .ok (.aload_n 0, 1) := by decide +kernel
theorem dX2_close_1 : decode cX2_close 1 = .ok (.getfield 28, 3) := by decide +kernel
theorem dX2_close_4 : decode cX2_close 4 = .ok (.iconst 4, 1) := by decide +kernel
theorem dX2_close_5 : decode cX2_close 5 = .ok (.if_icmp .ne 16, 3) := by decide +kernel
theorem dX2_close_8 : decode cX2_close 8 = .ok (.aload_n 0, 1) := by decide +kernel
theorem dX2_close_9 : decode cX2_close 9 = .ok (.getfield 25, 3) := by decide +kernel
theorem dX2_close_12 : decode cX2_close 12 = .ok (.bipush 20, 2) := by decide +kernel
theorem dX2_close_14 : decode cX2_close 14 = .ok (.if_icmp .ge 7, 3) := by decide +kernel
theorem dX2_close_17 : decode cX2_close 17 = .ok (.iconst 1, 1) := by decide +kernel
theorem dX2_close_18 : decode cX2_close 18 = .ok (.goto 4, 3) := by decide +kernel
theorem dX2_close_21 : decode cX2_close 21 = .ok (.iconst 0, 1) := by decide +kernel
theorem dX2_close_22 : decode cX2_close 22 = .ok (.invokestatic 61, 3) := by decide +kernel
theorem dX2_close_25 : decode cX2_close 25 = .ok (.iconst 0, 1) := by decide +kernel
theorem dX2_close_26 : decode cX2_close 26 = .ok (.istore_n 1, 1) := by decide +kernel
theorem dX2_close_27 : decode cX2_close 27 = .ok (.iload_n 1, 1) := by decide +kernel
theorem dX2_close_28 : decode cX2_close 28 = .ok (.aload_n 0, 1) := by decide +kernel
theorem dX2_close_29 : decode cX2_close 29 = .ok (.getfield 21, 3) := by decide +kernel
theorem dX2_close_32 : decode cX2_close 32 = .ok (.if_icmp .ge 18, 3) := by decide +kernel
theorem dX2_close_35 : decode cX2_close 35 = .ok (.aload_n 0, 1) := by decide +kernel
theorem dX2_close_36 : decode cX2_close 36 = .ok (.getfield 17, 3) := by decide +kernel
theorem dX2_close_39 : decode cX2_close 39 = .ok (.iload_n 1, 1) := by decide +kernel
theorem dX2_close_40 : decode cX2_close 40 = .ok (.aaload, 1) := by decide +kernel
theorem dX2_close_41 : decode cX2_close 41 = .ok (.invokevirtual 138, 3) := by decide +kernel
theorem dX2_close_44 : decode cX2_close 44 = .ok (.iinc 1 1, 3) := by decide +kernel
theorem dX2_close_47 : decode cX2_close 47 = .ok (.goto (-20), 3) := by decide +kernel
theorem dX2_close_50 : decode cX2_close 50 = .ok (.iconst 0, 1) := by decide +kernel
theorem dX2_close_51 : decode cX2_close 51 = .ok (.istore_n 1, 1) := by decide +kernel
theorem dX2_close_52 : decode cX2_close 52 = .ok (.iload_n 1, 1) := by decide +kernel
theorem dX2_close_53 : decode cX2_close 53 = .ok (.aload_n 0, 1) := by decide +kernel
theorem dX2_close_54 : decode cX2_close 54 = .ok (.getfield 21, 3) := by decide +kernel
theorem dX2_close_57 : decode cX2_close 57 = .ok (.if_icmp .ge 19, 3) := by decide +kernel
theorem dX2_close_60 : decode cX2_close 60 = .ok (.aload_n 0, 1) := by decide +kernel
theorem dX2_close_61 : decode cX2_close 61 = .ok (.aload_n 0, 1) := by decide +kernel
theorem dX2_close_62 : decode cX2_close 62 = .ok (.getfield 17, 3) := by decide +kernel
theorem dX2_close_65 : decode cX2_close 65 = .ok (.iload_n 1, 1) := by decide +kernel
theorem dX2_close_66 : decode cX2_close 66 = .ok (.aaload, 1) := by decide +kernel
theorem dX2_close_67 : decode cX2_close 67 = .ok (.invokevirtual 141, 3) := by decide +kernel
theorem dX2_close_70 : decode cX2_close 70 = .ok (.iinc 1 1, 3) := by decide +kernel
theorem dX2_close_73 : decode cX2_close 73 = .ok (.goto (-21), 3) := by decide +kernel
theorem dX2_close_76 : decode cX2_close 76 = .ok (.iconst 0, 1) := by decide +kernel
theorem dX2_close_77 : decode cX2_close 77 = .ok (.istore_n 1, 1) := by decide +kernel
theorem dX2_close_78 : decode cX2_close 78 = .ok (.iload_n 1, 1) := by decide +kernel
theorem dX2_close_79 : decode cX2_close 79 = .ok (.aload_n 0, 1) := by decide +kernel
theorem dX2_close_80 : decode cX2_close 80 = .ok (.getfield 21, 3) := by decide +kernel
theorem dX2_close_83 : decode cX2_close 83 = .ok (.if_icmp .ge 18, 3) := by decide +kernel
theorem dX2_close_86 : decode cX2_close 86 = .ok (.aload_n 0, 1) := by decide +kernel
theorem dX2_close_87 : decode cX2_close 87 = .ok (.getfield 17, 3) := by decide +kernel
theorem dX2_close_90 : decode cX2_close 90 = .ok (.iload_n 1, 1) := by decide +kernel
theorem dX2_close_91 : decode cX2_close 91 = .ok (.aaload, 1) := by decide +kernel
theorem dX2_close_92 : decode cX2_close 92 = .ok (.invokevirtual 145, 3) := by decide +kernel
theorem dX2_close_95 : decode cX2_close 95 = .ok (.iinc 1 1, 3) := by decide +kernel
theorem dX2_close_98 : decode cX2_close 98 = .ok (.goto (-20), 3) := by decide +kernel
theorem dX2_close_101 : decode cX2_close 101 = .ok (.aload_n 0, 1) := by decide +kernel
theorem dX2_close_102 : decode cX2_close 102 = .ok (.dup, 1) := by decide +kernel
theorem dX2_close_103 : decode cX2_close 103 = .ok (.getfield 25, 3) := by decide +kernel
theorem dX2_close_106 : decode cX2_close 106 = .ok (.iconst 1, 1) := by decide +kernel
theorem dX2_close_107 : decode cX2_close 107 = .ok (.iadd, 1) := by decide +kernel
theorem dX2_close_108 : decode cX2_close 108 = .ok (.putfield 25, 3) := by decide +kernel
theorem dX2_close_111 : decode cX2_close 111 = .ok (.aload_n 0, 1) := by decide +kernel
theorem dX2_close_112 : decode cX2_close 112 = .ok (.iconst 0, 1) := by decide +kernel
theorem dX2_close_113 : decode cX2_close 113 = .ok (.putfield 28, 3) := by decide +kernel
theorem dX2_close_116 : decode cX2_close 116 = .ok (.aload_n 0, 1) := by decide +kernel
theorem dX2_close_117 : decode cX2_close 117 = .ok (.getfield 25, 3) := by decide +kernel
theorem dX2_close_120 : decode cX2_close 120 = .ok (.ireturn, 1) := by decide +kernel
theorem dX2_season_0 : decode cX2_season 0 = .ok (.aload_n 0, 1) := by decide +kernel
theorem dX2_season_1 : decode cX2_season 1 = .ok (.getfield 25, 3) := by decide +kernel
theorem dX2_season_4 : decode cX2_season 4 = .ok (.ireturn, 1) := by decide +kernel
theorem dX2_stage_0 : decode cX2_stage 0 = .ok (.aload_n 0, 1) := by decide +kernel
theorem dX2_stage_1 : decode cX2_stage 1 = .ok (.getfield 28, 3) := by decide +kernel
theorem dX2_stage_4 : decode cX2_stage 4 = .ok (.ireturn, 1) := by decide +kernel
set_option maxRecDepth 20000 in
theorem ggX2_limit_X2_farmerAt : GoodIn wsX2_limit wsX2_farmerAt := goodIn_ca (goodIn_r _ [5, 6, 7, 8, 9, 34, 35, 36, 37, 38] (by decide +kernel) (by decide +kernel)) (goodIn_sub (fun _ h => List.mem_cons_of_mem _ (List.mem_append_right _ h)) (by decide +kernel))
set_option maxRecDepth 20000 in
theorem gX2_limit_X2_farmerAt : GoodIn wsX2_limit (wsV RX2 68 RX2 yX2_farmerAt wsX2_farmerAt) := goodIn_app (goodIn_of _ (by decide +kernel)) ggX2_limit_X2_farmerAt
set_option maxRecDepth 20000 in
theorem ggX2_limit_X2_limitOf : GoodIn wsX2_limit wsX2_limitOf := goodIn_ca (goodIn_r _ [13, 14, 15, 16, 17, 18, 19, 20, 21, 22, 23, 24, 25, 4, 26, 6, 7, 27, 28, 29, 30, 31, 32, 33, 39, 40, 41, 42, 43, 44, 45, 46, 47, 48, 49, 50, 51, 52, 53, 54, 55, 34, 35, 36, 37, 38, 56, 57, 58] (by decide +kernel) (by decide +kernel)) (goodIn_sub (fun _ h => List.mem_cons_of_mem _ (List.mem_append_right _ h)) (by decide +kernel))
set_option maxRecDepth 20000 in
theorem gX2_limit_X2_limitOf : GoodIn wsX2_limit (wsV RX2 96 RX2 yX2_limitOf wsX2_limitOf) := goodIn_app (goodIn_of _ (by decide +kernel)) ggX2_limit_X2_limitOf
theorem dX2_limit_0 : decode cX2_limit 0 = .ok (.aload_n 0, 1) := by decide +kernel
theorem dX2_limit_1 : decode cX2_limit 1 = .ok (.aload_n 0, 1) := by decide +kernel
theorem dX2_limit_2 : decode cX2_limit 2 = .ok (.iload_n 1, 1) := by decide +kernel
theorem dX2_limit_3 : decode cX2_limit 3 = .ok (.invokevirtual 68, 3) := by decide +kernel
theorem dX2_limit_6 : decode cX2_limit 6 = .ok (.invokevirtual 96, 3) := by decide +kernel
theorem dX2_limit_9 : decode cX2_limit 9 = .ok (.ireturn, 1) := by decide +kernel
set_option maxRecDepth 20000 in
theorem ggX2_debt_X2_farmerAt : GoodIn wsX2_debt wsX2_farmerAt := goodIn_ca (goodIn_r _ [6, 7, 8, 9, 10, 28, 29, 30, 31, 32] (by decide +kernel) (by decide +kernel)) (goodIn_sub (fun _ h => List.mem_cons_of_mem _ (List.mem_append_right _ h)) (by decide +kernel))
set_option maxRecDepth 20000 in
theorem gX2_debt_X2_farmerAt : GoodIn wsX2_debt (wsV RX2 68 RX2 yX2_farmerAt wsX2_farmerAt) := goodIn_app (goodIn_of _ (by decide +kernel)) ggX2_debt_X2_farmerAt
theorem dX2_debt_0 : decode cX2_debt 0 = .ok (.aload_n 0, 1) := by decide +kernel
theorem dX2_debt_1 : decode cX2_debt 1 = .ok (.iload_n 1, 1) := by decide +kernel
theorem dX2_debt_2 : decode cX2_debt 2 = .ok (.invokevirtual 68, 3) := by decide +kernel
theorem dX2_debt_5 : decode cX2_debt 5 = .ok (.getfield 128, 3) := by decide +kernel
theorem dX2_debt_8 : decode cX2_debt 8 = .ok (.l2i, 1) := by decide +kernel
theorem dX2_debt_9 : decode cX2_debt 9 = .ok (.ireturn, 1) := by decide +kernel
set_option maxRecDepth 20000 in
theorem ggX2_owes_X2_farmerAt : GoodIn wsX2_owes wsX2_farmerAt := goodIn_ca (goodIn_r _ [7, 8, 9, 10, 11, 36, 37, 38, 39, 40] (by decide +kernel) (by decide +kernel)) (goodIn_sub (fun _ h => List.mem_cons_of_mem _ (List.mem_append_right _ h)) (by decide +kernel))
set_option maxRecDepth 20000 in
theorem gX2_owes_X2_farmerAt : GoodIn wsX2_owes (wsV RX2 68 RX2 yX2_farmerAt wsX2_farmerAt) := goodIn_app (goodIn_of _ (by decide +kernel)) ggX2_owes_X2_farmerAt
set_option maxRecDepth 20000 in
theorem ggX2_owes_X1_instalmentSum : GoodIn wsX2_owes wsX1_instalmentSum := goodIn_r _ [16, 17, 18, 19, 20, 21, 22, 23, 24, 25, 26, 27, 28, 29, 30, 31, 32, 33, 34, 35] (by decide +kernel) (by decide +kernel)
set_option maxRecDepth 20000 in
theorem gX2_owes_X1_instalmentSum : GoodIn wsX2_owes (wsV RX2 151 RX1 yX1_instalmentSum wsX1_instalmentSum) := goodIn_app (goodIn_of _ (by decide +kernel)) ggX2_owes_X1_instalmentSum
theorem dX2_owes_0 : decode cX2_owes 0 = .ok (.aload_n 0, 1) := by decide +kernel
theorem dX2_owes_1 : decode cX2_owes 1 = .ok (.iload_n 1, 1) := by decide +kernel
theorem dX2_owes_2 : decode cX2_owes 2 = .ok (.invokevirtual 68, 3) := by decide +kernel
theorem dX2_owes_5 : decode cX2_owes 5 = .ok (.astore_n 2, 1) := by decide +kernel
theorem dX2_owes_6 : decode cX2_owes 6 = .ok (.aload_n 2, 1) := by decide +kernel
theorem dX2_owes_7 : decode cX2_owes 7 = .ok (.getfield 128, 3) := by decide +kernel
theorem dX2_owes_10 : decode cX2_owes 10 = .ok (.aload_n 2, 1) := by decide +kernel
theorem dX2_owes_11 : decode cX2_owes 11 = .ok (.getfield 148, 3) := by decide +kernel
theorem dX2_owes_14 : decode cX2_owes 14 = .ok (.ladd, 1) := by decide +kernel
theorem dX2_owes_15 : decode cX2_owes 15 = .ok (.aload_n 2, 1) := by decide +kernel
theorem dX2_owes_16 : decode cX2_owes 16 = .ok (.invokevirtual 151, 3) := by decide +kernel
theorem dX2_owes_19 : decode cX2_owes 19 = .ok (.ladd, 1) := by decide +kernel
theorem dX2_owes_20 : decode cX2_owes 20 = .ok (.l2i, 1) := by decide +kernel
theorem dX2_owes_21 : decode cX2_owes 21 = .ok (.ireturn, 1) := by decide +kernel
set_option maxRecDepth 20000 in
theorem ggX2_instalments_X2_farmerAt : GoodIn wsX2_instalments wsX2_farmerAt := goodIn_ca (goodIn_r _ [6, 7, 8, 9, 10, 28, 29, 30, 31, 32] (by decide +kernel) (by decide +kernel)) (goodIn_sub (fun _ h => List.mem_cons_of_mem _ (List.mem_append_right _ h)) (by decide +kernel))
set_option maxRecDepth 20000 in
theorem gX2_instalments_X2_farmerAt : GoodIn wsX2_instalments (wsV RX2 68 RX2 yX2_farmerAt wsX2_farmerAt) := goodIn_app (goodIn_of _ (by decide +kernel)) ggX2_instalments_X2_farmerAt
theorem dX2_instalments_0 : decode cX2_instalments 0 = .ok (.aload_n 0, 1) := by decide +kernel
theorem dX2_instalments_1 : decode cX2_instalments 1 = .ok (.iload_n 1, 1) := by decide +kernel
theorem dX2_instalments_2 : decode cX2_instalments 2 = .ok (.invokevirtual 68, 3) := by decide +kernel
theorem dX2_instalments_5 : decode cX2_instalments 5 = .ok (.getfield 155, 3) := by decide +kernel
theorem dX2_instalments_8 : decode cX2_instalments 8 = .ok (.ireturn, 1) := by decide +kernel
set_option maxRecDepth 20000 in
theorem ggX2_purse_X2_farmerAt : GoodIn wsX2_purse wsX2_farmerAt := goodIn_ca (goodIn_r _ [6, 7, 8, 9, 10, 28, 29, 30, 31, 32] (by decide +kernel) (by decide +kernel)) (goodIn_sub (fun _ h => List.mem_cons_of_mem _ (List.mem_append_right _ h)) (by decide +kernel))
set_option maxRecDepth 20000 in
theorem gX2_purse_X2_farmerAt : GoodIn wsX2_purse (wsV RX2 68 RX2 yX2_farmerAt wsX2_farmerAt) := goodIn_app (goodIn_of _ (by decide +kernel)) ggX2_purse_X2_farmerAt
theorem dX2_purse_0 : decode cX2_purse 0 = .ok (.aload_n 0, 1) := by decide +kernel
theorem dX2_purse_1 : decode cX2_purse 1 = .ok (.iload_n 1, 1) := by decide +kernel
theorem dX2_purse_2 : decode cX2_purse 2 = .ok (.invokevirtual 68, 3) := by decide +kernel
theorem dX2_purse_5 : decode cX2_purse 5 = .ok (.getfield 132, 3) := by decide +kernel
theorem dX2_purse_8 : decode cX2_purse 8 = .ok (.l2i, 1) := by decide +kernel
theorem dX2_purse_9 : decode cX2_purse 9 = .ok (.ireturn, 1) := by decide +kernel
set_option maxRecDepth 20000 in
theorem ggX2_grain_X2_farmerAt : GoodIn wsX2_grain wsX2_farmerAt := goodIn_ca (goodIn_r _ [7, 8, 9, 10, 11, 29, 30, 31, 32, 33] (by decide +kernel) (by decide +kernel)) (goodIn_sub (fun _ h => List.mem_cons_of_mem _ (List.mem_append_right _ h)) (by decide +kernel))
set_option maxRecDepth 20000 in
theorem gX2_grain_X2_farmerAt : GoodIn wsX2_grain (wsV RX2 68 RX2 yX2_farmerAt wsX2_farmerAt) := goodIn_app (goodIn_of _ (by decide +kernel)) ggX2_grain_X2_farmerAt
theorem dX2_grain_0 : decode cX2_grain 0 = .ok (.aload_n 0, 1) := by decide +kernel
theorem dX2_grain_1 : decode cX2_grain 1 = .ok (.iload_n 1, 1) := by decide +kernel
theorem dX2_grain_2 : decode cX2_grain 2 = .ok (.invokevirtual 68, 3) := by decide +kernel
theorem dX2_grain_5 : decode cX2_grain 5 = .ok (.astore_n 3, 1) := by decide +kernel
theorem dX2_grain_6 : decode cX2_grain 6 = .ok (.iload_n 2, 1) := by decide +kernel
theorem dX2_grain_7 : decode cX2_grain 7 = .ok (.ifCond .eq 10, 3) := by decide +kernel
theorem dX2_grain_10 : decode cX2_grain 10 = .ok (.aload_n 3, 1) := by decide +kernel
theorem dX2_grain_11 : decode cX2_grain 11 = .ok (.getfield 158, 3) := by decide +kernel
theorem dX2_grain_14 : decode cX2_grain 14 = .ok (.goto 7, 3) := by decide +kernel
theorem dX2_grain_17 : decode cX2_grain 17 = .ok (.aload_n 3, 1) := by decide +kernel
theorem dX2_grain_18 : decode cX2_grain 18 = .ok (.getfield 76, 3) := by decide +kernel
theorem dX2_grain_21 : decode cX2_grain 21 = .ok (.ireturn, 1) := by decide +kernel
set_option maxRecDepth 20000 in
theorem ggX2_called_X2_farmerAt : GoodIn wsX2_called wsX2_farmerAt := goodIn_ca (goodIn_r _ [6, 7, 8, 9, 10, 28, 29, 30, 31, 32] (by decide +kernel) (by decide +kernel)) (goodIn_sub (fun _ h => List.mem_cons_of_mem _ (List.mem_append_right _ h)) (by decide +kernel))
set_option maxRecDepth 20000 in
theorem gX2_called_X2_farmerAt : GoodIn wsX2_called (wsV RX2 68 RX2 yX2_farmerAt wsX2_farmerAt) := goodIn_app (goodIn_of _ (by decide +kernel)) ggX2_called_X2_farmerAt
theorem dX2_called_0 : decode cX2_called 0 = .ok (.aload_n 0, 1) := by decide +kernel
theorem dX2_called_1 : decode cX2_called 1 = .ok (.iload_n 1, 1) := by decide +kernel
theorem dX2_called_2 : decode cX2_called 2 = .ok (.invokevirtual 68, 3) := by decide +kernel
theorem dX2_called_5 : decode cX2_called 5 = .ok (.getfield 161, 3) := by decide +kernel
theorem dX2_called_8 : decode cX2_called 8 = .ok (.l2i, 1) := by decide +kernel
theorem dX2_called_9 : decode cX2_called 9 = .ok (.ireturn, 1) := by decide +kernel
set_option maxRecDepth 20000 in
theorem ggX2_repaid_X2_farmerAt : GoodIn wsX2_repaid wsX2_farmerAt := goodIn_ca (goodIn_r _ [6, 7, 8, 9, 10, 33, 34, 35, 36, 37] (by decide +kernel) (by decide +kernel)) (goodIn_sub (fun _ h => List.mem_cons_of_mem _ (List.mem_append_left _ (List.mem_append_right _ h))) (by decide +kernel))
set_option maxRecDepth 20000 in
theorem gX2_repaid_X2_farmerAt : GoodIn wsX2_repaid (wsV RX2 68 RX2 yX2_farmerAt wsX2_farmerAt) := goodIn_app (goodIn_of _ (by decide +kernel)) ggX2_repaid_X2_farmerAt
set_option maxRecDepth 20000 in
theorem ggX2_repaid_X2_requireRange : GoodIn wsX2_repaid wsX2_requireRange := goodIn_ca (goodIn_r _ [13, 14, 15] (by decide +kernel) (by decide +kernel)) (goodIn_sub (fun _ h => List.mem_cons_of_mem _ (List.mem_append_right _ h)) (by decide +kernel))
set_option maxRecDepth 20000 in
theorem gX2_repaid_X2_requireRange : GoodIn wsX2_repaid (va_wsS RX2 45 yX2_requireRange wsX2_requireRange) := goodIn_app (goodIn_of _ (by decide +kernel)) ggX2_repaid_X2_requireRange
theorem dX2_repaid_0 : decode cX2_repaid 0 = .ok (.aload_n 0, 1) := by decide +kernel
theorem dX2_repaid_1 : decode cX2_repaid 1 = .ok (.iload_n 1, 1) := by decide +kernel
theorem dX2_repaid_2 : decode cX2_repaid 2 = .ok (.invokevirtual 68, 3) := by decide +kernel
theorem dX2_repaid_5 : decode cX2_repaid 5 = .ok (.astore_n 3, 1) := by decide +kernel
theorem dX2_repaid_6 : decode cX2_repaid 6 = .ok (.iload_n 2, 1) := by decide +kernel
theorem dX2_repaid_7 : decode cX2_repaid 7 = .ok (.iconst 0, 1) := by decide +kernel
theorem dX2_repaid_8 : decode cX2_repaid 8 = .ok (.iconst 4, 1) := by decide +kernel
theorem dX2_repaid_9 : decode cX2_repaid 9 = .ok (.invokestatic 45, 3) := by decide +kernel
theorem dX2_repaid_12 : decode cX2_repaid 12 = .ok (.aload_n 3, 1) := by decide +kernel
theorem dX2_repaid_13 : decode cX2_repaid 13 = .ok (.getfield 164, 3) := by decide +kernel
theorem dX2_repaid_16 : decode cX2_repaid 16 = .ok (.iload_n 2, 1) := by decide +kernel
theorem dX2_repaid_17 : decode cX2_repaid 17 = .ok (.laload, 1) := by decide +kernel
theorem dX2_repaid_18 : decode cX2_repaid 18 = .ok (.l2i, 1) := by decide +kernel
theorem dX2_repaid_19 : decode cX2_repaid 19 = .ok (.ireturn, 1) := by decide +kernel
set_option maxRecDepth 20000 in
theorem ggX2_charged_X2_farmerAt : GoodIn wsX2_charged wsX2_farmerAt := goodIn_ca (goodIn_r _ [6, 7, 8, 9, 10, 28, 29, 30, 31, 32] (by decide +kernel) (by decide +kernel)) (goodIn_sub (fun _ h => List.mem_cons_of_mem _ (List.mem_append_right _ h)) (by decide +kernel))
set_option maxRecDepth 20000 in
theorem gX2_charged_X2_farmerAt : GoodIn wsX2_charged (wsV RX2 68 RX2 yX2_farmerAt wsX2_farmerAt) := goodIn_app (goodIn_of _ (by decide +kernel)) ggX2_charged_X2_farmerAt
theorem dX2_charged_0 : decode cX2_charged 0 = .ok (.aload_n 0, 1) := by decide +kernel
theorem dX2_charged_1 : decode cX2_charged 1 = .ok (.iload_n 1, 1) := by decide +kernel
theorem dX2_charged_2 : decode cX2_charged 2 = .ok (.invokevirtual 68, 3) := by decide +kernel
theorem dX2_charged_5 : decode cX2_charged 5 = .ok (.getfield 168, 3) := by decide +kernel
theorem dX2_charged_8 : decode cX2_charged 8 = .ok (.l2i, 1) := by decide +kernel
theorem dX2_charged_9 : decode cX2_charged 9 = .ok (.ireturn, 1) := by decide +kernel
theorem dX2_farmerAt_0 : decode cX2_farmerAt 0 = .ok (.iload_n 1, 1) := by decide +kernel
theorem dX2_farmerAt_1 : decode cX2_farmerAt 1 = .ok (.ifCond .lt 11, 3) := by decide +kernel
theorem dX2_farmerAt_4 : decode cX2_farmerAt 4 = .ok (.iload_n 1, 1) := by decide +kernel
theorem dX2_farmerAt_5 : decode cX2_farmerAt 5 = .ok (.aload_n 0, 1) := by decide +kernel
theorem dX2_farmerAt_6 : decode cX2_farmerAt 6 = .ok (.getfield 21, 3) := by decide +kernel
theorem dX2_farmerAt_9 : decode cX2_farmerAt 9 = .ok (.if_icmp .lt 13, 3) := by decide +kernel
theorem dX2_farmerAt_12 : decode cX2_farmerAt 12 = .ok (.new 37, 3) := by decide +kernel
theorem dX2_farmerAt_15 : decode cX2_farmerAt 15 = .ok (.dup, 1) := by decide +kernel
theorem dX2_farmerAt_16 : decode cX2_farmerAt 16 = .ok (.ldc 171, 2) := by decide +kernel
theorem dX2_farmerAt_18 : decode cX2_farmerAt 18 = .ok (.invokespecial 41, 3) := by decide +kernel
theorem dX2_farmerAt_21 : decode cX2_farmerAt 21 = .ok (.athrow, 1) := by decide +kernel
theorem dX2_farmerAt_22 : decode cX2_farmerAt 22 = .ok (.aload_n 0, 1) := by decide +kernel
theorem dX2_farmerAt_23 : decode cX2_farmerAt 23 = .ok (.getfield 17, 3) := by decide +kernel
theorem dX2_farmerAt_26 : decode cX2_farmerAt 26 = .ok (.iload_n 1, 1) := by decide +kernel
theorem dX2_farmerAt_27 : decode cX2_farmerAt 27 = .ok (.aaload, 1) := by decide +kernel
theorem dX2_farmerAt_28 : decode cX2_farmerAt 28 = .ok (.areturn, 1) := by decide +kernel
theorem dX2_cropAt_0 : decode cX2_cropAt 0 = .ok (.iload_n 1, 1) := by decide +kernel
theorem dX2_cropAt_1 : decode cX2_cropAt 1 = .ok (.ifCond .lt 8, 3) := by decide +kernel
theorem dX2_cropAt_4 : decode cX2_cropAt 4 = .ok (.iload_n 1, 1) := by decide +kernel
theorem dX2_cropAt_5 : decode cX2_cropAt 5 = .ok (.iconst 3, 1) := by decide +kernel
theorem dX2_cropAt_6 : decode cX2_cropAt 6 = .ok (.if_icmp .lt 13, 3) := by decide +kernel
theorem dX2_cropAt_9 : decode cX2_cropAt 9 = .ok (.new 37, 3) := by decide +kernel
theorem dX2_cropAt_12 : decode cX2_cropAt 12 = .ok (.dup, 1) := by decide +kernel
theorem dX2_cropAt_13 : decode cX2_cropAt 13 = .ok (.ldc 173, 2) := by decide +kernel
theorem dX2_cropAt_15 : decode cX2_cropAt 15 = .ok (.invokespecial 41, 3) := by decide +kernel
theorem dX2_cropAt_18 : decode cX2_cropAt 18 = .ok (.athrow, 1) := by decide +kernel
theorem dX2_cropAt_19 : decode cX2_cropAt 19 = .ok (.aload_n 0, 1) := by decide +kernel
theorem dX2_cropAt_20 : decode cX2_cropAt 20 = .ok (.getfield 11, 3) := by decide +kernel
theorem dX2_cropAt_23 : decode cX2_cropAt 23 = .ok (.iload_n 1, 1) := by decide +kernel
theorem dX2_cropAt_24 : decode cX2_cropAt 24 = .ok (.aaload, 1) := by decide +kernel
theorem dX2_cropAt_25 : decode cX2_cropAt 25 = .ok (.areturn, 1) := by decide +kernel
theorem dX2_requireRange_0 : decode cX2_requireRange 0 = .ok (.iload_n 0, 1) := by decide +kernel
theorem dX2_requireRange_1 : decode cX2_requireRange 1 = .ok (.iload_n 1, 1) := by decide +kernel
theorem dX2_requireRange_2 : decode cX2_requireRange 2 = .ok (.if_icmp .lt 8, 3) := by decide +kernel
theorem dX2_requireRange_5 : decode cX2_requireRange 5 = .ok (.iload_n 0, 1) := by decide +kernel
theorem dX2_requireRange_6 : decode cX2_requireRange 6 = .ok (.iload_n 2, 1) := by decide +kernel
theorem dX2_requireRange_7 : decode cX2_requireRange 7 = .ok (.if_icmp .le 13, 3) := by decide +kernel
theorem dX2_requireRange_10 : decode cX2_requireRange 10 = .ok (.new 175, 3) := by decide +kernel
theorem dX2_requireRange_13 : decode cX2_requireRange 13 = .ok (.dup, 1) := by decide +kernel
theorem dX2_requireRange_14 : decode cX2_requireRange 14 = .ok (.ldc 177, 2) := by decide +kernel
theorem dX2_requireRange_16 : decode cX2_requireRange 16 = .ok (.invokespecial 179, 3) := by decide +kernel
theorem dX2_requireRange_19 : decode cX2_requireRange 19 = .ok (.athrow, 1) := by decide +kernel
theorem dX2_requireRange_20 : decode cX2_requireRange 20 = .ok (.return_, 1) := by decide +kernel
theorem dX2_requireState_0 : decode cX2_requireState 0 = .ok (.iload_n 0, 1) := by decide +kernel
theorem dX2_requireState_1 : decode cX2_requireState 1 = .ok (.ifCond .ne 13, 3) := by decide +kernel
theorem dX2_requireState_4 : decode cX2_requireState 4 = .ok (.new 180, 3) := by decide +kernel
theorem dX2_requireState_7 : decode cX2_requireState 7 = .ok (.dup, 1) := by decide +kernel
theorem dX2_requireState_8 : decode cX2_requireState 8 = .ok (.ldc 182, 2) := by decide +kernel
theorem dX2_requireState_10 : decode cX2_requireState 10 = .ok (.invokespecial 184, 3) := by decide +kernel
theorem dX2_requireState_13 : decode cX2_requireState 13 = .ok (.athrow, 1) := by decide +kernel
theorem dX2_requireState_14 : decode cX2_requireState 14 = .ok (.return_, 1) := by decide +kernel
set_option maxRecDepth 20000 in
theorem ggX2_limitOf_X1_hasPlanted : GoodIn wsX2_limitOf wsX1_hasPlanted := goodIn_r _ [8, 9, 24, 25, 26, 27, 28, 29, 30, 31, 32, 33, 34, 35, 36, 37, 38, 39, 40] (by decide +kernel) (by decide +kernel)
set_option maxRecDepth 20000 in
theorem gX2_limitOf_X1_hasPlanted : GoodIn wsX2_limitOf (wsV RX2 72 RX1 yX1_hasPlanted wsX1_hasPlanted) := goodIn_app (goodIn_of _ (by decide +kernel)) ggX2_limitOf_X1_hasPlanted
set_option maxRecDepth 20000 in
theorem ggX2_limitOf_X2_cropAt : GoodIn wsX2_limitOf wsX2_cropAt := goodIn_ca (goodIn_r _ [14, 15, 16, 17, 41, 42, 43, 44, 45] (by decide +kernel) (by decide +kernel)) (goodIn_sub (fun _ h => List.mem_cons_of_mem _ (List.mem_append_right _ h)) (by decide +kernel))
set_option maxRecDepth 20000 in
theorem gX2_limitOf_X2_cropAt : GoodIn wsX2_limitOf (wsV RX2 33 RX2 yX2_cropAt wsX2_cropAt) := goodIn_app (goodIn_of _ (by decide +kernel)) ggX2_limitOf_X2_cropAt
set_option maxRecDepth 20000 in
theorem ggX2_limitOf_X0_needUpTo : GoodIn wsX2_limitOf wsX0_needUpTo := goodIn_r _ [22, 23, 46, 47, 48] (by decide +kernel) (by decide +kernel)
set_option maxRecDepth 20000 in
theorem gX2_limitOf_X0_needUpTo : GoodIn wsX2_limitOf (wsV RX2 88 RX0 yX0_needUpTo wsX0_needUpTo) := goodIn_app (goodIn_of _ (by decide +kernel)) ggX2_limitOf_X0_needUpTo
theorem dX2_limitOf_0 : decode cX2_limitOf 0 = .ok (.aload_n 1, 1) := by decide +kernel
theorem dX2_limitOf_1 : decode cX2_limitOf 1 = .ok (.invokevirtual 72, 3) := by decide +kernel
theorem dX2_limitOf_4 : decode cX2_limitOf 4 = .ok (.ifCond .ne 5, 3) := by decide +kernel
theorem dX2_limitOf_7 : decode cX2_limitOf 7 = .ok (.iconst 0, 1) := by decide +kernel
theorem dX2_limitOf_8 : decode cX2_limitOf 8 = .ok (.ireturn, 1) := by decide +kernel
theorem dX2_limitOf_9 : decode cX2_limitOf 9 = .ok (.aload_n 0, 1) := by decide +kernel
theorem dX2_limitOf_10 : decode cX2_limitOf 10 = .ok (.aload_n 1, 1) := by decide +kernel
theorem dX2_limitOf_11 : decode cX2_limitOf 11 = .ok (.getfield 82, 3) := by decide +kernel
theorem dX2_limitOf_14 : decode cX2_limitOf 14 = .ok (.invokevirtual 33, 3) := by decide +kernel
theorem dX2_limitOf_17 : decode cX2_limitOf 17 = .ok (.aload_n 0, 1) := by decide +kernel
theorem dX2_limitOf_18 : decode cX2_limitOf 18 = .ok (.getfield 28, 3) := by decide +kernel
theorem dX2_limitOf_21 : decode cX2_limitOf 21 = .ok (.invokevirtual 88, 3) := by decide +kernel
theorem dX2_limitOf_24 : decode cX2_limitOf 24 = .ok (.aload_n 1, 1) := by decide +kernel
theorem dX2_limitOf_25 : decode cX2_limitOf 25 = .ok (.getfield 85, 3) := by decide +kernel
theorem dX2_limitOf_28 : decode cX2_limitOf 28 = .ok (.imul, 1) := by decide +kernel
theorem dX2_limitOf_29 : decode cX2_limitOf 29 = .ok (.ireturn, 1) := by decide +kernel
set_option maxRecDepth 20000 in
theorem ggX2_harvestAll_X1_hasPlanted : GoodIn wsX2_harvestAll wsX1_hasPlanted := goodIn_r _ [8, 9, 50, 51, 52, 53, 54, 55, 56, 57, 58, 59, 60, 61, 62, 63, 64, 65, 66] (by decide +kernel) (by decide +kernel)
set_option maxRecDepth 20000 in
theorem gX2_harvestAll_X1_hasPlanted : GoodIn wsX2_harvestAll (wsV RX2 72 RX1 yX1_hasPlanted wsX1_hasPlanted) := goodIn_app (goodIn_of _ (by decide +kernel)) ggX2_harvestAll_X1_hasPlanted
set_option maxRecDepth 20000 in
theorem ggX2_harvestAll_X2_cropAt : GoodIn wsX2_harvestAll wsX2_cropAt := goodIn_ca (goodIn_r _ [14, 15, 16, 17, 45, 46, 47, 48, 49] (by decide +kernel) (by decide +kernel)) (goodIn_sub (fun _ h => List.mem_cons_of_mem _ (List.mem_append_right _ h)) (by decide +kernel))
set_option maxRecDepth 20000 in
theorem gX2_harvestAll_X2_cropAt : GoodIn wsX2_harvestAll (wsV RX2 33 RX2 yX2_cropAt wsX2_cropAt) := goodIn_app (goodIn_of _ (by decide +kernel)) ggX2_harvestAll_X2_cropAt
set_option maxRecDepth 20000 in
theorem ggX2_harvestAll_X1_harvest : GoodIn wsX2_harvestAll wsX1_harvest := goodIn_r _ [21, 22, 23, 24, 25, 9, 26, 27, 28, 29, 30, 31, 32, 7, 33, 34, 35, 36, 37, 38, 39, 40, 41, 42, 43, 44, 50, 51, 52, 53, 54, 55, 56, 57, 58, 59, 60, 61, 62, 63, 64, 65, 66, 67, 68, 69] (by decide +kernel) (by decide +kernel)
set_option maxRecDepth 20000 in
theorem gX2_harvestAll_X1_harvest : GoodIn wsX2_harvestAll (wsV RX2 185 RX1 yX1_harvest wsX1_harvest) := goodIn_app (goodIn_of _ (by decide +kernel)) ggX2_harvestAll_X1_harvest
theorem dX2_harvestAll_0 : decode cX2_harvestAll 0 = .ok (.iconst 0, 1) := by decide +kernel
theorem dX2_harvestAll_1 : decode cX2_harvestAll 1 = .ok (.istore_n 1, 1) := by decide +kernel
theorem dX2_harvestAll_2 : decode cX2_harvestAll 2 = .ok (.iload_n 1, 1) := by decide +kernel
theorem dX2_harvestAll_3 : decode cX2_harvestAll 3 = .ok (.aload_n 0, 1) := by decide +kernel
theorem dX2_harvestAll_4 : decode cX2_harvestAll 4 = .ok (.getfield 21, 3) := by decide +kernel
theorem dX2_harvestAll_7 : decode cX2_harvestAll 7 = .ok (.if_icmp .ge 43, 3) := by decide +kernel
theorem dX2_harvestAll_10 : decode cX2_harvestAll 10 = .ok (.aload_n 0, 1) := by decide +kernel
theorem dX2_harvestAll_11 : decode cX2_harvestAll 11 = .ok (.getfield 17, 3) := by decide +kernel
theorem dX2_harvestAll_14 : decode cX2_harvestAll 14 = .ok (.iload_n 1, 1) := by decide +kernel
theorem dX2_harvestAll_15 : decode cX2_harvestAll 15 = .ok (.aaload, 1) := by decide +kernel
theorem dX2_harvestAll_16 : decode cX2_harvestAll 16 = .ok (.invokevirtual 72, 3) := by decide +kernel
theorem dX2_harvestAll_19 : decode cX2_harvestAll 19 = .ok (.ifCond .eq 25, 3) := by decide +kernel
theorem dX2_harvestAll_22 : decode cX2_harvestAll 22 = .ok (.aload_n 0, 1) := by decide +kernel
theorem dX2_harvestAll_23 : decode cX2_harvestAll 23 = .ok (.getfield 17, 3) := by decide +kernel
theorem dX2_harvestAll_26 : decode cX2_harvestAll 26 = .ok (.iload_n 1, 1) := by decide +kernel
theorem dX2_harvestAll_27 : decode cX2_harvestAll 27 = .ok (.aaload, 1) := by decide +kernel
theorem dX2_harvestAll_28 : decode cX2_harvestAll 28 = .ok (.aload_n 0, 1) := by decide +kernel
theorem dX2_harvestAll_29 : decode cX2_harvestAll 29 = .ok (.aload_n 0, 1) := by decide +kernel
theorem dX2_harvestAll_30 : decode cX2_harvestAll 30 = .ok (.getfield 17, 3) := by decide +kernel
theorem dX2_harvestAll_33 : decode cX2_harvestAll 33 = .ok (.iload_n 1, 1) := by decide +kernel
theorem dX2_harvestAll_34 : decode cX2_harvestAll 34 = .ok (.aaload, 1) := by decide +kernel
theorem dX2_harvestAll_35 : decode cX2_harvestAll 35 = .ok (.getfield 82, 3) := by decide +kernel
theorem dX2_harvestAll_38 : decode cX2_harvestAll 38 = .ok (.invokevirtual 33, 3) := by decide +kernel
theorem dX2_harvestAll_41 : decode cX2_harvestAll 41 = .ok (.invokevirtual 185, 3) := by decide +kernel
theorem dX2_harvestAll_44 : decode cX2_harvestAll 44 = .ok (.iinc 1 1, 3) := by decide +kernel
theorem dX2_harvestAll_47 : decode cX2_harvestAll 47 = .ok (.goto (-45), 3) := by decide +kernel
theorem dX2_harvestAll_50 : decode cX2_harvestAll 50 = .ok (.return_, 1) := by decide +kernel
set_option maxRecDepth 20000 in
theorem ggX2_settleRest_X1_mayRoll : GoodIn wsX2_settleRest wsX1_mayRoll := goodIn_r _ [6, 7, 8, 9, 10, 11, 5, 12, 13, 46, 47, 48, 49, 50, 51, 52, 53, 54, 55, 56, 57, 58, 59, 60, 61, 62] (by decide +kernel) (by decide +kernel)
set_option maxRecDepth 20000 in
theorem gX2_settleRest_X1_mayRoll : GoodIn wsX2_settleRest (wsV RX2 189 RX1 yX1_mayRoll wsX1_mayRoll) := goodIn_app (goodIn_of _ (by decide +kernel)) ggX2_settleRest_X1_mayRoll
set_option maxRecDepth 20000 in
theorem ggX2_settleRest_X1_rollDebt : GoodIn wsX2_settleRest wsX1_rollDebt := goodIn_r _ [17, 18, 19, 20, 21, 8, 46, 47, 48, 49, 50, 51, 52, 53, 54, 55, 56, 57, 58, 59, 60, 61, 62] (by decide +kernel) (by decide +kernel)
set_option maxRecDepth 20000 in
theorem gX2_settleRest_X1_rollDebt : GoodIn wsX2_settleRest (wsV RX2 192 RX1 yX1_rollDebt wsX1_rollDebt) := goodIn_app (goodIn_of _ (by decide +kernel)) ggX2_settleRest_X1_rollDebt
set_option maxRecDepth 20000 in
theorem ggX2_settleRest_X2_collectFromGroup : GoodIn wsX2_settleRest wsX2_collectFromGroup := goodIn_r _ [26, 27, 28, 29, 30, 31, 32, 5, 33, 18, 34, 35, 36, 37, 38, 39, 40, 41, 42, 43, 44, 45, 63, 64, 65, 66, 67, 46, 47, 48, 49, 50, 51, 52, 53, 54, 55, 56, 57, 58, 59, 60, 61, 62] (by decide +kernel) (by decide +kernel)
set_option maxRecDepth 20000 in
theorem gX2_settleRest_X2_collectFromGroup : GoodIn wsX2_settleRest (wsV RX2 195 RX2 yX2_collectFromGroup wsX2_collectFromGroup) := goodIn_app (goodIn_of _ (by decide +kernel)) ggX2_settleRest_X2_collectFromGroup
theorem dX2_settleRest_0 : decode cX2_settleRest 0 = .ok (.aload_n 1, 1) := by decide +kernel
theorem dX2_settleRest_1 : decode cX2_settleRest 1 = .ok (.getfield 128, 3) := by decide +kernel
theorem dX2_settleRest_4 : decode cX2_settleRest 4 = .ok (.lconst 0, 1) := by decide +kernel
theorem dX2_settleRest_5 : decode cX2_settleRest 5 = .ok (.lcmp, 1) := by decide +kernel
theorem dX2_settleRest_6 : decode cX2_settleRest 6 = .ok (.ifCond .ne 4, 3) := by decide +kernel
theorem dX2_settleRest_9 : decode cX2_settleRest 9 = .ok (.return_, 1) := by decide +kernel
theorem dX2_settleRest_10 : decode cX2_settleRest 10 = .ok (.aload_n 1, 1) := by decide +kernel
theorem dX2_settleRest_11 : decode cX2_settleRest 11 = .ok (.invokevirtual 189, 3) := by decide +kernel
theorem dX2_settleRest_14 : decode cX2_settleRest 14 = .ok (.ifCond .eq 10, 3) := by decide +kernel
theorem dX2_settleRest_17 : decode cX2_settleRest 17 = .ok (.aload_n 1, 1) := by decide +kernel
theorem dX2_settleRest_18 : decode cX2_settleRest 18 = .ok (.invokevirtual 192, 3) := by decide +kernel
theorem dX2_settleRest_21 : decode cX2_settleRest 21 = .ok (.goto 8, 3) := by decide +kernel
theorem dX2_settleRest_24 : decode cX2_settleRest 24 = .ok (.aload_n 0, 1) := by decide +kernel
theorem dX2_settleRest_25 : decode cX2_settleRest 25 = .ok (.aload_n 1, 1) := by decide +kernel
theorem dX2_settleRest_26 : decode cX2_settleRest 26 = .ok (.invokevirtual 195, 3) := by decide +kernel
theorem dX2_settleRest_29 : decode cX2_settleRest 29 = .ok (.return_, 1) := by decide +kernel
set_option maxRecDepth 20000 in
theorem ggX2_collectFromGroup_X1_payFor : GoodIn wsX2_collectFromGroup wsX1_payFor := goodIn_r _ [8, 9, 10, 11, 12, 13, 14, 15, 16, 17, 18, 19, 7, 20, 21, 27, 28, 29, 30, 31, 32, 33, 34, 35, 36, 37, 38, 39, 40, 41, 42, 43] (by decide +kernel) (by decide +kernel)
set_option maxRecDepth 20000 in
theorem gX2_collectFromGroup_X1_payFor : GoodIn wsX2_collectFromGroup (wsV RX2 198 RX1 yX1_payFor wsX1_payFor) := goodIn_app (goodIn_of _ (by decide +kernel)) ggX2_collectFromGroup_X1_payFor
theorem dX2_collectFromGroup_0 : decode cX2_collectFromGroup 0 = .ok (.iconst 0, 1) := by decide +kernel
theorem dX2_collectFromGroup_1 : decode cX2_collectFromGroup 1 = .ok (.istore_n 2, 1) := by decide +kernel
theorem dX2_collectFromGroup_2 : decode cX2_collectFromGroup 2 = .ok (.iload_n 2, 1) := by decide +kernel
theorem dX2_collectFromGroup_3 : decode cX2_collectFromGroup 3 = .ok (.aload_n 0, 1) := by decide +kernel
theorem dX2_collectFromGroup_4 : decode cX2_collectFromGroup 4 = .ok (.getfield 21, 3) := by decide +kernel
theorem dX2_collectFromGroup_7 : decode cX2_collectFromGroup 7 = .ok (.if_icmp .ge 45, 3) := by decide +kernel
theorem dX2_collectFromGroup_10 : decode cX2_collectFromGroup 10 = .ok (.aload_n 0, 1) := by decide +kernel
theorem dX2_collectFromGroup_11 : decode cX2_collectFromGroup 11 = .ok (.getfield 17, 3) := by decide +kernel
theorem dX2_collectFromGroup_14 : decode cX2_collectFromGroup 14 = .ok (.iload_n 2, 1) := by decide +kernel
theorem dX2_collectFromGroup_15 : decode cX2_collectFromGroup 15 = .ok (.aaload, 1) := by decide +kernel
theorem dX2_collectFromGroup_16 : decode cX2_collectFromGroup 16 = .ok (.aload_n 1, 1) := by decide +kernel
theorem dX2_collectFromGroup_17 : decode cX2_collectFromGroup 17 = .ok (.if_acmp .eq 29, 3) := by decide +kernel
theorem dX2_collectFromGroup_20 : decode cX2_collectFromGroup 20 = .ok (.aload_n 0, 1) := by decide +kernel
theorem dX2_collectFromGroup_21 : decode cX2_collectFromGroup 21 = .ok (.getfield 17, 3) := by decide +kernel
theorem dX2_collectFromGroup_24 : decode cX2_collectFromGroup 24 = .ok (.iload_n 2, 1) := by decide +kernel
theorem dX2_collectFromGroup_25 : decode cX2_collectFromGroup 25 = .ok (.aaload, 1) := by decide +kernel
theorem dX2_collectFromGroup_26 : decode cX2_collectFromGroup 26 = .ok (.getfield 65, 3) := by decide +kernel
theorem dX2_collectFromGroup_29 : decode cX2_collectFromGroup 29 = .ok (.aload_n 1, 1) := by decide +kernel
theorem dX2_collectFromGroup_30 : decode cX2_collectFromGroup 30 = .ok (.getfield 65, 3) := by decide +kernel
theorem dX2_collectFromGroup_33 : decode cX2_collectFromGroup 33 = .ok (.if_icmp .ne 13, 3) := by decide +kernel
theorem dX2_collectFromGroup_36 : decode cX2_collectFromGroup 36 = .ok (.aload_n 0, 1) := by decide +kernel
theorem dX2_collectFromGroup_37 : decode cX2_collectFromGroup 37 = .ok (.getfield 17, 3) := by decide +kernel
theorem dX2_collectFromGroup_40 : decode cX2_collectFromGroup 40 = .ok (.iload_n 2, 1) := by decide +kernel
theorem dX2_collectFromGroup_41 : decode cX2_collectFromGroup 41 = .ok (.aaload, 1) := by decide +kernel
theorem dX2_collectFromGroup_42 : decode cX2_collectFromGroup 42 = .ok (.aload_n 1, 1) := by decide +kernel
theorem dX2_collectFromGroup_43 : decode cX2_collectFromGroup 43 = .ok (.invokevirtual 198, 3) := by decide +kernel
theorem dX2_collectFromGroup_46 : decode cX2_collectFromGroup 46 = .ok (.iinc 2 1, 3) := by decide +kernel
theorem dX2_collectFromGroup_49 : decode cX2_collectFromGroup 49 = .ok (.goto (-47), 3) := by decide +kernel
theorem dX2_collectFromGroup_52 : decode cX2_collectFromGroup 52 = .ok (.return_, 1) := by decide +kernel
end
section
theorem dX3_init_0 : decode cX3_init 0 = .ok (.aload_n 0, 1) := by decide +kernel
theorem dX3_init_1 : decode cX3_init 1 = .ok (.invokespecial 1, 3) := by decide +kernel
theorem dX3_init_4 : decode cX3_init 4 = .ok (.aload_n 0, 1) := by decide +kernel
theorem dX3_init_5 : decode cX3_init 5 = .ok (.bipush 12, 2) := by decide +kernel
theorem dX3_init_7 : decode cX3_init 7 = .ok (.newarray .int, 2) := by decide +kernel
theorem dX3_init_9 : decode cX3_init 9 = .ok (.putfield 7, 3) := by decide +kernel
theorem dX3_init_12 : decode cX3_init 12 = .ok (.aload_n 0, 1) := by decide +kernel
theorem dX3_init_13 : decode cX3_init 13 = .ok (.iconst 3, 1) := by decide +kernel
theorem dX3_init_14 : decode cX3_init 14 = .ok (.newarray .int, 2) := by decide +kernel
theorem dX3_init_16 : decode cX3_init 16 = .ok (.putfield 13, 3) := by decide +kernel
theorem dX3_init_19 : decode cX3_init 19 = .ok (.aload_n 0, 1) := by decide +kernel
theorem dX3_init_20 : decode cX3_init 20 = .ok (.iconst 3, 1) := by decide +kernel
theorem dX3_init_21 : decode cX3_init 21 = .ok (.newarray .int, 2) := by decide +kernel
theorem dX3_init_23 : decode cX3_init 23 = .ok (.putfield 16, 3) := by decide +kernel
theorem dX3_init_26 : decode cX3_init 26 = .ok (.aload_n 0, 1) := by decide +kernel
theorem dX3_init_27 : decode cX3_init 27 = .ok (.bipush 8, 2) := by decide +kernel
theorem dX3_init_29 : decode cX3_init 29 = .ok (.newarray .int, 2) := by decide +kernel
theorem dX3_init_31 : decode cX3_init 31 = .ok (.putfield 19, 3) := by decide +kernel
theorem dX3_init_34 : decode cX3_init 34 = .ok (.aload_n 0, 1) := by decide +kernel
theorem dX3_init_35 : decode cX3_init 35 = .ok (.bipush 8, 2) := by decide +kernel
theorem dX3_init_37 : decode cX3_init 37 = .ok (.newarray .int, 2) := by decide +kernel
theorem dX3_init_39 : decode cX3_init 39 = .ok (.putfield 22, 3) := by decide +kernel
theorem dX3_init_42 : decode cX3_init 42 = .ok (.aload_n 0, 1) := by decide +kernel
theorem dX3_init_43 : decode cX3_init 43 = .ok (.bipush 8, 2) := by decide +kernel
theorem dX3_init_45 : decode cX3_init 45 = .ok (.newarray .int, 2) := by decide +kernel
theorem dX3_init_47 : decode cX3_init 47 = .ok (.putfield 25, 3) := by decide +kernel
theorem dX3_init_50 : decode cX3_init 50 = .ok (.aload_n 0, 1) := by decide +kernel
theorem dX3_init_51 : decode cX3_init 51 = .ok (.bipush 8, 2) := by decide +kernel
theorem dX3_init_53 : decode cX3_init 53 = .ok (.newarray .int, 2) := by decide +kernel
theorem dX3_init_55 : decode cX3_init 55 = .ok (.putfield 28, 3) := by decide +kernel
theorem dX3_init_58 : decode cX3_init 58 = .ok (.aload_n 0, 1) := by decide +kernel
theorem dX3_init_59 : decode cX3_init 59 = .ok (.bipush 8, 2) := by decide +kernel
theorem dX3_init_61 : decode cX3_init 61 = .ok (.newarray .int, 2) := by decide +kernel
theorem dX3_init_63 : decode cX3_init 63 = .ok (.putfield 31, 3) := by decide +kernel
theorem dX3_init_66 : decode cX3_init 66 = .ok (.aload_n 0, 1) := by decide +kernel
theorem dX3_init_67 : decode cX3_init 67 = .ok (.bipush 8, 2) := by decide +kernel
theorem dX3_init_69 : decode cX3_init 69 = .ok (.newarray .int, 2) := by decide +kernel
theorem dX3_init_71 : decode cX3_init 71 = .ok (.putfield 34, 3) := by decide +kernel
theorem dX3_init_74 : decode cX3_init 74 = .ok (.aload_n 0, 1) := by decide +kernel
theorem dX3_init_75 : decode cX3_init 75 = .ok (.bipush 8, 2) := by decide +kernel
theorem dX3_init_77 : decode cX3_init 77 = .ok (.newarray .int, 2) := by decide +kernel
theorem dX3_init_79 : decode cX3_init 79 = .ok (.putfield 37, 3) := by decide +kernel
theorem dX3_init_82 : decode cX3_init 82 = .ok (.aload_n 0, 1) := by decide +kernel
theorem dX3_init_83 : decode cX3_init 83 = .ok (.bipush 8, 2) := by decide +kernel
theorem dX3_init_85 : decode cX3_init 85 = .ok (.newarray .int, 2) := by decide +kernel
theorem dX3_init_87 : decode cX3_init 87 = .ok (.putfield 40, 3) := by decide +kernel
theorem dX3_init_90 : decode cX3_init 90 = .ok (.aload_n 0, 1) := by decide +kernel
theorem dX3_init_91 : decode cX3_init 91 = .ok (.bipush 24, 2) := by decide +kernel
theorem dX3_init_93 : decode cX3_init 93 = .ok (.newarray .int, 2) := by decide +kernel
theorem dX3_init_95 : decode cX3_init 95 = .ok (.putfield 43, 3) := by decide +kernel
theorem dX3_init_98 : decode cX3_init 98 = .ok (.aload_n 0, 1) := by decide +kernel
theorem dX3_init_99 : decode cX3_init 99 = .ok (.bipush 8, 2) := by decide +kernel
theorem dX3_init_101 : decode cX3_init 101 = .ok (.newarray .int, 2) := by decide +kernel
theorem dX3_init_103 : decode cX3_init 103 = .ok (.putfield 46, 3) := by decide +kernel
theorem dX3_init_106 : decode cX3_init 106 = .ok (.aload_n 0, 1) := by decide +kernel
theorem dX3_init_107 : decode cX3_init 107 = .ok (.bipush 8, 2) := by decide +kernel
theorem dX3_init_109 : decode cX3_init 109 = .ok (.newarray .int, 2) := by decide +kernel
theorem dX3_init_111 : decode cX3_init 111 = .ok (.putfield 49, 3) := by decide +kernel
theorem dX3_init_114 : decode cX3_init 114 = .ok (.aload_n 0, 1) := by decide +kernel
theorem dX3_init_115 : decode cX3_init 115 = .ok (.bipush 8, 2) := by decide +kernel
theorem dX3_init_117 : decode cX3_init 117 = .ok (.newarray .int, 2) := by decide +kernel
theorem dX3_init_119 : decode cX3_init 119 = .ok (.putfield 52, 3) := by decide +kernel
theorem dX3_init_122 : decode cX3_init 122 = .ok (.aload_n 0, 1) := by decide +kernel
theorem dX3_init_123 : decode cX3_init 123 = .ok (.bipush 8, 2) := by decide +kernel
theorem dX3_init_125 : decode cX3_init 125 = .ok (.newarray .int, 2) := by decide +kernel
theorem dX3_init_127 : decode cX3_init 127 = .ok (.putfield 55, 3) := by decide +kernel
theorem dX3_init_130 : decode cX3_init 130 = .ok (.aload_n 0, 1) := by decide +kernel
theorem dX3_init_131 : decode cX3_init 131 = .ok (.bipush 8, 2) := by decide +kernel
theorem dX3_init_133 : decode cX3_init 133 = .ok (.newarray .int, 2) := by decide +kernel
theorem dX3_init_135 : decode cX3_init 135 = .ok (.putfield 58, 3) := by decide +kernel
theorem dX3_init_138 : decode cX3_init 138 = .ok (.aload_n 0, 1) := by decide +kernel
theorem dX3_init_139 : decode cX3_init 139 = .ok (.bipush 8, 2) := by decide +kernel
theorem dX3_init_141 : decode cX3_init 141 = .ok (.newarray .int, 2) := by decide +kernel
theorem dX3_init_143 : decode cX3_init 143 = .ok (.putfield 61, 3) := by decide +kernel
theorem dX3_init_146 : decode cX3_init 146 = .ok (.aload_n 0, 1) := by decide +kernel
theorem dX3_init_147 : decode cX3_init 147 = .ok (.bipush 40, 2) := by decide +kernel
theorem dX3_init_149 : decode cX3_init 149 = .ok (.newarray .int, 2) := by decide +kernel
theorem dX3_init_151 : decode cX3_init 151 = .ok (.putfield 64, 3) := by decide +kernel
theorem dX3_init_154 : decode cX3_init 154 = .ok (.aload_n 0, 1) := by decide +kernel
theorem dX3_init_155 : decode cX3_init 155 = .ok (.bipush 8, 2) := by decide +kernel
theorem dX3_init_157 : decode cX3_init 157 = .ok (.newarray .int, 2) := by decide +kernel
theorem dX3_init_159 : decode cX3_init 159 = .ok (.putfield 67, 3) := by decide +kernel
theorem dX3_init_162 : decode cX3_init 162 = .ok (.iconst 0, 1) := by decide +kernel
theorem dX3_init_163 : decode cX3_init 163 = .ok (.istore_n 1, 1) := by decide +kernel
theorem dX3_init_164 : decode cX3_init 164 = .ok (.iload_n 1, 1) := by decide +kernel
theorem dX3_init_165 : decode cX3_init 165 = .ok (.bipush 12, 2) := by decide +kernel
theorem dX3_init_167 : decode cX3_init 167 = .ok (.if_icmp .ge 18, 3) := by decide +kernel
theorem dX3_init_170 : decode cX3_init 170 = .ok (.aload_n 0, 1) := by decide +kernel
theorem dX3_init_171 : decode cX3_init 171 = .ok (.getfield 7, 3) := by decide +kernel
theorem dX3_init_174 : decode cX3_init 174 = .ok (.iload_n 1, 1) := by decide +kernel
theorem dX3_init_175 : decode cX3_init 175 = .ok (.sipush 1000, 3) := by decide +kernel
theorem dX3_init_178 : decode cX3_init 178 = .ok (.iastore, 1) := by decide +kernel
theorem dX3_init_179 : decode cX3_init 179 = .ok (.iinc 1 1, 3) := by decide +kernel
theorem dX3_init_182 : decode cX3_init 182 = .ok (.goto (-18), 3) := by decide +kernel
theorem dX3_init_185 : decode cX3_init 185 = .ok (.iconst 0, 1) := by decide +kernel
theorem dX3_init_186 : decode cX3_init 186 = .ok (.istore_n 1, 1) := by decide +kernel
theorem dX3_init_187 : decode cX3_init 187 = .ok (.iload_n 1, 1) := by decide +kernel
theorem dX3_init_188 : decode cX3_init 188 = .ok (.iconst 3, 1) := by decide +kernel
theorem dX3_init_189 : decode cX3_init 189 = .ok (.if_icmp .ge 25, 3) := by decide +kernel
theorem dX3_init_192 : decode cX3_init 192 = .ok (.aload_n 0, 1) := by decide +kernel
theorem dX3_init_193 : decode cX3_init 193 = .ok (.getfield 13, 3) := by decide +kernel
theorem dX3_init_196 : decode cX3_init 196 = .ok (.iload_n 1, 1) := by decide +kernel
theorem dX3_init_197 : decode cX3_init 197 = .ok (.bipush 100, 2) := by decide +kernel
theorem dX3_init_199 : decode cX3_init 199 = .ok (.iastore, 1) := by decide +kernel
theorem dX3_init_200 : decode cX3_init 200 = .ok (.aload_n 0, 1) := by decide +kernel
theorem dX3_init_201 : decode cX3_init 201 = .ok (.getfield 16, 3) := by decide +kernel
theorem dX3_init_204 : decode cX3_init 204 = .ok (.iload_n 1, 1) := by decide +kernel
theorem dX3_init_205 : decode cX3_init 205 = .ok (.bipush 50, 2) := by decide +kernel
theorem dX3_init_207 : decode cX3_init 207 = .ok (.iastore, 1) := by decide +kernel
theorem dX3_init_208 : decode cX3_init 208 = .ok (.iinc 1 1, 3) := by decide +kernel
theorem dX3_init_211 : decode cX3_init 211 = .ok (.goto (-24), 3) := by decide +kernel
theorem dX3_init_214 : decode cX3_init 214 = .ok (.return_, 1) := by decide +kernel
theorem dX3_thrown_0 : decode cX3_thrown 0 = .ok (.aload_n 0, 1) := by decide +kernel
theorem dX3_thrown_1 : decode cX3_thrown 1 = .ok (.getfield 70, 3) := by decide +kernel
theorem dX3_thrown_4 : decode cX3_thrown 4 = .ok (.ireturn, 1) := by decide +kernel
theorem dX3_refused_0 : decode cX3_refused 0 = .ok (.aload_n 0, 1) := by decide +kernel
theorem dX3_refused_1 : decode cX3_refused 1 = .ok (.iload_n 1, 1) := by decide +kernel
theorem dX3_refused_2 : decode cX3_refused 2 = .ok (.putfield 70, 3) := by decide +kernel
theorem dX3_refused_5 : decode cX3_refused 5 = .ok (.iload_n 1, 1) := by decide +kernel
theorem dX3_refused_6 : decode cX3_refused 6 = .ok (.ifCond .eq 7, 3) := by decide +kernel
theorem dX3_refused_9 : decode cX3_refused 9 = .ok (.iconst 1, 1) := by decide +kernel
theorem dX3_refused_10 : decode cX3_refused 10 = .ok (.goto 4, 3) := by decide +kernel
theorem dX3_refused_13 : decode cX3_refused 13 = .ok (.iconst 0, 1) := by decide +kernel
theorem dX3_refused_14 : decode cX3_refused 14 = .ok (.ireturn, 1) := by decide +kernel
theorem dX3_fine_0 : decode cX3_fine 0 = .ok (.aload_n 0, 1) := by decide +kernel
theorem dX3_fine_1 : decode cX3_fine 1 = .ok (.iconst 0, 1) := by decide +kernel
theorem dX3_fine_2 : decode cX3_fine 2 = .ok (.putfield 70, 3) := by decide +kernel
theorem dX3_fine_5 : decode cX3_fine 5 = .ok (.iload_n 1, 1) := by decide +kernel
theorem dX3_fine_6 : decode cX3_fine 6 = .ok (.ireturn, 1) := by decide +kernel
theorem dX3_in_0 : decode cX3_in 0 = .ok (.iload_n 0, 1) := by decide +kernel
theorem dX3_in_1 : decode cX3_in 1 = .ok (.iload_n 1, 1) := by decide +kernel
theorem dX3_in_2 : decode cX3_in 2 = .ok (.if_icmp .lt 12, 3) := by decide +kernel
theorem dX3_in_5 : decode cX3_in 5 = .ok (.iload_n 0, 1) := by decide +kernel
theorem dX3_in_6 : decode cX3_in 6 = .ok (.iload_n 2, 1) := by decide +kernel
theorem dX3_in_7 : decode cX3_in 7 = .ok (.if_icmp .gt 7, 3) := by decide +kernel
theorem dX3_in_10 : decode cX3_in 10 = .ok (.iconst 1, 1) := by decide +kernel
theorem dX3_in_11 : decode cX3_in 11 = .ok (.goto 4, 3) := by decide +kernel
theorem dX3_in_14 : decode cX3_in 14 = .ok (.iconst 0, 1) := by decide +kernel
theorem dX3_in_15 : decode cX3_in 15 = .ok (.ireturn, 1) := by decide +kernel
set_option maxRecDepth 20000 in
theorem ggX3_isCrop_X3_in : GoodIn wsX3_isCrop wsX3_in := goodIn_r _ [4] (by decide +kernel) (by decide +kernel)
set_option maxRecDepth 20000 in
theorem gX3_isCrop_X3_in : GoodIn wsX3_isCrop (va_wsS RX3 74 yX3_in wsX3_in) := goodIn_app (goodIn_of _ (by decide +kernel)) ggX3_isCrop_X3_in
theorem dX3_isCrop_0 : decode cX3_isCrop 0 = .ok (.iload_n 0, 1) := by decide +kernel
theorem dX3_isCrop_1 : decode cX3_isCrop 1 = .ok (.iconst 0, 1) := by decide +kernel
theorem dX3_isCrop_2 : decode cX3_isCrop 2 = .ok (.iconst 2, 1) := by decide +kernel
theorem dX3_isCrop_3 : decode cX3_isCrop 3 = .ok (.invokestatic 74, 3) := by decide +kernel
theorem dX3_isCrop_6 : decode cX3_isCrop 6 = .ok (.ireturn, 1) := by decide +kernel
set_option maxRecDepth 20000 in
theorem ggX3_isFarmer_X3_in : GoodIn wsX3_isFarmer wsX3_in := goodIn_r _ [5] (by decide +kernel) (by decide +kernel)
set_option maxRecDepth 20000 in
theorem gX3_isFarmer_X3_in : GoodIn wsX3_isFarmer (va_wsS RX3 74 yX3_in wsX3_in) := goodIn_app (goodIn_of _ (by decide +kernel)) ggX3_isFarmer_X3_in
theorem dX3_isFarmer_0 : decode cX3_isFarmer 0 = .ok (.iload_n 1, 1) := by decide +kernel
theorem dX3_isFarmer_1 : decode cX3_isFarmer 1 = .ok (.iconst 0, 1) := by decide +kernel
theorem dX3_isFarmer_2 : decode cX3_isFarmer 2 = .ok (.aload_n 0, 1) := by decide +kernel
theorem dX3_isFarmer_3 : decode cX3_isFarmer 3 = .ok (.getfield 78, 3) := by decide +kernel
theorem dX3_isFarmer_6 : decode cX3_isFarmer 6 = .ok (.iconst 1, 1) := by decide +kernel
theorem dX3_isFarmer_7 : decode cX3_isFarmer 7 = .ok (.isub, 1) := by decide +kernel
theorem dX3_isFarmer_8 : decode cX3_isFarmer 8 = .ok (.invokestatic 74, 3) := by decide +kernel
theorem dX3_isFarmer_11 : decode cX3_isFarmer 11 = .ok (.ireturn, 1) := by decide +kernel
set_option maxRecDepth 20000 in
theorem ggX3_setNeed_X3_isCrop : GoodIn wsX3_setNeed wsX3_isCrop := goodIn_r _ [6, 7, 8, 5, 9] (by decide +kernel) (by decide +kernel)
set_option maxRecDepth 20000 in
theorem gX3_setNeed_X3_isCrop : GoodIn wsX3_setNeed (va_wsS RX3 81 yX3_isCrop wsX3_isCrop) := goodIn_app (goodIn_of _ (by decide +kernel)) ggX3_setNeed_X3_isCrop
set_option maxRecDepth 20000 in
theorem ggX3_setNeed_X3_in : GoodIn wsX3_setNeed wsX3_in := goodIn_r _ [9] (by decide +kernel) (by decide +kernel)
set_option maxRecDepth 20000 in
theorem gX3_setNeed_X3_in : GoodIn wsX3_setNeed (va_wsS RX3 74 yX3_in wsX3_in) := goodIn_app (goodIn_of _ (by decide +kernel)) ggX3_setNeed_X3_in
set_option maxRecDepth 20000 in
theorem ggX3_setNeed_X3_refused : GoodIn wsX3_setNeed wsX3_refused := goodIn_r _ [13, 14, 15, 16, 17, 18, 19, 20, 21, 22, 23, 24, 25, 26, 27, 28, 29, 30, 31, 32, 33, 34, 35, 36, 37, 38] (by decide +kernel) (by decide +kernel)
set_option maxRecDepth 20000 in
theorem gX3_setNeed_X3_refused : GoodIn wsX3_setNeed (wsV RX3 86 RX3 yX3_refused wsX3_refused) := goodIn_app (goodIn_of _ (by decide +kernel)) ggX3_setNeed_X3_refused
theorem dX3_setNeed_0 : decode cX3_setNeed 0 = .ok (.iload_n 1, 1) := by decide +kernel
theorem dX3_setNeed_1 : decode cX3_setNeed 1 = .ok (.invokestatic 81, 3) := by decide +kernel
theorem dX3_setNeed_4 : decode cX3_setNeed 4 = .ok (.ifCond .eq 16, 3) := by decide +kernel
theorem dX3_setNeed_7 : decode cX3_setNeed 7 = .ok (.iload_n 2, 1) := by decide +kernel
theorem dX3_setNeed_8 : decode cX3_setNeed 8 = .ok (.iconst 0, 1) := by decide +kernel
theorem dX3_setNeed_9 : decode cX3_setNeed 9 = .ok (.iconst 3, 1) := by decide +kernel
theorem dX3_setNeed_10 : decode cX3_setNeed 10 = .ok (.invokestatic 74, 3) := by decide +kernel
theorem dX3_setNeed_13 : decode cX3_setNeed 13 = .ok (.ifCond .eq 7, 3) := by decide +kernel
theorem dX3_setNeed_16 : decode cX3_setNeed 16 = .ok (.iconst 1, 1) := by decide +kernel
theorem dX3_setNeed_17 : decode cX3_setNeed 17 = .ok (.goto 4, 3) := by decide +kernel
theorem dX3_setNeed_20 : decode cX3_setNeed 20 = .ok (.iconst 0, 1) := by decide +kernel
theorem dX3_setNeed_21 : decode cX3_setNeed 21 = .ok (.istore 4, 2) := by decide +kernel
theorem dX3_setNeed_23 : decode cX3_setNeed 23 = .ok (.aload_n 0, 1) := by decide +kernel
theorem dX3_setNeed_24 : decode cX3_setNeed 24 = .ok (.iload 4, 2) := by decide +kernel
theorem dX3_setNeed_26 : decode cX3_setNeed 26 = .ok (.ifCond .ne 7, 3) := by decide +kernel
theorem dX3_setNeed_29 : decode cX3_setNeed 29 = .ok (.iconst 1, 1) := by decide +kernel
theorem dX3_setNeed_30 : decode cX3_setNeed 30 = .ok (.goto 18, 3) := by decide +kernel
theorem dX3_setNeed_33 : decode cX3_setNeed 33 = .ok (.iload_n 3, 1) := by decide +kernel
theorem dX3_setNeed_34 : decode cX3_setNeed 34 = .ok (.iconst 0, 1) := by decide +kernel
theorem dX3_setNeed_35 : decode cX3_setNeed 35 = .ok (.ldc 85, 2) := by decide +kernel
theorem dX3_setNeed_37 : decode cX3_setNeed 37 = .ok (.invokestatic 74, 3) := by decide +kernel
theorem dX3_setNeed_40 : decode cX3_setNeed 40 = .ok (.ifCond .eq 7, 3) := by decide +kernel
theorem dX3_setNeed_43 : decode cX3_setNeed 43 = .ok (.iconst 0, 1) := by decide +kernel
theorem dX3_setNeed_44 : decode cX3_setNeed 44 = .ok (.goto 4, 3) := by decide +kernel
theorem dX3_setNeed_47 : decode cX3_setNeed 47 = .ok (.iconst 2, 1) := by decide +kernel
theorem dX3_setNeed_48 : decode cX3_setNeed 48 = .ok (.invokevirtual 86, 3) := by decide +kernel
theorem dX3_setNeed_51 : decode cX3_setNeed 51 = .ok (.ifCond .eq 5, 3) := by decide +kernel
theorem dX3_setNeed_54 : decode cX3_setNeed 54 = .ok (.iconst 0, 1) := by decide +kernel
theorem dX3_setNeed_55 : decode cX3_setNeed 55 = .ok (.ireturn, 1) := by decide +kernel
theorem dX3_setNeed_56 : decode cX3_setNeed 56 = .ok (.aload_n 0, 1) := by decide +kernel
theorem dX3_setNeed_57 : decode cX3_setNeed 57 = .ok (.getfield 7, 3) := by decide +kernel
theorem dX3_setNeed_60 : decode cX3_setNeed 60 = .ok (.iconst 4, 1) := by decide +kernel
theorem dX3_setNeed_61 : decode cX3_setNeed 61 = .ok (.iload_n 1, 1) := by decide +kernel
theorem dX3_setNeed_62 : decode cX3_setNeed 62 = .ok (.imul, 1) := by decide +kernel
theorem dX3_setNeed_63 : decode cX3_setNeed 63 = .ok (.iload_n 2, 1) := by decide +kernel
theorem dX3_setNeed_64 : decode cX3_setNeed 64 = .ok (.iadd, 1) := by decide +kernel
theorem dX3_setNeed_65 : decode cX3_setNeed 65 = .ok (.iaload, 1) := by decide +kernel
theorem dX3_setNeed_66 : decode cX3_setNeed 66 = .ok (.istore 5, 2) := by decide +kernel
theorem dX3_setNeed_68 : decode cX3_setNeed 68 = .ok (.aload_n 0, 1) := by decide +kernel
theorem dX3_setNeed_69 : decode cX3_setNeed 69 = .ok (.getfield 7, 3) := by decide +kernel
theorem dX3_setNeed_72 : decode cX3_setNeed 72 = .ok (.iconst 4, 1) := by decide +kernel
theorem dX3_setNeed_73 : decode cX3_setNeed 73 = .ok (.iload_n 1, 1) := by decide +kernel
theorem dX3_setNeed_74 : decode cX3_setNeed 74 = .ok (.imul, 1) := by decide +kernel
theorem dX3_setNeed_75 : decode cX3_setNeed 75 = .ok (.iload_n 2, 1) := by decide +kernel
theorem dX3_setNeed_76 : decode cX3_setNeed 76 = .ok (.iadd, 1) := by decide +kernel
theorem dX3_setNeed_77 : decode cX3_setNeed 77 = .ok (.iload_n 3, 1) := by decide +kernel
theorem dX3_setNeed_78 : decode cX3_setNeed 78 = .ok (.iastore, 1) := by decide +kernel
theorem dX3_setNeed_79 : decode cX3_setNeed 79 = .ok (.iload 5, 2) := by decide +kernel
theorem dX3_setNeed_81 : decode cX3_setNeed 81 = .ok (.ireturn, 1) := by decide +kernel
set_option maxRecDepth 20000 in
theorem ggX3_setCrop_X3_isCrop : GoodIn wsX3_setCrop wsX3_isCrop := goodIn_r _ [6, 7, 8, 5, 9] (by decide +kernel) (by decide +kernel)
set_option maxRecDepth 20000 in
theorem gX3_setCrop_X3_isCrop : GoodIn wsX3_setCrop (va_wsS RX3 81 yX3_isCrop wsX3_isCrop) := goodIn_app (goodIn_of _ (by decide +kernel)) ggX3_setCrop_X3_isCrop
set_option maxRecDepth 20000 in
theorem ggX3_setCrop_X3_in : GoodIn wsX3_setCrop wsX3_in := goodIn_r _ [9] (by decide +kernel) (by decide +kernel)
set_option maxRecDepth 20000 in
theorem gX3_setCrop_X3_in : GoodIn wsX3_setCrop (va_wsS RX3 74 yX3_in wsX3_in) := goodIn_app (goodIn_of _ (by decide +kernel)) ggX3_setCrop_X3_in
set_option maxRecDepth 20000 in
theorem ggX3_setCrop_X3_refused : GoodIn wsX3_setCrop wsX3_refused := goodIn_r _ [13, 14, 15, 16, 17, 18, 19, 20, 21, 22, 23, 24, 25, 26, 27, 28, 29, 30, 31, 32, 33, 34, 35, 36, 37, 38] (by decide +kernel) (by decide +kernel)
set_option maxRecDepth 20000 in
theorem gX3_setCrop_X3_refused : GoodIn wsX3_setCrop (wsV RX3 86 RX3 yX3_refused wsX3_refused) := goodIn_app (goodIn_of _ (by decide +kernel)) ggX3_setCrop_X3_refused
theorem dX3_setCrop_0 : decode cX3_setCrop 0 = .ok (.aload_n 0, 1) := by decide +kernel
theorem dX3_setCrop_1 : decode cX3_setCrop 1 = .ok (.iload_n 1, 1) := by decide +kernel
theorem dX3_setCrop_2 : decode cX3_setCrop 2 = .ok (.invokestatic 81, 3) := by decide +kernel
theorem dX3_setCrop_5 : decode cX3_setCrop 5 = .ok (.ifCond .ne 7, 3) := by decide +kernel
theorem dX3_setCrop_8 : decode cX3_setCrop 8 = .ok (.iconst 1, 1) := by decide +kernel
theorem dX3_setCrop_9 : decode cX3_setCrop 9 = .ok (.goto 29, 3) := by decide +kernel
theorem dX3_setCrop_12 : decode cX3_setCrop 12 = .ok (.iload_n 2, 1) := by decide +kernel
theorem dX3_setCrop_13 : decode cX3_setCrop 13 = .ok (.iconst 1, 1) := by decide +kernel
theorem dX3_setCrop_14 : decode cX3_setCrop 14 = .ok (.sipush 5000, 3) := by decide +kernel
theorem dX3_setCrop_17 : decode cX3_setCrop 17 = .ok (.invokestatic 74, 3) := by decide +kernel
theorem dX3_setCrop_20 : decode cX3_setCrop 20 = .ok (.ifCond .eq 17, 3) := by decide +kernel
theorem dX3_setCrop_23 : decode cX3_setCrop 23 = .ok (.iload_n 3, 1) := by decide +kernel
theorem dX3_setCrop_24 : decode cX3_setCrop 24 = .ok (.iconst 0, 1) := by decide +kernel
theorem dX3_setCrop_25 : decode cX3_setCrop 25 = .ok (.bipush 100, 2) := by decide +kernel
theorem dX3_setCrop_27 : decode cX3_setCrop 27 = .ok (.invokestatic 74, 3) := by decide +kernel
theorem dX3_setCrop_30 : decode cX3_setCrop 30 = .ok (.ifCond .eq 7, 3) := by decide +kernel
theorem dX3_setCrop_33 : decode cX3_setCrop 33 = .ok (.iconst 0, 1) := by decide +kernel
theorem dX3_setCrop_34 : decode cX3_setCrop 34 = .ok (.goto 4, 3) := by decide +kernel
theorem dX3_setCrop_37 : decode cX3_setCrop 37 = .ok (.iconst 2, 1) := by decide +kernel
theorem dX3_setCrop_38 : decode cX3_setCrop 38 = .ok (.invokevirtual 86, 3) := by decide +kernel
theorem dX3_setCrop_41 : decode cX3_setCrop 41 = .ok (.ifCond .eq 5, 3) := by decide +kernel
theorem dX3_setCrop_44 : decode cX3_setCrop 44 = .ok (.iconst 0, 1) := by decide +kernel
theorem dX3_setCrop_45 : decode cX3_setCrop 45 = .ok (.ireturn, 1) := by decide +kernel
theorem dX3_setCrop_46 : decode cX3_setCrop 46 = .ok (.aload_n 0, 1) := by decide +kernel
theorem dX3_setCrop_47 : decode cX3_setCrop 47 = .ok (.getfield 13, 3) := by decide +kernel
theorem dX3_setCrop_50 : decode cX3_setCrop 50 = .ok (.iload_n 1, 1) := by decide +kernel
theorem dX3_setCrop_51 : decode cX3_setCrop 51 = .ok (.iaload, 1) := by decide +kernel
theorem dX3_setCrop_52 : decode cX3_setCrop 52 = .ok (.istore 4, 2) := by decide +kernel
theorem dX3_setCrop_54 : decode cX3_setCrop 54 = .ok (.aload_n 0, 1) := by decide +kernel
theorem dX3_setCrop_55 : decode cX3_setCrop 55 = .ok (.getfield 13, 3) := by decide +kernel
theorem dX3_setCrop_58 : decode cX3_setCrop 58 = .ok (.iload_n 1, 1) := by decide +kernel
theorem dX3_setCrop_59 : decode cX3_setCrop 59 = .ok (.iload_n 2, 1) := by decide +kernel
theorem dX3_setCrop_60 : decode cX3_setCrop 60 = .ok (.iastore, 1) := by decide +kernel
theorem dX3_setCrop_61 : decode cX3_setCrop 61 = .ok (.aload_n 0, 1) := by decide +kernel
theorem dX3_setCrop_62 : decode cX3_setCrop 62 = .ok (.getfield 16, 3) := by decide +kernel
theorem dX3_setCrop_65 : decode cX3_setCrop 65 = .ok (.iload_n 1, 1) := by decide +kernel
theorem dX3_setCrop_66 : decode cX3_setCrop 66 = .ok (.iload_n 3, 1) := by decide +kernel
theorem dX3_setCrop_67 : decode cX3_setCrop 67 = .ok (.iastore, 1) := by decide +kernel
theorem dX3_setCrop_68 : decode cX3_setCrop 68 = .ok (.iload 4, 2) := by decide +kernel
theorem dX3_setCrop_70 : decode cX3_setCrop 70 = .ok (.ireturn, 1) := by decide +kernel
set_option maxRecDepth 20000 in
theorem ggX3_add_X3_in : GoodIn wsX3_add wsX3_in := goodIn_r _ [6] (by decide +kernel) (by decide +kernel)
set_option maxRecDepth 20000 in
theorem gX3_add_X3_in : GoodIn wsX3_add (va_wsS RX3 74 yX3_in wsX3_in) := goodIn_app (goodIn_of _ (by decide +kernel)) ggX3_add_X3_in
set_option maxRecDepth 20000 in
theorem ggX3_add_X3_refused : GoodIn wsX3_add wsX3_refused := goodIn_r _ [10, 11, 21, 22, 23, 24, 25, 26, 27, 28, 29, 30, 31, 32, 33, 34, 35, 36, 37, 38, 39, 40, 41, 42, 43, 44] (by decide +kernel) (by decide +kernel)
set_option maxRecDepth 20000 in
theorem gX3_add_X3_refused : GoodIn wsX3_add (wsV RX3 86 RX3 yX3_refused wsX3_refused) := goodIn_app (goodIn_of _ (by decide +kernel)) ggX3_add_X3_refused
set_option maxRecDepth 20000 in
theorem ggX3_add_X3_clear : GoodIn wsX3_add wsX3_clear := goodIn_r _ [15, 16, 17, 18, 19, 20, 21, 22, 23, 24, 25, 26, 27, 28, 29, 30, 31, 32, 33, 34, 35, 36, 37, 38, 39, 40, 41, 42, 43, 44] (by decide +kernel) (by decide +kernel)
set_option maxRecDepth 20000 in
theorem gX3_add_X3_clear : GoodIn wsX3_add (wsV RX3 89 RX3 yX3_clear wsX3_clear) := goodIn_app (goodIn_of _ (by decide +kernel)) ggX3_add_X3_clear
theorem dX3_add_0 : decode cX3_add 0 = .ok (.aload_n 0, 1) := by decide +kernel
theorem dX3_add_1 : decode cX3_add 1 = .ok (.iload_n 1, 1) := by decide +kernel
theorem dX3_add_2 : decode cX3_add 2 = .ok (.iconst 0, 1) := by decide +kernel
theorem dX3_add_3 : decode cX3_add 3 = .ok (.iconst 2, 1) := by decide +kernel
theorem dX3_add_4 : decode cX3_add 4 = .ok (.invokestatic 74, 3) := by decide +kernel
theorem dX3_add_7 : decode cX3_add 7 = .ok (.ifCond .ne 7, 3) := by decide +kernel
theorem dX3_add_10 : decode cX3_add 10 = .ok (.iconst 1, 1) := by decide +kernel
theorem dX3_add_11 : decode cX3_add 11 = .ok (.goto 17, 3) := by decide +kernel
theorem dX3_add_14 : decode cX3_add 14 = .ok (.aload_n 0, 1) := by decide +kernel
theorem dX3_add_15 : decode cX3_add 15 = .ok (.getfield 78, 3) := by decide +kernel
theorem dX3_add_18 : decode cX3_add 18 = .ok (.bipush 8, 2) := by decide +kernel
theorem dX3_add_20 : decode cX3_add 20 = .ok (.if_icmp .ne 7, 3) := by decide +kernel
theorem dX3_add_23 : decode cX3_add 23 = .ok (.iconst 2, 1) := by decide +kernel
theorem dX3_add_24 : decode cX3_add 24 = .ok (.goto 4, 3) := by decide +kernel
theorem dX3_add_27 : decode cX3_add 27 = .ok (.iconst 0, 1) := by decide +kernel
theorem dX3_add_28 : decode cX3_add 28 = .ok (.invokevirtual 86, 3) := by decide +kernel
theorem dX3_add_31 : decode cX3_add 31 = .ok (.ifCond .eq 5, 3) := by decide +kernel
theorem dX3_add_34 : decode cX3_add 34 = .ok (.iconst 0, 1) := by decide +kernel
theorem dX3_add_35 : decode cX3_add 35 = .ok (.ireturn, 1) := by decide +kernel
theorem dX3_add_36 : decode cX3_add 36 = .ok (.aload_n 0, 1) := by decide +kernel
theorem dX3_add_37 : decode cX3_add 37 = .ok (.getfield 19, 3) := by decide +kernel
theorem dX3_add_40 : decode cX3_add 40 = .ok (.aload_n 0, 1) := by decide +kernel
theorem dX3_add_41 : decode cX3_add 41 = .ok (.getfield 78, 3) := by decide +kernel
theorem dX3_add_44 : decode cX3_add 44 = .ok (.iload_n 1, 1) := by decide +kernel
theorem dX3_add_45 : decode cX3_add 45 = .ok (.iastore, 1) := by decide +kernel
theorem dX3_add_46 : decode cX3_add 46 = .ok (.aload_n 0, 1) := by decide +kernel
theorem dX3_add_47 : decode cX3_add 47 = .ok (.aload_n 0, 1) := by decide +kernel
theorem dX3_add_48 : decode cX3_add 48 = .ok (.getfield 78, 3) := by decide +kernel
theorem dX3_add_51 : decode cX3_add 51 = .ok (.invokevirtual 89, 3) := by decide +kernel
theorem dX3_add_54 : decode cX3_add 54 = .ok (.aload_n 0, 1) := by decide +kernel
theorem dX3_add_55 : decode cX3_add 55 = .ok (.dup, 1) := by decide +kernel
theorem dX3_add_56 : decode cX3_add 56 = .ok (.getfield 78, 3) := by decide +kernel
theorem dX3_add_59 : decode cX3_add 59 = .ok (.iconst 1, 1) := by decide +kernel
theorem dX3_add_60 : decode cX3_add 60 = .ok (.iadd, 1) := by decide +kernel
theorem dX3_add_61 : decode cX3_add 61 = .ok (.putfield 78, 3) := by decide +kernel
theorem dX3_add_64 : decode cX3_add 64 = .ok (.aload_n 0, 1) := by decide +kernel
theorem dX3_add_65 : decode cX3_add 65 = .ok (.getfield 78, 3) := by decide +kernel
theorem dX3_add_68 : decode cX3_add 68 = .ok (.iconst 1, 1) := by decide +kernel
theorem dX3_add_69 : decode cX3_add 69 = .ok (.isub, 1) := by decide +kernel
theorem dX3_add_70 : decode cX3_add 70 = .ok (.ireturn, 1) := by decide +kernel
theorem dX3_clear_0 : decode cX3_clear 0 = .ok (.aload_n 0, 1) := by decide +kernel
theorem dX3_clear_1 : decode cX3_clear 1 = .ok (.getfield 46, 3) := by decide +kernel
theorem dX3_clear_4 : decode cX3_clear 4 = .ok (.iload_n 1, 1) := by decide +kernel
theorem dX3_clear_5 : decode cX3_clear 5 = .ok (.iconst (-1), 1) := by decide +kernel
theorem dX3_clear_6 : decode cX3_clear 6 = .ok (.iastore, 1) := by decide +kernel
theorem dX3_clear_7 : decode cX3_clear 7 = .ok (.aload_n 0, 1) := by decide +kernel
theorem dX3_clear_8 : decode cX3_clear 8 = .ok (.getfield 49, 3) := by decide +kernel
theorem dX3_clear_11 : decode cX3_clear 11 = .ok (.iload_n 1, 1) := by decide +kernel
theorem dX3_clear_12 : decode cX3_clear 12 = .ok (.iconst 0, 1) := by decide +kernel
theorem dX3_clear_13 : decode cX3_clear 13 = .ok (.iastore, 1) := by decide +kernel
theorem dX3_clear_14 : decode cX3_clear 14 = .ok (.aload_n 0, 1) := by decide +kernel
theorem dX3_clear_15 : decode cX3_clear 15 = .ok (.getfield 52, 3) := by decide +kernel
theorem dX3_clear_18 : decode cX3_clear 18 = .ok (.iload_n 1, 1) := by decide +kernel
theorem dX3_clear_19 : decode cX3_clear 19 = .ok (.iconst 0, 1) := by decide +kernel
theorem dX3_clear_20 : decode cX3_clear 20 = .ok (.iastore, 1) := by decide +kernel
theorem dX3_clear_21 : decode cX3_clear 21 = .ok (.aload_n 0, 1) := by decide +kernel
theorem dX3_clear_22 : decode cX3_clear 22 = .ok (.getfield 55, 3) := by decide +kernel
theorem dX3_clear_25 : decode cX3_clear 25 = .ok (.iload_n 1, 1) := by decide +kernel
theorem dX3_clear_26 : decode cX3_clear 26 = .ok (.iconst 0, 1) := by decide +kernel
theorem dX3_clear_27 : decode cX3_clear 27 = .ok (.iastore, 1) := by decide +kernel
theorem dX3_clear_28 : decode cX3_clear 28 = .ok (.aload_n 0, 1) := by decide +kernel
theorem dX3_clear_29 : decode cX3_clear 29 = .ok (.getfield 58, 3) := by decide +kernel
theorem dX3_clear_32 : decode cX3_clear 32 = .ok (.iload_n 1, 1) := by decide +kernel
theorem dX3_clear_33 : decode cX3_clear 33 = .ok (.bipush 100, 2) := by decide +kernel
theorem dX3_clear_35 : decode cX3_clear 35 = .ok (.iastore, 1) := by decide +kernel
theorem dX3_clear_36 : decode cX3_clear 36 = .ok (.return_, 1) := by decide +kernel
set_option maxRecDepth 20000 in
theorem ggX3_farmers_X3_fine : GoodIn wsX3_farmers wsX3_fine := goodIn_r _ [6, 7, 8, 9, 10, 11, 12, 13, 14, 15, 16, 17, 18, 19, 20, 21, 22, 23, 24, 25, 26, 27, 28, 29, 30, 31] (by decide +kernel) (by decide +kernel)
set_option maxRecDepth 20000 in
theorem gX3_farmers_X3_fine : GoodIn wsX3_farmers (wsV RX3 93 RX3 yX3_fine wsX3_fine) := goodIn_app (goodIn_of _ (by decide +kernel)) ggX3_farmers_X3_fine
theorem dX3_farmers_0 : decode cX3_farmers 0 = .ok (.aload_n 0, 1) := by decide +kernel
theorem dX3_farmers_1 : decode cX3_farmers 1 = .ok (.aload_n 0, 1) := by decide +kernel
theorem dX3_farmers_2 : decode cX3_farmers 2 = .ok (.getfield 78, 3) := by decide +kernel
theorem dX3_farmers_5 : decode cX3_farmers 5 = .ok (.invokevirtual 93, 3) := by decide +kernel
theorem dX3_farmers_8 : decode cX3_farmers 8 = .ok (.ireturn, 1) := by decide +kernel
theorem dX3_lower_0 : decode cX3_lower 0 = .ok (.aload_n 0, 1) := by decide +kernel
theorem dX3_lower_1 : decode cX3_lower 1 = .ok (.getfield 25, 3) := by decide +kernel
theorem dX3_lower_4 : decode cX3_lower 4 = .ok (.iload_n 1, 1) := by decide +kernel
theorem dX3_lower_5 : decode cX3_lower 5 = .ok (.dup2, 1) := by decide +kernel
theorem dX3_lower_6 : decode cX3_lower 6 = .ok (.iaload, 1) := by decide +kernel
theorem dX3_lower_7 : decode cX3_lower 7 = .ok (.iload_n 2, 1) := by decide +kernel
theorem dX3_lower_8 : decode cX3_lower 8 = .ok (.isub, 1) := by decide +kernel
theorem dX3_lower_9 : decode cX3_lower 9 = .ok (.iastore, 1) := by decide +kernel
theorem dX3_lower_10 : decode cX3_lower 10 = .ok (.aload_n 0, 1) := by decide +kernel
theorem dX3_lower_11 : decode cX3_lower 11 = .ok (.getfield 64, 3) := by decide +kernel
theorem dX3_lower_14 : decode cX3_lower 14 = .ok (.iconst 5, 1) := by decide +kernel
theorem dX3_lower_15 : decode cX3_lower 15 = .ok (.iload_n 1, 1) := by decide +kernel
theorem dX3_lower_16 : decode cX3_lower 16 = .ok (.imul, 1) := by decide +kernel
theorem dX3_lower_17 : decode cX3_lower 17 = .ok (.iload_n 3, 1) := by decide +kernel
theorem dX3_lower_18 : decode cX3_lower 18 = .ok (.iadd, 1) := by decide +kernel
theorem dX3_lower_19 : decode cX3_lower 19 = .ok (.dup2, 1) := by decide +kernel
theorem dX3_lower_20 : decode cX3_lower 20 = .ok (.iaload, 1) := by decide +kernel
theorem dX3_lower_21 : decode cX3_lower 21 = .ok (.iload_n 2, 1) := by decide +kernel
theorem dX3_lower_22 : decode cX3_lower 22 = .ok (.iadd, 1) := by decide +kernel
theorem dX3_lower_23 : decode cX3_lower 23 = .ok (.iastore, 1) := by decide +kernel
theorem dX3_lower_24 : decode cX3_lower 24 = .ok (.return_, 1) := by decide +kernel
set_option maxRecDepth 20000 in
theorem ggX3_come_X3_lower : GoodIn wsX3_come wsX3_lower := goodIn_r _ [7, 1, 8, 9, 10, 11, 12, 13, 14, 15, 16, 17, 18, 19, 20, 21, 22, 23, 24, 25, 26, 27, 28, 29, 30, 31, 32] (by decide +kernel) (by decide +kernel)
set_option maxRecDepth 20000 in
theorem gX3_come_X3_lower : GoodIn wsX3_come (wsV RX3 97 RX3 yX3_lower wsX3_lower) := goodIn_app (goodIn_of _ (by decide +kernel)) ggX3_come_X3_lower
theorem dX3_come_0 : decode cX3_come 0 = .ok (.iload_n 2, 1) := by decide +kernel
theorem dX3_come_1 : decode cX3_come 1 = .ok (.aload_n 0, 1) := by decide +kernel
theorem dX3_come_2 : decode cX3_come 2 = .ok (.getfield 25, 3) := by decide +kernel
theorem dX3_come_5 : decode cX3_come 5 = .ok (.iload_n 1, 1) := by decide +kernel
theorem dX3_come_6 : decode cX3_come 6 = .ok (.iaload, 1) := by decide +kernel
theorem dX3_come_7 : decode cX3_come 7 = .ok (.if_icmp .ge 7, 3) := by decide +kernel
theorem dX3_come_10 : decode cX3_come 10 = .ok (.iload_n 2, 1) := by decide +kernel
theorem dX3_come_11 : decode cX3_come 11 = .ok (.goto 9, 3) := by decide +kernel
theorem dX3_come_14 : decode cX3_come 14 = .ok (.aload_n 0, 1) := by decide +kernel
theorem dX3_come_15 : decode cX3_come 15 = .ok (.getfield 25, 3) := by decide +kernel
theorem dX3_come_18 : decode cX3_come 18 = .ok (.iload_n 1, 1) := by decide +kernel
theorem dX3_come_19 : decode cX3_come 19 = .ok (.iaload, 1) := by decide +kernel
theorem dX3_come_20 : decode cX3_come 20 = .ok (.istore 4, 2) := by decide +kernel
theorem dX3_come_22 : decode cX3_come 22 = .ok (.aload_n 0, 1) := by decide +kernel
theorem dX3_come_23 : decode cX3_come 23 = .ok (.iload_n 1, 1) := by decide +kernel
theorem dX3_come_24 : decode cX3_come 24 = .ok (.iload 4, 2) := by decide +kernel
theorem dX3_come_26 : decode cX3_come 26 = .ok (.iload_n 3, 1) := by decide +kernel
theorem dX3_come_27 : decode cX3_come 27 = .ok (.invokevirtual 97, 3) := by decide +kernel
theorem dX3_come_30 : decode cX3_come 30 = .ok (.aload_n 0, 1) := by decide +kernel
theorem dX3_come_31 : decode cX3_come 31 = .ok (.getfield 22, 3) := by decide +kernel
theorem dX3_come_34 : decode cX3_come 34 = .ok (.iload_n 1, 1) := by decide +kernel
theorem dX3_come_35 : decode cX3_come 35 = .ok (.dup2, 1) := by decide +kernel
theorem dX3_come_36 : decode cX3_come 36 = .ok (.iaload, 1) := by decide +kernel
theorem dX3_come_37 : decode cX3_come 37 = .ok (.iload_n 2, 1) := by decide +kernel
theorem dX3_come_38 : decode cX3_come 38 = .ok (.iload 4, 2) := by decide +kernel
theorem dX3_come_40 : decode cX3_come 40 = .ok (.isub, 1) := by decide +kernel
theorem dX3_come_41 : decode cX3_come 41 = .ok (.iadd, 1) := by decide +kernel
theorem dX3_come_42 : decode cX3_come 42 = .ok (.iastore, 1) := by decide +kernel
theorem dX3_come_43 : decode cX3_come 43 = .ok (.return_, 1) := by decide +kernel
theorem dX3_charge_0 : decode cX3_charge 0 = .ok (.aload_n 0, 1) := by decide +kernel
theorem dX3_charge_1 : decode cX3_charge 1 = .ok (.getfield 25, 3) := by decide +kernel
theorem dX3_charge_4 : decode cX3_charge 4 = .ok (.iload_n 1, 1) := by decide +kernel
theorem dX3_charge_5 : decode cX3_charge 5 = .ok (.dup2, 1) := by decide +kernel
theorem dX3_charge_6 : decode cX3_charge 6 = .ok (.iaload, 1) := by decide +kernel
theorem dX3_charge_7 : decode cX3_charge 7 = .ok (.iload_n 2, 1) := by decide +kernel
theorem dX3_charge_8 : decode cX3_charge 8 = .ok (.iadd, 1) := by decide +kernel
theorem dX3_charge_9 : decode cX3_charge 9 = .ok (.iastore, 1) := by decide +kernel
theorem dX3_charge_10 : decode cX3_charge 10 = .ok (.aload_n 0, 1) := by decide +kernel
theorem dX3_charge_11 : decode cX3_charge 11 = .ok (.getfield 67, 3) := by decide +kernel
theorem dX3_charge_14 : decode cX3_charge 14 = .ok (.iload_n 1, 1) := by decide +kernel
theorem dX3_charge_15 : decode cX3_charge 15 = .ok (.dup2, 1) := by decide +kernel
theorem dX3_charge_16 : decode cX3_charge 16 = .ok (.iaload, 1) := by decide +kernel
theorem dX3_charge_17 : decode cX3_charge 17 = .ok (.iload_n 2, 1) := by decide +kernel
theorem dX3_charge_18 : decode cX3_charge 18 = .ok (.iadd, 1) := by decide +kernel
theorem dX3_charge_19 : decode cX3_charge 19 = .ok (.iastore, 1) := by decide +kernel
theorem dX3_charge_20 : decode cX3_charge 20 = .ok (.return_, 1) := by decide +kernel
theorem dX3_limitOf_0 : decode cX3_limitOf 0 = .ok (.iconst 0, 1) := by decide +kernel
theorem dX3_limitOf_1 : decode cX3_limitOf 1 = .ok (.istore_n 2, 1) := by decide +kernel
theorem dX3_limitOf_2 : decode cX3_limitOf 2 = .ok (.iconst 0, 1) := by decide +kernel
theorem dX3_limitOf_3 : decode cX3_limitOf 3 = .ok (.istore_n 3, 1) := by decide +kernel
theorem dX3_limitOf_4 : decode cX3_limitOf 4 = .ok (.iload_n 3, 1) := by decide +kernel
theorem dX3_limitOf_5 : decode cX3_limitOf 5 = .ok (.aload_n 0, 1) := by decide +kernel
theorem dX3_limitOf_6 : decode cX3_limitOf 6 = .ok (.getfield 101, 3) := by decide +kernel
theorem dX3_limitOf_9 : decode cX3_limitOf 9 = .ok (.if_icmp .gt 42, 3) := by decide +kernel
theorem dX3_limitOf_12 : decode cX3_limitOf 12 = .ok (.iload_n 3, 1) := by decide +kernel
theorem dX3_limitOf_13 : decode cX3_limitOf 13 = .ok (.iconst 4, 1) := by decide +kernel
theorem dX3_limitOf_14 : decode cX3_limitOf 14 = .ok (.if_icmp .ge 37, 3) := by decide +kernel
theorem dX3_limitOf_17 : decode cX3_limitOf 17 = .ok (.aload_n 0, 1) := by decide +kernel
theorem dX3_limitOf_18 : decode cX3_limitOf 18 = .ok (.getfield 46, 3) := by decide +kernel
theorem dX3_limitOf_21 : decode cX3_limitOf 21 = .ok (.iload_n 1, 1) := by decide +kernel
theorem dX3_limitOf_22 : decode cX3_limitOf 22 = .ok (.iaload, 1) := by decide +kernel
theorem dX3_limitOf_23 : decode cX3_limitOf 23 = .ok (.iconst (-1), 1) := by decide +kernel
theorem dX3_limitOf_24 : decode cX3_limitOf 24 = .ok (.if_icmp .eq 27, 3) := by decide +kernel
theorem dX3_limitOf_27 : decode cX3_limitOf 27 = .ok (.iload_n 2, 1) := by decide +kernel
theorem dX3_limitOf_28 : decode cX3_limitOf 28 = .ok (.aload_n 0, 1) := by decide +kernel
theorem dX3_limitOf_29 : decode cX3_limitOf 29 = .ok (.getfield 7, 3) := by decide +kernel
theorem dX3_limitOf_32 : decode cX3_limitOf 32 = .ok (.iconst 4, 1) := by decide +kernel
theorem dX3_limitOf_33 : decode cX3_limitOf 33 = .ok (.aload_n 0, 1) := by decide +kernel
theorem dX3_limitOf_34 : decode cX3_limitOf 34 = .ok (.getfield 46, 3) := by decide +kernel
theorem dX3_limitOf_37 : decode cX3_limitOf 37 = .ok (.iload_n 1, 1) := by decide +kernel
theorem dX3_limitOf_38 : decode cX3_limitOf 38 = .ok (.iaload, 1) := by decide +kernel
theorem dX3_limitOf_39 : decode cX3_limitOf 39 = .ok (.imul, 1) := by decide +kernel
theorem dX3_limitOf_40 : decode cX3_limitOf 40 = .ok (.iload_n 3, 1) := by decide +kernel
theorem dX3_limitOf_41 : decode cX3_limitOf 41 = .ok (.iadd, 1) := by decide +kernel
theorem dX3_limitOf_42 : decode cX3_limitOf 42 = .ok (.iaload, 1) := by decide +kernel
theorem dX3_limitOf_43 : decode cX3_limitOf 43 = .ok (.iadd, 1) := by decide +kernel
theorem dX3_limitOf_44 : decode cX3_limitOf 44 = .ok (.istore_n 2, 1) := by decide +kernel
theorem dX3_limitOf_45 : decode cX3_limitOf 45 = .ok (.iinc 3 1, 3) := by decide +kernel
theorem dX3_limitOf_48 : decode cX3_limitOf 48 = .ok (.goto (-44), 3) := by decide +kernel
theorem dX3_limitOf_51 : decode cX3_limitOf 51 = .ok (.iload_n 2, 1) := by decide +kernel
theorem dX3_limitOf_52 : decode cX3_limitOf 52 = .ok (.aload_n 0, 1) := by decide +kernel
theorem dX3_limitOf_53 : decode cX3_limitOf 53 = .ok (.getfield 49, 3) := by decide +kernel
theorem dX3_limitOf_56 : decode cX3_limitOf 56 = .ok (.iload_n 1, 1) := by decide +kernel
theorem dX3_limitOf_57 : decode cX3_limitOf 57 = .ok (.iaload, 1) := by decide +kernel
theorem dX3_limitOf_58 : decode cX3_limitOf 58 = .ok (.imul, 1) := by decide +kernel
theorem dX3_limitOf_59 : decode cX3_limitOf 59 = .ok (.ireturn, 1) := by decide +kernel
set_option maxRecDepth 20000 in
theorem ggX3_plant_X3_isFarmer : GoodIn wsX3_plant wsX3_isFarmer := goodIn_r _ [10, 11, 12, 13, 9, 14, 28, 29, 30, 31, 32, 33, 34, 35, 36, 37, 38, 39, 40, 41, 42, 43, 44, 45, 46, 47, 48, 49, 50, 51] (by decide +kernel) (by decide +kernel)
set_option maxRecDepth 20000 in
theorem gX3_plant_X3_isFarmer : GoodIn wsX3_plant (wsV RX3 104 RX3 yX3_isFarmer wsX3_isFarmer) := goodIn_app (goodIn_of _ (by decide +kernel)) ggX3_plant_X3_isFarmer
set_option maxRecDepth 20000 in
theorem ggX3_plant_X3_isCrop : GoodIn wsX3_plant wsX3_isCrop := goodIn_r _ [17, 12, 13, 9, 14] (by decide +kernel) (by decide +kernel)
set_option maxRecDepth 20000 in
theorem gX3_plant_X3_isCrop : GoodIn wsX3_plant (va_wsS RX3 81 yX3_isCrop wsX3_isCrop) := goodIn_app (goodIn_of _ (by decide +kernel)) ggX3_plant_X3_isCrop
set_option maxRecDepth 20000 in
theorem ggX3_plant_X3_in : GoodIn wsX3_plant wsX3_in := goodIn_r _ [14] (by decide +kernel) (by decide +kernel)
set_option maxRecDepth 20000 in
theorem gX3_plant_X3_in : GoodIn wsX3_plant (va_wsS RX3 74 yX3_in wsX3_in) := goodIn_app (goodIn_of _ (by decide +kernel)) ggX3_plant_X3_in
set_option maxRecDepth 20000 in
theorem ggX3_plant_X3_refused : GoodIn wsX3_plant wsX3_refused := goodIn_r _ [21, 22, 28, 29, 30, 31, 32, 33, 34, 35, 36, 37, 38, 39, 40, 41, 42, 43, 44, 45, 46, 47, 48, 49, 50, 51] (by decide +kernel) (by decide +kernel)
set_option maxRecDepth 20000 in
theorem gX3_plant_X3_refused : GoodIn wsX3_plant (wsV RX3 86 RX3 yX3_refused wsX3_refused) := goodIn_app (goodIn_of _ (by decide +kernel)) ggX3_plant_X3_refused
set_option maxRecDepth 20000 in
theorem ggX3_plant_X3_limitOf : GoodIn wsX3_plant wsX3_limitOf := goodIn_r _ [26, 1, 2, 27, 5, 28, 29, 30, 31, 32, 33, 34, 35, 36, 37, 38, 39, 40, 41, 42, 43, 44, 45, 46, 47, 48, 49, 50, 51] (by decide +kernel) (by decide +kernel)
set_option maxRecDepth 20000 in
theorem gX3_plant_X3_limitOf : GoodIn wsX3_plant (wsV RX3 107 RX3 yX3_limitOf wsX3_limitOf) := goodIn_app (goodIn_of _ (by decide +kernel)) ggX3_plant_X3_limitOf
theorem dX3_plant_0 : decode cX3_plant 0 = .ok (.aload_n 0, 1) := by decide +kernel
theorem dX3_plant_1 : decode cX3_plant 1 = .ok (.iload_n 1, 1) := by decide +kernel
theorem dX3_plant_2 : decode cX3_plant 2 = .ok (.invokevirtual 104, 3) := by decide +kernel
theorem dX3_plant_5 : decode cX3_plant 5 = .ok (.ifCond .eq 14, 3) := by decide +kernel
theorem dX3_plant_8 : decode cX3_plant 8 = .ok (.iload_n 2, 1) := by decide +kernel
theorem dX3_plant_9 : decode cX3_plant 9 = .ok (.invokestatic 81, 3) := by decide +kernel
theorem dX3_plant_12 : decode cX3_plant 12 = .ok (.ifCond .eq 7, 3) := by decide +kernel
theorem dX3_plant_15 : decode cX3_plant 15 = .ok (.iconst 1, 1) := by decide +kernel
theorem dX3_plant_16 : decode cX3_plant 16 = .ok (.goto 4, 3) := by decide +kernel
theorem dX3_plant_19 : decode cX3_plant 19 = .ok (.iconst 0, 1) := by decide +kernel
theorem dX3_plant_20 : decode cX3_plant 20 = .ok (.istore 4, 2) := by decide +kernel
theorem dX3_plant_22 : decode cX3_plant 22 = .ok (.iload 4, 2) := by decide +kernel
theorem dX3_plant_24 : decode cX3_plant 24 = .ok (.ifCond .eq 43, 3) := by decide +kernel
theorem dX3_plant_27 : decode cX3_plant 27 = .ok (.aload_n 0, 1) := by decide +kernel
theorem dX3_plant_28 : decode cX3_plant 28 = .ok (.getfield 101, 3) := by decide +kernel
theorem dX3_plant_31 : decode cX3_plant 31 = .ok (.ifCond .ne 36, 3) := by decide +kernel
theorem dX3_plant_34 : decode cX3_plant 34 = .ok (.aload_n 0, 1) := by decide +kernel
theorem dX3_plant_35 : decode cX3_plant 35 = .ok (.getfield 46, 3) := by decide +kernel
theorem dX3_plant_38 : decode cX3_plant 38 = .ok (.iload_n 1, 1) := by decide +kernel
theorem dX3_plant_39 : decode cX3_plant 39 = .ok (.iaload, 1) := by decide +kernel
theorem dX3_plant_40 : decode cX3_plant 40 = .ok (.iconst (-1), 1) := by decide +kernel
theorem dX3_plant_41 : decode cX3_plant 41 = .ok (.if_icmp .ne 26, 3) := by decide +kernel
theorem dX3_plant_44 : decode cX3_plant 44 = .ok (.aload_n 0, 1) := by decide +kernel
theorem dX3_plant_45 : decode cX3_plant 45 = .ok (.getfield 31, 3) := by decide +kernel
theorem dX3_plant_48 : decode cX3_plant 48 = .ok (.iload_n 1, 1) := by decide +kernel
theorem dX3_plant_49 : decode cX3_plant 49 = .ok (.iaload, 1) := by decide +kernel
theorem dX3_plant_50 : decode cX3_plant 50 = .ok (.ifCond .eq 13, 3) := by decide +kernel
theorem dX3_plant_53 : decode cX3_plant 53 = .ok (.aload_n 0, 1) := by decide +kernel
theorem dX3_plant_54 : decode cX3_plant 54 = .ok (.getfield 28, 3) := by decide +kernel
theorem dX3_plant_57 : decode cX3_plant 57 = .ok (.iload_n 1, 1) := by decide +kernel
theorem dX3_plant_58 : decode cX3_plant 58 = .ok (.iaload, 1) := by decide +kernel
theorem dX3_plant_59 : decode cX3_plant 59 = .ok (.iload_n 2, 1) := by decide +kernel
theorem dX3_plant_60 : decode cX3_plant 60 = .ok (.if_icmp .ne 7, 3) := by decide +kernel
theorem dX3_plant_63 : decode cX3_plant 63 = .ok (.iconst 1, 1) := by decide +kernel
theorem dX3_plant_64 : decode cX3_plant 64 = .ok (.goto 4, 3) := by decide +kernel
theorem dX3_plant_67 : decode cX3_plant 67 = .ok (.iconst 0, 1) := by decide +kernel
theorem dX3_plant_68 : decode cX3_plant 68 = .ok (.istore 5, 2) := by decide +kernel
theorem dX3_plant_70 : decode cX3_plant 70 = .ok (.aload_n 0, 1) := by decide +kernel
theorem dX3_plant_71 : decode cX3_plant 71 = .ok (.iload 4, 2) := by decide +kernel
theorem dX3_plant_73 : decode cX3_plant 73 = .ok (.ifCond .ne 7, 3) := by decide +kernel
theorem dX3_plant_76 : decode cX3_plant 76 = .ok (.iconst 1, 1) := by decide +kernel
theorem dX3_plant_77 : decode cX3_plant 77 = .ok (.goto 27, 3) := by decide +kernel
theorem dX3_plant_80 : decode cX3_plant 80 = .ok (.iload_n 3, 1) := by decide +kernel
theorem dX3_plant_81 : decode cX3_plant 81 = .ok (.iconst 1, 1) := by decide +kernel
theorem dX3_plant_82 : decode cX3_plant 82 = .ok (.bipush 50, 2) := by decide +kernel
theorem dX3_plant_84 : decode cX3_plant 84 = .ok (.invokestatic 74, 3) := by decide +kernel
theorem dX3_plant_87 : decode cX3_plant 87 = .ok (.ifCond .ne 7, 3) := by decide +kernel
theorem dX3_plant_90 : decode cX3_plant 90 = .ok (.iconst 2, 1) := by decide +kernel
theorem dX3_plant_91 : decode cX3_plant 91 = .ok (.goto 13, 3) := by decide +kernel
theorem dX3_plant_94 : decode cX3_plant 94 = .ok (.iload 5, 2) := by decide +kernel
theorem dX3_plant_96 : decode cX3_plant 96 = .ok (.ifCond .eq 7, 3) := by decide +kernel
theorem dX3_plant_99 : decode cX3_plant 99 = .ok (.iconst 0, 1) := by decide +kernel
theorem dX3_plant_100 : decode cX3_plant 100 = .ok (.goto 4, 3) := by decide +kernel
theorem dX3_plant_103 : decode cX3_plant 103 = .ok (.iconst 3, 1) := by decide +kernel
theorem dX3_plant_104 : decode cX3_plant 104 = .ok (.invokevirtual 86, 3) := by decide +kernel
theorem dX3_plant_107 : decode cX3_plant 107 = .ok (.ifCond .eq 5, 3) := by decide +kernel
theorem dX3_plant_110 : decode cX3_plant 110 = .ok (.iconst 0, 1) := by decide +kernel
theorem dX3_plant_111 : decode cX3_plant 111 = .ok (.ireturn, 1) := by decide +kernel
theorem dX3_plant_112 : decode cX3_plant 112 = .ok (.aload_n 0, 1) := by decide +kernel
theorem dX3_plant_113 : decode cX3_plant 113 = .ok (.getfield 46, 3) := by decide +kernel
theorem dX3_plant_116 : decode cX3_plant 116 = .ok (.iload_n 1, 1) := by decide +kernel
theorem dX3_plant_117 : decode cX3_plant 117 = .ok (.iload_n 2, 1) := by decide +kernel
theorem dX3_plant_118 : decode cX3_plant 118 = .ok (.iastore, 1) := by decide +kernel
theorem dX3_plant_119 : decode cX3_plant 119 = .ok (.aload_n 0, 1) := by decide +kernel
theorem dX3_plant_120 : decode cX3_plant 120 = .ok (.getfield 49, 3) := by decide +kernel
theorem dX3_plant_123 : decode cX3_plant 123 = .ok (.iload_n 1, 1) := by decide +kernel
theorem dX3_plant_124 : decode cX3_plant 124 = .ok (.iload_n 3, 1) := by decide +kernel
theorem dX3_plant_125 : decode cX3_plant 125 = .ok (.iastore, 1) := by decide +kernel
theorem dX3_plant_126 : decode cX3_plant 126 = .ok (.aload_n 0, 1) := by decide +kernel
theorem dX3_plant_127 : decode cX3_plant 127 = .ok (.iload_n 1, 1) := by decide +kernel
theorem dX3_plant_128 : decode cX3_plant 128 = .ok (.invokevirtual 107, 3) := by decide +kernel
theorem dX3_plant_131 : decode cX3_plant 131 = .ok (.ireturn, 1) := by decide +kernel
set_option maxRecDepth 20000 in
theorem ggX3_cover_X3_isFarmer : GoodIn wsX3_cover wsX3_isFarmer := goodIn_r _ [8, 9, 10, 11, 7, 12, 18, 19, 20, 21, 22, 23, 24, 25, 26, 27, 28, 29, 30, 31, 32, 33, 34, 35, 36, 37, 38, 39, 40, 41] (by decide +kernel) (by decide +kernel)
set_option maxRecDepth 20000 in
theorem gX3_cover_X3_isFarmer : GoodIn wsX3_cover (wsV RX3 104 RX3 yX3_isFarmer wsX3_isFarmer) := goodIn_app (goodIn_of _ (by decide +kernel)) ggX3_cover_X3_isFarmer
set_option maxRecDepth 20000 in
theorem ggX3_cover_X3_in : GoodIn wsX3_cover wsX3_in := goodIn_r _ [12] (by decide +kernel) (by decide +kernel)
set_option maxRecDepth 20000 in
theorem gX3_cover_X3_in : GoodIn wsX3_cover (va_wsS RX3 74 yX3_in wsX3_in) := goodIn_app (goodIn_of _ (by decide +kernel)) ggX3_cover_X3_in
set_option maxRecDepth 20000 in
theorem ggX3_cover_X3_refused : GoodIn wsX3_cover wsX3_refused := goodIn_r _ [16, 17, 18, 19, 20, 21, 22, 23, 24, 25, 26, 27, 28, 29, 30, 31, 32, 33, 34, 35, 36, 37, 38, 39, 40, 41] (by decide +kernel) (by decide +kernel)
set_option maxRecDepth 20000 in
theorem gX3_cover_X3_refused : GoodIn wsX3_cover (wsV RX3 86 RX3 yX3_refused wsX3_refused) := goodIn_app (goodIn_of _ (by decide +kernel)) ggX3_cover_X3_refused
theorem dX3_cover_0 : decode cX3_cover 0 = .ok (.aload_n 0, 1) := by decide +kernel
theorem dX3_cover_1 : decode cX3_cover 1 = .ok (.iload_n 1, 1) := by decide +kernel
theorem dX3_cover_2 : decode cX3_cover 2 = .ok (.invokevirtual 104, 3) := by decide +kernel
theorem dX3_cover_5 : decode cX3_cover 5 = .ok (.ifCond .eq 24, 3) := by decide +kernel
theorem dX3_cover_8 : decode cX3_cover 8 = .ok (.aload_n 0, 1) := by decide +kernel
theorem dX3_cover_9 : decode cX3_cover 9 = .ok (.getfield 101, 3) := by decide +kernel
theorem dX3_cover_12 : decode cX3_cover 12 = .ok (.ifCond .ne 17, 3) := by decide +kernel
theorem dX3_cover_15 : decode cX3_cover 15 = .ok (.aload_n 0, 1) := by decide +kernel
theorem dX3_cover_16 : decode cX3_cover 16 = .ok (.getfield 46, 3) := by decide +kernel
theorem dX3_cover_19 : decode cX3_cover 19 = .ok (.iload_n 1, 1) := by decide +kernel
theorem dX3_cover_20 : decode cX3_cover 20 = .ok (.iaload, 1) := by decide +kernel
theorem dX3_cover_21 : decode cX3_cover 21 = .ok (.iconst (-1), 1) := by decide +kernel
theorem dX3_cover_22 : decode cX3_cover 22 = .ok (.if_icmp .eq 7, 3) := by decide +kernel
theorem dX3_cover_25 : decode cX3_cover 25 = .ok (.iconst 1, 1) := by decide +kernel
theorem dX3_cover_26 : decode cX3_cover 26 = .ok (.goto 4, 3) := by decide +kernel
theorem dX3_cover_29 : decode cX3_cover 29 = .ok (.iconst 0, 1) := by decide +kernel
theorem dX3_cover_30 : decode cX3_cover 30 = .ok (.istore_n 3, 1) := by decide +kernel
theorem dX3_cover_31 : decode cX3_cover 31 = .ok (.aload_n 0, 1) := by decide +kernel
theorem dX3_cover_32 : decode cX3_cover 32 = .ok (.aload_n 0, 1) := by decide +kernel
theorem dX3_cover_33 : decode cX3_cover 33 = .ok (.iload_n 1, 1) := by decide +kernel
theorem dX3_cover_34 : decode cX3_cover 34 = .ok (.invokevirtual 104, 3) := by decide +kernel
theorem dX3_cover_37 : decode cX3_cover 37 = .ok (.ifCond .ne 7, 3) := by decide +kernel
theorem dX3_cover_40 : decode cX3_cover 40 = .ok (.iconst 1, 1) := by decide +kernel
theorem dX3_cover_41 : decode cX3_cover 41 = .ok (.goto 26, 3) := by decide +kernel
theorem dX3_cover_44 : decode cX3_cover 44 = .ok (.iload_n 2, 1) := by decide +kernel
theorem dX3_cover_45 : decode cX3_cover 45 = .ok (.iconst 1, 1) := by decide +kernel
theorem dX3_cover_46 : decode cX3_cover 46 = .ok (.bipush 90, 2) := by decide +kernel
theorem dX3_cover_48 : decode cX3_cover 48 = .ok (.invokestatic 74, 3) := by decide +kernel
theorem dX3_cover_51 : decode cX3_cover 51 = .ok (.ifCond .ne 7, 3) := by decide +kernel
theorem dX3_cover_54 : decode cX3_cover 54 = .ok (.iconst 2, 1) := by decide +kernel
theorem dX3_cover_55 : decode cX3_cover 55 = .ok (.goto 12, 3) := by decide +kernel
theorem dX3_cover_58 : decode cX3_cover 58 = .ok (.iload_n 3, 1) := by decide +kernel
theorem dX3_cover_59 : decode cX3_cover 59 = .ok (.ifCond .eq 7, 3) := by decide +kernel
theorem dX3_cover_62 : decode cX3_cover 62 = .ok (.iconst 0, 1) := by decide +kernel
theorem dX3_cover_63 : decode cX3_cover 63 = .ok (.goto 4, 3) := by decide +kernel
theorem dX3_cover_66 : decode cX3_cover 66 = .ok (.iconst 3, 1) := by decide +kernel
theorem dX3_cover_67 : decode cX3_cover 67 = .ok (.invokevirtual 86, 3) := by decide +kernel
theorem dX3_cover_70 : decode cX3_cover 70 = .ok (.ifCond .eq 5, 3) := by decide +kernel
theorem dX3_cover_73 : decode cX3_cover 73 = .ok (.iconst 0, 1) := by decide +kernel
theorem dX3_cover_74 : decode cX3_cover 74 = .ok (.ireturn, 1) := by decide +kernel
theorem dX3_cover_75 : decode cX3_cover 75 = .ok (.aload_n 0, 1) := by decide +kernel
theorem dX3_cover_76 : decode cX3_cover 76 = .ok (.getfield 55, 3) := by decide +kernel
theorem dX3_cover_79 : decode cX3_cover 79 = .ok (.iload_n 1, 1) := by decide +kernel
theorem dX3_cover_80 : decode cX3_cover 80 = .ok (.iaload, 1) := by decide +kernel
theorem dX3_cover_81 : decode cX3_cover 81 = .ok (.istore 4, 2) := by decide +kernel
theorem dX3_cover_83 : decode cX3_cover 83 = .ok (.aload_n 0, 1) := by decide +kernel
theorem dX3_cover_84 : decode cX3_cover 84 = .ok (.getfield 55, 3) := by decide +kernel
theorem dX3_cover_87 : decode cX3_cover 87 = .ok (.iload_n 1, 1) := by decide +kernel
theorem dX3_cover_88 : decode cX3_cover 88 = .ok (.iload_n 2, 1) := by decide +kernel
theorem dX3_cover_89 : decode cX3_cover 89 = .ok (.iastore, 1) := by decide +kernel
theorem dX3_cover_90 : decode cX3_cover 90 = .ok (.iload 4, 2) := by decide +kernel
theorem dX3_cover_92 : decode cX3_cover 92 = .ok (.ireturn, 1) := by decide +kernel
set_option maxRecDepth 20000 in
theorem ggX3_draw_X3_isFarmer : GoodIn wsX3_draw wsX3_isFarmer := goodIn_r _ [8, 9, 10, 11, 7, 12, 31, 32, 33, 34, 35, 36, 37, 38, 39, 40, 41, 42, 43, 44, 45, 46, 47, 48, 49, 50, 51, 52, 53, 54] (by decide +kernel) (by decide +kernel)
set_option maxRecDepth 20000 in
theorem gX3_draw_X3_isFarmer : GoodIn wsX3_draw (wsV RX3 104 RX3 yX3_isFarmer wsX3_isFarmer) := goodIn_app (goodIn_of _ (by decide +kernel)) ggX3_draw_X3_isFarmer
set_option maxRecDepth 20000 in
theorem ggX3_draw_X3_in : GoodIn wsX3_draw wsX3_in := goodIn_r _ [12] (by decide +kernel) (by decide +kernel)
set_option maxRecDepth 20000 in
theorem gX3_draw_X3_in : GoodIn wsX3_draw (va_wsS RX3 74 yX3_in wsX3_in) := goodIn_app (goodIn_of _ (by decide +kernel)) ggX3_draw_X3_in
set_option maxRecDepth 20000 in
theorem ggX3_draw_X3_limitOf : GoodIn wsX3_draw wsX3_limitOf := goodIn_r _ [16, 2, 17, 18, 19, 31, 32, 33, 34, 35, 36, 37, 38, 39, 40, 41, 42, 43, 44, 45, 46, 47, 48, 49, 50, 51, 52, 53, 54] (by decide +kernel) (by decide +kernel)
set_option maxRecDepth 20000 in
theorem gX3_draw_X3_limitOf : GoodIn wsX3_draw (wsV RX3 107 RX3 yX3_limitOf wsX3_limitOf) := goodIn_app (goodIn_of _ (by decide +kernel)) ggX3_draw_X3_limitOf
set_option maxRecDepth 20000 in
theorem ggX3_draw_X3_refused : GoodIn wsX3_draw wsX3_refused := goodIn_r _ [23, 24, 31, 32, 33, 34, 35, 36, 37, 38, 39, 40, 41, 42, 43, 44, 45, 46, 47, 48, 49, 50, 51, 52, 53, 54] (by decide +kernel) (by decide +kernel)
set_option maxRecDepth 20000 in
theorem gX3_draw_X3_refused : GoodIn wsX3_draw (wsV RX3 86 RX3 yX3_refused wsX3_refused) := goodIn_app (goodIn_of _ (by decide +kernel)) ggX3_draw_X3_refused
set_option maxRecDepth 20000 in
theorem ggX3_draw_X3_charge : GoodIn wsX3_draw wsX3_charge := goodIn_r _ [28, 29, 30, 31, 32, 33, 34, 35, 36, 37, 38, 39, 40, 41, 42, 43, 44, 45, 46, 47, 48, 49, 50, 51, 52, 53, 54] (by decide +kernel) (by decide +kernel)
set_option maxRecDepth 20000 in
theorem gX3_draw_X3_charge : GoodIn wsX3_draw (wsV RX3 111 RX3 yX3_charge wsX3_charge) := goodIn_app (goodIn_of _ (by decide +kernel)) ggX3_draw_X3_charge
theorem dX3_draw_0 : decode cX3_draw 0 = .ok (.aload_n 0, 1) := by decide +kernel
theorem dX3_draw_1 : decode cX3_draw 1 = .ok (.iload_n 1, 1) := by decide +kernel
theorem dX3_draw_2 : decode cX3_draw 2 = .ok (.invokevirtual 104, 3) := by decide +kernel
theorem dX3_draw_5 : decode cX3_draw 5 = .ok (.ifCond .eq 17, 3) := by decide +kernel
theorem dX3_draw_8 : decode cX3_draw 8 = .ok (.iload_n 2, 1) := by decide +kernel
theorem dX3_draw_9 : decode cX3_draw 9 = .ok (.iconst 1, 1) := by decide +kernel
theorem dX3_draw_10 : decode cX3_draw 10 = .ok (.ldc 110, 2) := by decide +kernel
theorem dX3_draw_12 : decode cX3_draw 12 = .ok (.invokestatic 74, 3) := by decide +kernel
theorem dX3_draw_15 : decode cX3_draw 15 = .ok (.ifCond .eq 7, 3) := by decide +kernel
theorem dX3_draw_18 : decode cX3_draw 18 = .ok (.iconst 1, 1) := by decide +kernel
theorem dX3_draw_19 : decode cX3_draw 19 = .ok (.goto 4, 3) := by decide +kernel
theorem dX3_draw_22 : decode cX3_draw 22 = .ok (.iconst 0, 1) := by decide +kernel
theorem dX3_draw_23 : decode cX3_draw 23 = .ok (.istore_n 3, 1) := by decide +kernel
theorem dX3_draw_24 : decode cX3_draw 24 = .ok (.iload_n 3, 1) := by decide +kernel
theorem dX3_draw_25 : decode cX3_draw 25 = .ok (.ifCond .eq 31, 3) := by decide +kernel
theorem dX3_draw_28 : decode cX3_draw 28 = .ok (.aload_n 0, 1) := by decide +kernel
theorem dX3_draw_29 : decode cX3_draw 29 = .ok (.getfield 101, 3) := by decide +kernel
theorem dX3_draw_32 : decode cX3_draw 32 = .ok (.iconst 4, 1) := by decide +kernel
theorem dX3_draw_33 : decode cX3_draw 33 = .ok (.if_icmp .ge 23, 3) := by decide +kernel
theorem dX3_draw_36 : decode cX3_draw 36 = .ok (.aload_n 0, 1) := by decide +kernel
theorem dX3_draw_37 : decode cX3_draw 37 = .ok (.getfield 52, 3) := by decide +kernel
theorem dX3_draw_40 : decode cX3_draw 40 = .ok (.iload_n 1, 1) := by decide +kernel
theorem dX3_draw_41 : decode cX3_draw 41 = .ok (.iaload, 1) := by decide +kernel
theorem dX3_draw_42 : decode cX3_draw 42 = .ok (.iload_n 2, 1) := by decide +kernel
theorem dX3_draw_43 : decode cX3_draw 43 = .ok (.iadd, 1) := by decide +kernel
theorem dX3_draw_44 : decode cX3_draw 44 = .ok (.aload_n 0, 1) := by decide +kernel
theorem dX3_draw_45 : decode cX3_draw 45 = .ok (.iload_n 1, 1) := by decide +kernel
theorem dX3_draw_46 : decode cX3_draw 46 = .ok (.invokevirtual 107, 3) := by decide +kernel
theorem dX3_draw_49 : decode cX3_draw 49 = .ok (.if_icmp .gt 7, 3) := by decide +kernel
theorem dX3_draw_52 : decode cX3_draw 52 = .ok (.iconst 1, 1) := by decide +kernel
theorem dX3_draw_53 : decode cX3_draw 53 = .ok (.goto 4, 3) := by decide +kernel
theorem dX3_draw_56 : decode cX3_draw 56 = .ok (.iconst 0, 1) := by decide +kernel
theorem dX3_draw_57 : decode cX3_draw 57 = .ok (.istore 4, 2) := by decide +kernel
theorem dX3_draw_59 : decode cX3_draw 59 = .ok (.aload_n 0, 1) := by decide +kernel
theorem dX3_draw_60 : decode cX3_draw 60 = .ok (.aload_n 0, 1) := by decide +kernel
theorem dX3_draw_61 : decode cX3_draw 61 = .ok (.iload_n 1, 1) := by decide +kernel
theorem dX3_draw_62 : decode cX3_draw 62 = .ok (.invokevirtual 104, 3) := by decide +kernel
theorem dX3_draw_65 : decode cX3_draw 65 = .ok (.ifCond .ne 7, 3) := by decide +kernel
theorem dX3_draw_68 : decode cX3_draw 68 = .ok (.iconst 1, 1) := by decide +kernel
theorem dX3_draw_69 : decode cX3_draw 69 = .ok (.goto 21, 3) := by decide +kernel
theorem dX3_draw_72 : decode cX3_draw 72 = .ok (.iload_n 3, 1) := by decide +kernel
theorem dX3_draw_73 : decode cX3_draw 73 = .ok (.ifCond .ne 7, 3) := by decide +kernel
theorem dX3_draw_76 : decode cX3_draw 76 = .ok (.iconst 2, 1) := by decide +kernel
theorem dX3_draw_77 : decode cX3_draw 77 = .ok (.goto 13, 3) := by decide +kernel
theorem dX3_draw_80 : decode cX3_draw 80 = .ok (.iload 4, 2) := by decide +kernel
theorem dX3_draw_82 : decode cX3_draw 82 = .ok (.ifCond .eq 7, 3) := by decide +kernel
theorem dX3_draw_85 : decode cX3_draw 85 = .ok (.iconst 0, 1) := by decide +kernel
theorem dX3_draw_86 : decode cX3_draw 86 = .ok (.goto 4, 3) := by decide +kernel
theorem dX3_draw_89 : decode cX3_draw 89 = .ok (.iconst 3, 1) := by decide +kernel
theorem dX3_draw_90 : decode cX3_draw 90 = .ok (.invokevirtual 86, 3) := by decide +kernel
theorem dX3_draw_93 : decode cX3_draw 93 = .ok (.ifCond .eq 5, 3) := by decide +kernel
theorem dX3_draw_96 : decode cX3_draw 96 = .ok (.iconst 0, 1) := by decide +kernel
theorem dX3_draw_97 : decode cX3_draw 97 = .ok (.ireturn, 1) := by decide +kernel
theorem dX3_draw_98 : decode cX3_draw 98 = .ok (.aload_n 0, 1) := by decide +kernel
theorem dX3_draw_99 : decode cX3_draw 99 = .ok (.getfield 52, 3) := by decide +kernel
theorem dX3_draw_102 : decode cX3_draw 102 = .ok (.iload_n 1, 1) := by decide +kernel
theorem dX3_draw_103 : decode cX3_draw 103 = .ok (.dup2, 1) := by decide +kernel
theorem dX3_draw_104 : decode cX3_draw 104 = .ok (.iaload, 1) := by decide +kernel
theorem dX3_draw_105 : decode cX3_draw 105 = .ok (.iload_n 2, 1) := by decide +kernel
theorem dX3_draw_106 : decode cX3_draw 106 = .ok (.iadd, 1) := by decide +kernel
theorem dX3_draw_107 : decode cX3_draw 107 = .ok (.iastore, 1) := by decide +kernel
theorem dX3_draw_108 : decode cX3_draw 108 = .ok (.aload_n 0, 1) := by decide +kernel
theorem dX3_draw_109 : decode cX3_draw 109 = .ok (.iload_n 1, 1) := by decide +kernel
theorem dX3_draw_110 : decode cX3_draw 110 = .ok (.iload_n 2, 1) := by decide +kernel
theorem dX3_draw_111 : decode cX3_draw 111 = .ok (.invokevirtual 111, 3) := by decide +kernel
theorem dX3_draw_114 : decode cX3_draw 114 = .ok (.aload_n 0, 1) := by decide +kernel
theorem dX3_draw_115 : decode cX3_draw 115 = .ok (.iload_n 1, 1) := by decide +kernel
theorem dX3_draw_116 : decode cX3_draw 116 = .ok (.invokevirtual 107, 3) := by decide +kernel
theorem dX3_draw_119 : decode cX3_draw 119 = .ok (.aload_n 0, 1) := by decide +kernel
theorem dX3_draw_120 : decode cX3_draw 120 = .ok (.getfield 52, 3) := by decide +kernel
theorem dX3_draw_123 : decode cX3_draw 123 = .ok (.iload_n 1, 1) := by decide +kernel
theorem dX3_draw_124 : decode cX3_draw 124 = .ok (.iaload, 1) := by decide +kernel
theorem dX3_draw_125 : decode cX3_draw 125 = .ok (.isub, 1) := by decide +kernel
theorem dX3_draw_126 : decode cX3_draw 126 = .ok (.ireturn, 1) := by decide +kernel
set_option maxRecDepth 20000 in
theorem ggX3_setYield_X3_isFarmer : GoodIn wsX3_setYield wsX3_isFarmer := goodIn_r _ [7, 8, 9, 10, 6, 11, 17, 18, 19, 20, 21, 22, 23, 24, 25, 26, 27, 28, 29, 30, 31, 32, 33, 34, 35, 36, 37, 38, 39, 40] (by decide +kernel) (by decide +kernel)
set_option maxRecDepth 20000 in
theorem gX3_setYield_X3_isFarmer : GoodIn wsX3_setYield (wsV RX3 104 RX3 yX3_isFarmer wsX3_isFarmer) := goodIn_app (goodIn_of _ (by decide +kernel)) ggX3_setYield_X3_isFarmer
set_option maxRecDepth 20000 in
theorem ggX3_setYield_X3_in : GoodIn wsX3_setYield wsX3_in := goodIn_r _ [11] (by decide +kernel) (by decide +kernel)
set_option maxRecDepth 20000 in
theorem gX3_setYield_X3_in : GoodIn wsX3_setYield (va_wsS RX3 74 yX3_in wsX3_in) := goodIn_app (goodIn_of _ (by decide +kernel)) ggX3_setYield_X3_in
set_option maxRecDepth 20000 in
theorem ggX3_setYield_X3_refused : GoodIn wsX3_setYield wsX3_refused := goodIn_r _ [15, 16, 17, 18, 19, 20, 21, 22, 23, 24, 25, 26, 27, 28, 29, 30, 31, 32, 33, 34, 35, 36, 37, 38, 39, 40] (by decide +kernel) (by decide +kernel)
set_option maxRecDepth 20000 in
theorem gX3_setYield_X3_refused : GoodIn wsX3_setYield (wsV RX3 86 RX3 yX3_refused wsX3_refused) := goodIn_app (goodIn_of _ (by decide +kernel)) ggX3_setYield_X3_refused
theorem dX3_setYield_0 : decode cX3_setYield 0 = .ok (.aload_n 0, 1) := by decide +kernel
theorem dX3_setYield_1 : decode cX3_setYield 1 = .ok (.aload_n 0, 1) := by decide +kernel
theorem dX3_setYield_2 : decode cX3_setYield 2 = .ok (.iload_n 1, 1) := by decide +kernel
theorem dX3_setYield_3 : decode cX3_setYield 3 = .ok (.invokevirtual 104, 3) := by decide +kernel
theorem dX3_setYield_6 : decode cX3_setYield 6 = .ok (.ifCond .ne 7, 3) := by decide +kernel
theorem dX3_setYield_9 : decode cX3_setYield 9 = .ok (.iconst 1, 1) := by decide +kernel
theorem dX3_setYield_10 : decode cX3_setYield 10 = .ok (.goto 31, 3) := by decide +kernel
theorem dX3_setYield_13 : decode cX3_setYield 13 = .ok (.iload_n 2, 1) := by decide +kernel
theorem dX3_setYield_14 : decode cX3_setYield 14 = .ok (.iconst 0, 1) := by decide +kernel
theorem dX3_setYield_15 : decode cX3_setYield 15 = .ok (.sipush 200, 3) := by decide +kernel
theorem dX3_setYield_18 : decode cX3_setYield 18 = .ok (.invokestatic 74, 3) := by decide +kernel
theorem dX3_setYield_21 : decode cX3_setYield 21 = .ok (.ifCond .ne 7, 3) := by decide +kernel
theorem dX3_setYield_24 : decode cX3_setYield 24 = .ok (.iconst 2, 1) := by decide +kernel
theorem dX3_setYield_25 : decode cX3_setYield 25 = .ok (.goto 16, 3) := by decide +kernel
theorem dX3_setYield_28 : decode cX3_setYield 28 = .ok (.aload_n 0, 1) := by decide +kernel
theorem dX3_setYield_29 : decode cX3_setYield 29 = .ok (.getfield 101, 3) := by decide +kernel
theorem dX3_setYield_32 : decode cX3_setYield 32 = .ok (.iconst 4, 1) := by decide +kernel
theorem dX3_setYield_33 : decode cX3_setYield 33 = .ok (.if_icmp .ne 7, 3) := by decide +kernel
theorem dX3_setYield_36 : decode cX3_setYield 36 = .ok (.iconst 3, 1) := by decide +kernel
theorem dX3_setYield_37 : decode cX3_setYield 37 = .ok (.goto 4, 3) := by decide +kernel
theorem dX3_setYield_40 : decode cX3_setYield 40 = .ok (.iconst 0, 1) := by decide +kernel
theorem dX3_setYield_41 : decode cX3_setYield 41 = .ok (.invokevirtual 86, 3) := by decide +kernel
theorem dX3_setYield_44 : decode cX3_setYield 44 = .ok (.ifCond .eq 5, 3) := by decide +kernel
theorem dX3_setYield_47 : decode cX3_setYield 47 = .ok (.iconst 0, 1) := by decide +kernel
theorem dX3_setYield_48 : decode cX3_setYield 48 = .ok (.ireturn, 1) := by decide +kernel
theorem dX3_setYield_49 : decode cX3_setYield 49 = .ok (.aload_n 0, 1) := by decide +kernel
theorem dX3_setYield_50 : decode cX3_setYield 50 = .ok (.getfield 58, 3) := by decide +kernel
theorem dX3_setYield_53 : decode cX3_setYield 53 = .ok (.iload_n 1, 1) := by decide +kernel
theorem dX3_setYield_54 : decode cX3_setYield 54 = .ok (.iaload, 1) := by decide +kernel
theorem dX3_setYield_55 : decode cX3_setYield 55 = .ok (.istore_n 3, 1) := by decide +kernel
theorem dX3_setYield_56 : decode cX3_setYield 56 = .ok (.aload_n 0, 1) := by decide +kernel
theorem dX3_setYield_57 : decode cX3_setYield 57 = .ok (.getfield 58, 3) := by decide +kernel
theorem dX3_setYield_60 : decode cX3_setYield 60 = .ok (.iload_n 1, 1) := by decide +kernel
theorem dX3_setYield_61 : decode cX3_setYield 61 = .ok (.iload_n 2, 1) := by decide +kernel
theorem dX3_setYield_62 : decode cX3_setYield 62 = .ok (.iastore, 1) := by decide +kernel
theorem dX3_setYield_63 : decode cX3_setYield 63 = .ok (.iload_n 3, 1) := by decide +kernel
theorem dX3_setYield_64 : decode cX3_setYield 64 = .ok (.ireturn, 1) := by decide +kernel
set_option maxRecDepth 20000 in
theorem ggX3_harvest_X3_come : GoodIn wsX3_harvest wsX3_come := goodIn_r _ [14, 15, 16, 17, 18, 19, 13, 20, 21, 22, 23, 24, 25, 26, 27, 28, 29, 30, 31, 32, 33, 34, 35, 36, 37, 38, 39, 40, 41, 42, 43, 44, 45] (by decide +kernel) (by decide +kernel)
set_option maxRecDepth 20000 in
theorem gX3_harvest_X3_come : GoodIn wsX3_harvest (wsV RX3 117 RX3 yX3_come wsX3_come) := goodIn_app (goodIn_of _ (by decide +kernel)) ggX3_harvest_X3_come
theorem dX3_harvest_0 : decode cX3_harvest 0 = .ok (.aload_n 0, 1) := by decide +kernel
theorem dX3_harvest_1 : decode cX3_harvest 1 = .ok (.getfield 46, 3) := by decide +kernel
theorem dX3_harvest_4 : decode cX3_harvest 4 = .ok (.iload_n 1, 1) := by decide +kernel
theorem dX3_harvest_5 : decode cX3_harvest 5 = .ok (.iaload, 1) := by decide +kernel
theorem dX3_harvest_6 : decode cX3_harvest 6 = .ok (.istore_n 2, 1) := by decide +kernel
theorem dX3_harvest_7 : decode cX3_harvest 7 = .ok (.aload_n 0, 1) := by decide +kernel
theorem dX3_harvest_8 : decode cX3_harvest 8 = .ok (.getfield 49, 3) := by decide +kernel
theorem dX3_harvest_11 : decode cX3_harvest 11 = .ok (.iload_n 1, 1) := by decide +kernel
theorem dX3_harvest_12 : decode cX3_harvest 12 = .ok (.iaload, 1) := by decide +kernel
theorem dX3_harvest_13 : decode cX3_harvest 13 = .ok (.aload_n 0, 1) := by decide +kernel
theorem dX3_harvest_14 : decode cX3_harvest 14 = .ok (.getfield 16, 3) := by decide +kernel
theorem dX3_harvest_17 : decode cX3_harvest 17 = .ok (.iload_n 2, 1) := by decide +kernel
theorem dX3_harvest_18 : decode cX3_harvest 18 = .ok (.iaload, 1) := by decide +kernel
theorem dX3_harvest_19 : decode cX3_harvest 19 = .ok (.imul, 1) := by decide +kernel
theorem dX3_harvest_20 : decode cX3_harvest 20 = .ok (.istore_n 3, 1) := by decide +kernel
theorem dX3_harvest_21 : decode cX3_harvest 21 = .ok (.aload_n 0, 1) := by decide +kernel
theorem dX3_harvest_22 : decode cX3_harvest 22 = .ok (.getfield 31, 3) := by decide +kernel
theorem dX3_harvest_25 : decode cX3_harvest 25 = .ok (.iload_n 1, 1) := by decide +kernel
theorem dX3_harvest_26 : decode cX3_harvest 26 = .ok (.dup2, 1) := by decide +kernel
theorem dX3_harvest_27 : decode cX3_harvest 27 = .ok (.iaload, 1) := by decide +kernel
theorem dX3_harvest_28 : decode cX3_harvest 28 = .ok (.iload_n 3, 1) := by decide +kernel
theorem dX3_harvest_29 : decode cX3_harvest 29 = .ok (.aload_n 0, 1) := by decide +kernel
theorem dX3_harvest_30 : decode cX3_harvest 30 = .ok (.getfield 58, 3) := by decide +kernel
theorem dX3_harvest_33 : decode cX3_harvest 33 = .ok (.iload_n 1, 1) := by decide +kernel
theorem dX3_harvest_34 : decode cX3_harvest 34 = .ok (.iaload, 1) := by decide +kernel
theorem dX3_harvest_35 : decode cX3_harvest 35 = .ok (.imul, 1) := by decide +kernel
theorem dX3_harvest_36 : decode cX3_harvest 36 = .ok (.bipush 100, 2) := by decide +kernel
theorem dX3_harvest_38 : decode cX3_harvest 38 = .ok (.idiv, 1) := by decide +kernel
theorem dX3_harvest_39 : decode cX3_harvest 39 = .ok (.iadd, 1) := by decide +kernel
theorem dX3_harvest_40 : decode cX3_harvest 40 = .ok (.iastore, 1) := by decide +kernel
theorem dX3_harvest_41 : decode cX3_harvest 41 = .ok (.aload_n 0, 1) := by decide +kernel
theorem dX3_harvest_42 : decode cX3_harvest 42 = .ok (.getfield 28, 3) := by decide +kernel
theorem dX3_harvest_45 : decode cX3_harvest 45 = .ok (.iload_n 1, 1) := by decide +kernel
theorem dX3_harvest_46 : decode cX3_harvest 46 = .ok (.iload_n 2, 1) := by decide +kernel
theorem dX3_harvest_47 : decode cX3_harvest 47 = .ok (.iastore, 1) := by decide +kernel
theorem dX3_harvest_48 : decode cX3_harvest 48 = .ok (.aload_n 0, 1) := by decide +kernel
theorem dX3_harvest_49 : decode cX3_harvest 49 = .ok (.getfield 58, 3) := by decide +kernel
theorem dX3_harvest_52 : decode cX3_harvest 52 = .ok (.iload_n 1, 1) := by decide +kernel
theorem dX3_harvest_53 : decode cX3_harvest 53 = .ok (.iaload, 1) := by decide +kernel
theorem dX3_harvest_54 : decode cX3_harvest 54 = .ok (.aload_n 0, 1) := by decide +kernel
theorem dX3_harvest_55 : decode cX3_harvest 55 = .ok (.getfield 55, 3) := by decide +kernel
theorem dX3_harvest_58 : decode cX3_harvest 58 = .ok (.iload_n 1, 1) := by decide +kernel
theorem dX3_harvest_59 : decode cX3_harvest 59 = .ok (.iaload, 1) := by decide +kernel
theorem dX3_harvest_60 : decode cX3_harvest 60 = .ok (.if_icmp .ge 39, 3) := by decide +kernel
theorem dX3_harvest_63 : decode cX3_harvest 63 = .ok (.aload_n 0, 1) := by decide +kernel
theorem dX3_harvest_64 : decode cX3_harvest 64 = .ok (.iload_n 1, 1) := by decide +kernel
theorem dX3_harvest_65 : decode cX3_harvest 65 = .ok (.iload_n 3, 1) := by decide +kernel
theorem dX3_harvest_66 : decode cX3_harvest 66 = .ok (.i2l, 1) := by decide +kernel
theorem dX3_harvest_67 : decode cX3_harvest 67 = .ok (.aload_n 0, 1) := by decide +kernel
theorem dX3_harvest_68 : decode cX3_harvest 68 = .ok (.getfield 13, 3) := by decide +kernel
theorem dX3_harvest_71 : decode cX3_harvest 71 = .ok (.iload_n 2, 1) := by decide +kernel
theorem dX3_harvest_72 : decode cX3_harvest 72 = .ok (.iaload, 1) := by decide +kernel
theorem dX3_harvest_73 : decode cX3_harvest 73 = .ok (.i2l, 1) := by decide +kernel
theorem dX3_harvest_74 : decode cX3_harvest 74 = .ok (.lmul, 1) := by decide +kernel
theorem dX3_harvest_75 : decode cX3_harvest 75 = .ok (.aload_n 0, 1) := by decide +kernel
theorem dX3_harvest_76 : decode cX3_harvest 76 = .ok (.getfield 55, 3) := by decide +kernel
theorem dX3_harvest_79 : decode cX3_harvest 79 = .ok (.iload_n 1, 1) := by decide +kernel
theorem dX3_harvest_80 : decode cX3_harvest 80 = .ok (.iaload, 1) := by decide +kernel
theorem dX3_harvest_81 : decode cX3_harvest 81 = .ok (.aload_n 0, 1) := by decide +kernel
theorem dX3_harvest_82 : decode cX3_harvest 82 = .ok (.getfield 58, 3) := by decide +kernel
theorem dX3_harvest_85 : decode cX3_harvest 85 = .ok (.iload_n 1, 1) := by decide +kernel
theorem dX3_harvest_86 : decode cX3_harvest 86 = .ok (.iaload, 1) := by decide +kernel
theorem dX3_harvest_87 : decode cX3_harvest 87 = .ok (.isub, 1) := by decide +kernel
theorem dX3_harvest_88 : decode cX3_harvest 88 = .ok (.i2l, 1) := by decide +kernel
theorem dX3_harvest_89 : decode cX3_harvest 89 = .ok (.lmul, 1) := by decide +kernel
theorem dX3_harvest_90 : decode cX3_harvest 90 = .ok (.ldc2_w 115, 3) := by decide +kernel
theorem dX3_harvest_93 : decode cX3_harvest 93 = .ok (.ldiv, 1) := by decide +kernel
theorem dX3_harvest_94 : decode cX3_harvest 94 = .ok (.l2i, 1) := by decide +kernel
theorem dX3_harvest_95 : decode cX3_harvest 95 = .ok (.iconst 1, 1) := by decide +kernel
theorem dX3_harvest_96 : decode cX3_harvest 96 = .ok (.invokevirtual 117, 3) := by decide +kernel
theorem dX3_harvest_99 : decode cX3_harvest 99 = .ok (.return_, 1) := by decide +kernel
set_option maxRecDepth 20000 in
theorem ggX3_next_X3_refused : GoodIn wsX3_next wsX3_refused := goodIn_r _ [11, 12, 39, 40, 41, 42, 43, 44, 45, 46, 47, 48, 49, 50, 51, 52, 53, 54, 55, 56, 57, 58, 59, 60, 61, 62] (by decide +kernel) (by decide +kernel)
set_option maxRecDepth 20000 in
theorem gX3_next_X3_refused : GoodIn wsX3_next (wsV RX3 86 RX3 yX3_refused wsX3_refused) := goodIn_app (goodIn_of _ (by decide +kernel)) ggX3_next_X3_refused
set_option maxRecDepth 20000 in
theorem ggX3_next_X3_charge : GoodIn wsX3_next wsX3_charge := goodIn_r _ [16, 3, 17, 39, 40, 41, 42, 43, 44, 45, 46, 47, 48, 49, 50, 51, 52, 53, 54, 55, 56, 57, 58, 59, 60, 61, 62] (by decide +kernel) (by decide +kernel)
set_option maxRecDepth 20000 in
theorem gX3_next_X3_charge : GoodIn wsX3_next (wsV RX3 111 RX3 yX3_charge wsX3_charge) := goodIn_app (goodIn_of _ (by decide +kernel)) ggX3_next_X3_charge
set_option maxRecDepth 20000 in
theorem ggX3_next_X3_harvest : GoodIn wsX3_next wsX3_harvest := goodIn_r _ [21, 6, 22, 23, 24, 25, 26, 27, 28, 5, 29, 30, 31, 10, 32, 3, 33, 34, 35, 36, 37, 38, 39, 40, 41, 42, 43, 44, 45, 46, 47, 48, 49, 50, 51, 52, 53, 54, 55, 56, 57, 58, 59, 60, 61, 62] (by decide +kernel) (by decide +kernel)
set_option maxRecDepth 20000 in
theorem gX3_next_X3_harvest : GoodIn wsX3_next (wsV RX3 122 RX3 yX3_harvest wsX3_harvest) := goodIn_app (goodIn_of _ (by decide +kernel)) ggX3_next_X3_harvest
theorem dX3_next_0 : decode cX3_next 0 = .ok (.aload_n 0, 1) := by decide +kernel
theorem dX3_next_1 : decode cX3_next 1 = .ok (.aload_n 0, 1) := by decide +kernel
theorem dX3_next_2 : decode cX3_next 2 = .ok (.getfield 101, 3) := by decide +kernel
theorem dX3_next_5 : decode cX3_next 5 = .ok (.iconst 4, 1) := by decide +kernel
theorem dX3_next_6 : decode cX3_next 6 = .ok (.if_icmp .ne 7, 3) := by decide +kernel
theorem dX3_next_9 : decode cX3_next 9 = .ok (.iconst 1, 1) := by decide +kernel
theorem dX3_next_10 : decode cX3_next 10 = .ok (.goto 4, 3) := by decide +kernel
theorem dX3_next_13 : decode cX3_next 13 = .ok (.iconst 0, 1) := by decide +kernel
theorem dX3_next_14 : decode cX3_next 14 = .ok (.invokevirtual 86, 3) := by decide +kernel
theorem dX3_next_17 : decode cX3_next 17 = .ok (.ifCond .eq 5, 3) := by decide +kernel
theorem dX3_next_20 : decode cX3_next 20 = .ok (.iconst 0, 1) := by decide +kernel
theorem dX3_next_21 : decode cX3_next 21 = .ok (.ireturn, 1) := by decide +kernel
theorem dX3_next_22 : decode cX3_next 22 = .ok (.aload_n 0, 1) := by decide +kernel
theorem dX3_next_23 : decode cX3_next 23 = .ok (.dup, 1) := by decide +kernel
theorem dX3_next_24 : decode cX3_next 24 = .ok (.getfield 101, 3) := by decide +kernel
theorem dX3_next_27 : decode cX3_next 27 = .ok (.iconst 1, 1) := by decide +kernel
theorem dX3_next_28 : decode cX3_next 28 = .ok (.iadd, 1) := by decide +kernel
theorem dX3_next_29 : decode cX3_next 29 = .ok (.putfield 101, 3) := by decide +kernel
theorem dX3_next_32 : decode cX3_next 32 = .ok (.iconst 0, 1) := by decide +kernel
theorem dX3_next_33 : decode cX3_next 33 = .ok (.istore_n 1, 1) := by decide +kernel
theorem dX3_next_34 : decode cX3_next 34 = .ok (.iload_n 1, 1) := by decide +kernel
theorem dX3_next_35 : decode cX3_next 35 = .ok (.aload_n 0, 1) := by decide +kernel
theorem dX3_next_36 : decode cX3_next 36 = .ok (.getfield 78, 3) := by decide +kernel
theorem dX3_next_39 : decode cX3_next 39 = .ok (.if_icmp .ge 30, 3) := by decide +kernel
theorem dX3_next_42 : decode cX3_next 42 = .ok (.aload_n 0, 1) := by decide +kernel
theorem dX3_next_43 : decode cX3_next 43 = .ok (.iload_n 1, 1) := by decide +kernel
theorem dX3_next_44 : decode cX3_next 44 = .ok (.aload_n 0, 1) := by decide +kernel
theorem dX3_next_45 : decode cX3_next 45 = .ok (.getfield 25, 3) := by decide +kernel
theorem dX3_next_48 : decode cX3_next 48 = .ok (.iload_n 1, 1) := by decide +kernel
theorem dX3_next_49 : decode cX3_next 49 = .ok (.iaload, 1) := by decide +kernel
theorem dX3_next_50 : decode cX3_next 50 = .ok (.i2l, 1) := by decide +kernel
theorem dX3_next_51 : decode cX3_next 51 = .ok (.ldc2_w 120, 3) := by decide +kernel
theorem dX3_next_54 : decode cX3_next 54 = .ok (.lmul, 1) := by decide +kernel
theorem dX3_next_55 : decode cX3_next 55 = .ok (.ldc2_w 115, 3) := by decide +kernel
theorem dX3_next_58 : decode cX3_next 58 = .ok (.ldiv, 1) := by decide +kernel
theorem dX3_next_59 : decode cX3_next 59 = .ok (.l2i, 1) := by decide +kernel
theorem dX3_next_60 : decode cX3_next 60 = .ok (.invokevirtual 111, 3) := by decide +kernel
theorem dX3_next_63 : decode cX3_next 63 = .ok (.iinc 1 1, 3) := by decide +kernel
theorem dX3_next_66 : decode cX3_next 66 = .ok (.goto (-32), 3) := by decide +kernel
theorem dX3_next_69 : decode cX3_next 69 = .ok (.iconst 0, 1) := by decide +kernel
theorem dX3_next_70 : decode cX3_next 70 = .ok (.istore_n 1, 1) := by decide +kernel
theorem dX3_next_71 : decode cX3_next 71 = .ok (.iload_n 1, 1) := by decide +kernel
theorem dX3_next_72 : decode cX3_next 72 = .ok (.aload_n 0, 1) := by decide +kernel
theorem dX3_next_73 : decode cX3_next 73 = .ok (.getfield 78, 3) := by decide +kernel
theorem dX3_next_76 : decode cX3_next 76 = .ok (.if_icmp .ge 32, 3) := by decide +kernel
theorem dX3_next_79 : decode cX3_next 79 = .ok (.aload_n 0, 1) := by decide +kernel
theorem dX3_next_80 : decode cX3_next 80 = .ok (.getfield 101, 3) := by decide +kernel
theorem dX3_next_83 : decode cX3_next 83 = .ok (.iconst 4, 1) := by decide +kernel
theorem dX3_next_84 : decode cX3_next 84 = .ok (.if_icmp .ne 24, 3) := by decide +kernel
theorem dX3_next_87 : decode cX3_next 87 = .ok (.aload_n 0, 1) := by decide +kernel
theorem dX3_next_88 : decode cX3_next 88 = .ok (.getfield 46, 3) := by decide +kernel
theorem dX3_next_91 : decode cX3_next 91 = .ok (.iload_n 1, 1) := by decide +kernel
theorem dX3_next_92 : decode cX3_next 92 = .ok (.iaload, 1) := by decide +kernel
theorem dX3_next_93 : decode cX3_next 93 = .ok (.iconst (-1), 1) := by decide +kernel
theorem dX3_next_94 : decode cX3_next 94 = .ok (.if_icmp .eq 8, 3) := by decide +kernel
theorem dX3_next_97 : decode cX3_next 97 = .ok (.aload_n 0, 1) := by decide +kernel
theorem dX3_next_98 : decode cX3_next 98 = .ok (.iload_n 1, 1) := by decide +kernel
theorem dX3_next_99 : decode cX3_next 99 = .ok (.invokevirtual 122, 3) := by decide +kernel
theorem dX3_next_102 : decode cX3_next 102 = .ok (.iinc 1 1, 3) := by decide +kernel
theorem dX3_next_105 : decode cX3_next 105 = .ok (.goto (-34), 3) := by decide +kernel
theorem dX3_next_108 : decode cX3_next 108 = .ok (.aload_n 0, 1) := by decide +kernel
theorem dX3_next_109 : decode cX3_next 109 = .ok (.getfield 101, 3) := by decide +kernel
theorem dX3_next_112 : decode cX3_next 112 = .ok (.ireturn, 1) := by decide +kernel
set_option maxRecDepth 20000 in
theorem ggX3_pledge_X3_isFarmer : GoodIn wsX3_pledge wsX3_isFarmer := goodIn_r _ [13, 14, 15, 16, 12, 17, 34, 35, 36, 37, 38, 39, 40, 41, 42, 43, 44, 45, 46, 47, 48, 49, 50, 51, 52, 53, 54, 55, 56, 57] (by decide +kernel) (by decide +kernel)
set_option maxRecDepth 20000 in
theorem gX3_pledge_X3_isFarmer : GoodIn wsX3_pledge (wsV RX3 104 RX3 yX3_isFarmer wsX3_isFarmer) := goodIn_app (goodIn_of _ (by decide +kernel)) ggX3_pledge_X3_isFarmer
set_option maxRecDepth 20000 in
theorem ggX3_pledge_X3_in : GoodIn wsX3_pledge wsX3_in := goodIn_r _ [17] (by decide +kernel) (by decide +kernel)
set_option maxRecDepth 20000 in
theorem gX3_pledge_X3_in : GoodIn wsX3_pledge (va_wsS RX3 74 yX3_in wsX3_in) := goodIn_app (goodIn_of _ (by decide +kernel)) ggX3_pledge_X3_in
set_option maxRecDepth 20000 in
theorem ggX3_pledge_X3_refused : GoodIn wsX3_pledge wsX3_refused := goodIn_r _ [21, 22, 34, 35, 36, 37, 38, 39, 40, 41, 42, 43, 44, 45, 46, 47, 48, 49, 50, 51, 52, 53, 54, 55, 56, 57] (by decide +kernel) (by decide +kernel)
set_option maxRecDepth 20000 in
theorem gX3_pledge_X3_refused : GoodIn wsX3_pledge (wsV RX3 86 RX3 yX3_refused wsX3_refused) := goodIn_app (goodIn_of _ (by decide +kernel)) ggX3_pledge_X3_refused
set_option maxRecDepth 20000 in
theorem ggX3_pledge_X3_come : GoodIn wsX3_pledge wsX3_come := goodIn_r _ [26, 27, 28, 29, 30, 31, 12, 32, 33, 34, 35, 36, 37, 38, 39, 40, 41, 42, 43, 44, 45, 46, 47, 48, 49, 50, 51, 52, 53, 54, 55, 56, 57] (by decide +kernel) (by decide +kernel)
set_option maxRecDepth 20000 in
theorem gX3_pledge_X3_come : GoodIn wsX3_pledge (wsV RX3 117 RX3 yX3_come wsX3_come) := goodIn_app (goodIn_of _ (by decide +kernel)) ggX3_pledge_X3_come
theorem dX3_pledge_0 : decode cX3_pledge 0 = .ok (.aload_n 0, 1) := by decide +kernel
theorem dX3_pledge_1 : decode cX3_pledge 1 = .ok (.iload_n 1, 1) := by decide +kernel
theorem dX3_pledge_2 : decode cX3_pledge 2 = .ok (.invokevirtual 104, 3) := by decide +kernel
theorem dX3_pledge_5 : decode cX3_pledge 5 = .ok (.ifCond .eq 17, 3) := by decide +kernel
theorem dX3_pledge_8 : decode cX3_pledge 8 = .ok (.iload_n 2, 1) := by decide +kernel
theorem dX3_pledge_9 : decode cX3_pledge 9 = .ok (.iconst 1, 1) := by decide +kernel
theorem dX3_pledge_10 : decode cX3_pledge 10 = .ok (.ldc 125, 2) := by decide +kernel
theorem dX3_pledge_12 : decode cX3_pledge 12 = .ok (.invokestatic 74, 3) := by decide +kernel
theorem dX3_pledge_15 : decode cX3_pledge 15 = .ok (.ifCond .eq 7, 3) := by decide +kernel
theorem dX3_pledge_18 : decode cX3_pledge 18 = .ok (.iconst 1, 1) := by decide +kernel
theorem dX3_pledge_19 : decode cX3_pledge 19 = .ok (.goto 4, 3) := by decide +kernel
theorem dX3_pledge_22 : decode cX3_pledge 22 = .ok (.iconst 0, 1) := by decide +kernel
theorem dX3_pledge_23 : decode cX3_pledge 23 = .ok (.istore_n 3, 1) := by decide +kernel
theorem dX3_pledge_24 : decode cX3_pledge 24 = .ok (.iload_n 3, 1) := by decide +kernel
theorem dX3_pledge_25 : decode cX3_pledge 25 = .ok (.ifCond .eq 24, 3) := by decide +kernel
theorem dX3_pledge_28 : decode cX3_pledge 28 = .ok (.aload_n 0, 1) := by decide +kernel
theorem dX3_pledge_29 : decode cX3_pledge 29 = .ok (.getfield 31, 3) := by decide +kernel
theorem dX3_pledge_32 : decode cX3_pledge 32 = .ok (.iload_n 1, 1) := by decide +kernel
theorem dX3_pledge_33 : decode cX3_pledge 33 = .ok (.iaload, 1) := by decide +kernel
theorem dX3_pledge_34 : decode cX3_pledge 34 = .ok (.aload_n 0, 1) := by decide +kernel
theorem dX3_pledge_35 : decode cX3_pledge 35 = .ok (.getfield 34, 3) := by decide +kernel
theorem dX3_pledge_38 : decode cX3_pledge 38 = .ok (.iload_n 1, 1) := by decide +kernel
theorem dX3_pledge_39 : decode cX3_pledge 39 = .ok (.iaload, 1) := by decide +kernel
theorem dX3_pledge_40 : decode cX3_pledge 40 = .ok (.isub, 1) := by decide +kernel
theorem dX3_pledge_41 : decode cX3_pledge 41 = .ok (.iload_n 2, 1) := by decide +kernel
theorem dX3_pledge_42 : decode cX3_pledge 42 = .ok (.if_icmp .lt 7, 3) := by decide +kernel
theorem dX3_pledge_45 : decode cX3_pledge 45 = .ok (.iconst 1, 1) := by decide +kernel
theorem dX3_pledge_46 : decode cX3_pledge 46 = .ok (.goto 4, 3) := by decide +kernel
theorem dX3_pledge_49 : decode cX3_pledge 49 = .ok (.iconst 0, 1) := by decide +kernel
theorem dX3_pledge_50 : decode cX3_pledge 50 = .ok (.istore 4, 2) := by decide +kernel
theorem dX3_pledge_52 : decode cX3_pledge 52 = .ok (.aload_n 0, 1) := by decide +kernel
theorem dX3_pledge_53 : decode cX3_pledge 53 = .ok (.aload_n 0, 1) := by decide +kernel
theorem dX3_pledge_54 : decode cX3_pledge 54 = .ok (.iload_n 1, 1) := by decide +kernel
theorem dX3_pledge_55 : decode cX3_pledge 55 = .ok (.invokevirtual 104, 3) := by decide +kernel
theorem dX3_pledge_58 : decode cX3_pledge 58 = .ok (.ifCond .ne 7, 3) := by decide +kernel
theorem dX3_pledge_61 : decode cX3_pledge 61 = .ok (.iconst 1, 1) := by decide +kernel
theorem dX3_pledge_62 : decode cX3_pledge 62 = .ok (.goto 21, 3) := by decide +kernel
theorem dX3_pledge_65 : decode cX3_pledge 65 = .ok (.iload_n 3, 1) := by decide +kernel
theorem dX3_pledge_66 : decode cX3_pledge 66 = .ok (.ifCond .ne 7, 3) := by decide +kernel
theorem dX3_pledge_69 : decode cX3_pledge 69 = .ok (.iconst 2, 1) := by decide +kernel
theorem dX3_pledge_70 : decode cX3_pledge 70 = .ok (.goto 13, 3) := by decide +kernel
theorem dX3_pledge_73 : decode cX3_pledge 73 = .ok (.iload 4, 2) := by decide +kernel
theorem dX3_pledge_75 : decode cX3_pledge 75 = .ok (.ifCond .eq 7, 3) := by decide +kernel
theorem dX3_pledge_78 : decode cX3_pledge 78 = .ok (.iconst 0, 1) := by decide +kernel
theorem dX3_pledge_79 : decode cX3_pledge 79 = .ok (.goto 4, 3) := by decide +kernel
theorem dX3_pledge_82 : decode cX3_pledge 82 = .ok (.iconst 3, 1) := by decide +kernel
theorem dX3_pledge_83 : decode cX3_pledge 83 = .ok (.invokevirtual 86, 3) := by decide +kernel
theorem dX3_pledge_86 : decode cX3_pledge 86 = .ok (.ifCond .eq 5, 3) := by decide +kernel
theorem dX3_pledge_89 : decode cX3_pledge 89 = .ok (.iconst 0, 1) := by decide +kernel
theorem dX3_pledge_90 : decode cX3_pledge 90 = .ok (.ireturn, 1) := by decide +kernel
theorem dX3_pledge_91 : decode cX3_pledge 91 = .ok (.iload_n 2, 1) := by decide +kernel
theorem dX3_pledge_92 : decode cX3_pledge 92 = .ok (.i2l, 1) := by decide +kernel
theorem dX3_pledge_93 : decode cX3_pledge 93 = .ok (.aload_n 0, 1) := by decide +kernel
theorem dX3_pledge_94 : decode cX3_pledge 94 = .ok (.getfield 13, 3) := by decide +kernel
theorem dX3_pledge_97 : decode cX3_pledge 97 = .ok (.aload_n 0, 1) := by decide +kernel
theorem dX3_pledge_98 : decode cX3_pledge 98 = .ok (.getfield 28, 3) := by decide +kernel
theorem dX3_pledge_101 : decode cX3_pledge 101 = .ok (.iload_n 1, 1) := by decide +kernel
theorem dX3_pledge_102 : decode cX3_pledge 102 = .ok (.iaload, 1) := by decide +kernel
theorem dX3_pledge_103 : decode cX3_pledge 103 = .ok (.iaload, 1) := by decide +kernel
theorem dX3_pledge_104 : decode cX3_pledge 104 = .ok (.i2l, 1) := by decide +kernel
theorem dX3_pledge_105 : decode cX3_pledge 105 = .ok (.lmul, 1) := by decide +kernel
theorem dX3_pledge_106 : decode cX3_pledge 106 = .ok (.ldc2_w 126, 3) := by decide +kernel
theorem dX3_pledge_109 : decode cX3_pledge 109 = .ok (.lmul, 1) := by decide +kernel
theorem dX3_pledge_110 : decode cX3_pledge 110 = .ok (.ldc2_w 115, 3) := by decide +kernel
theorem dX3_pledge_113 : decode cX3_pledge 113 = .ok (.ldiv, 1) := by decide +kernel
theorem dX3_pledge_114 : decode cX3_pledge 114 = .ok (.l2i, 1) := by decide +kernel
theorem dX3_pledge_115 : decode cX3_pledge 115 = .ok (.istore 5, 2) := by decide +kernel
theorem dX3_pledge_117 : decode cX3_pledge 117 = .ok (.aload_n 0, 1) := by decide +kernel
theorem dX3_pledge_118 : decode cX3_pledge 118 = .ok (.getfield 34, 3) := by decide +kernel
theorem dX3_pledge_121 : decode cX3_pledge 121 = .ok (.iload_n 1, 1) := by decide +kernel
theorem dX3_pledge_122 : decode cX3_pledge 122 = .ok (.dup2, 1) := by decide +kernel
theorem dX3_pledge_123 : decode cX3_pledge 123 = .ok (.iaload, 1) := by decide +kernel
theorem dX3_pledge_124 : decode cX3_pledge 124 = .ok (.iload_n 2, 1) := by decide +kernel
theorem dX3_pledge_125 : decode cX3_pledge 125 = .ok (.iadd, 1) := by decide +kernel
theorem dX3_pledge_126 : decode cX3_pledge 126 = .ok (.iastore, 1) := by decide +kernel
theorem dX3_pledge_127 : decode cX3_pledge 127 = .ok (.aload_n 0, 1) := by decide +kernel
theorem dX3_pledge_128 : decode cX3_pledge 128 = .ok (.getfield 37, 3) := by decide +kernel
theorem dX3_pledge_131 : decode cX3_pledge 131 = .ok (.iload_n 1, 1) := by decide +kernel
theorem dX3_pledge_132 : decode cX3_pledge 132 = .ok (.dup2, 1) := by decide +kernel
theorem dX3_pledge_133 : decode cX3_pledge 133 = .ok (.iaload, 1) := by decide +kernel
theorem dX3_pledge_134 : decode cX3_pledge 134 = .ok (.iload 5, 2) := by decide +kernel
theorem dX3_pledge_136 : decode cX3_pledge 136 = .ok (.iadd, 1) := by decide +kernel
theorem dX3_pledge_137 : decode cX3_pledge 137 = .ok (.iastore, 1) := by decide +kernel
theorem dX3_pledge_138 : decode cX3_pledge 138 = .ok (.aload_n 0, 1) := by decide +kernel
theorem dX3_pledge_139 : decode cX3_pledge 139 = .ok (.iload_n 1, 1) := by decide +kernel
theorem dX3_pledge_140 : decode cX3_pledge 140 = .ok (.iload 5, 2) := by decide +kernel
theorem dX3_pledge_142 : decode cX3_pledge 142 = .ok (.iconst 2, 1) := by decide +kernel
theorem dX3_pledge_143 : decode cX3_pledge 143 = .ok (.invokevirtual 117, 3) := by decide +kernel
theorem dX3_pledge_146 : decode cX3_pledge 146 = .ok (.iload 5, 2) := by decide +kernel
theorem dX3_pledge_148 : decode cX3_pledge 148 = .ok (.ireturn, 1) := by decide +kernel
set_option maxRecDepth 20000 in
theorem ggX3_sell_X3_isFarmer : GoodIn wsX3_sell wsX3_isFarmer := goodIn_r _ [11, 12, 13, 14, 10, 15, 37, 38, 39, 40, 41, 42, 43, 44, 45, 46, 47, 48, 49, 50, 51, 52, 53, 54, 55, 56, 57, 58, 59, 60] (by decide +kernel) (by decide +kernel)
set_option maxRecDepth 20000 in
theorem gX3_sell_X3_isFarmer : GoodIn wsX3_sell (wsV RX3 104 RX3 yX3_isFarmer wsX3_isFarmer) := goodIn_app (goodIn_of _ (by decide +kernel)) ggX3_sell_X3_isFarmer
set_option maxRecDepth 20000 in
theorem ggX3_sell_X3_in : GoodIn wsX3_sell wsX3_in := goodIn_r _ [15] (by decide +kernel) (by decide +kernel)
set_option maxRecDepth 20000 in
theorem gX3_sell_X3_in : GoodIn wsX3_sell (va_wsS RX3 74 yX3_in wsX3_in) := goodIn_app (goodIn_of _ (by decide +kernel)) ggX3_sell_X3_in
set_option maxRecDepth 20000 in
theorem ggX3_sell_X3_refused : GoodIn wsX3_sell wsX3_refused := goodIn_r _ [19, 20, 37, 38, 39, 40, 41, 42, 43, 44, 45, 46, 47, 48, 49, 50, 51, 52, 53, 54, 55, 56, 57, 58, 59, 60] (by decide +kernel) (by decide +kernel)
set_option maxRecDepth 20000 in
theorem gX3_sell_X3_refused : GoodIn wsX3_sell (wsV RX3 86 RX3 yX3_refused wsX3_refused) := goodIn_app (goodIn_of _ (by decide +kernel)) ggX3_sell_X3_refused
set_option maxRecDepth 20000 in
theorem ggX3_sell_X3_come : GoodIn wsX3_sell wsX3_come := goodIn_r _ [24, 25, 26, 27, 28, 29, 10, 30, 31, 37, 38, 39, 40, 41, 42, 43, 44, 45, 46, 47, 48, 49, 50, 51, 52, 53, 54, 55, 56, 57, 58, 59, 60] (by decide +kernel) (by decide +kernel)
set_option maxRecDepth 20000 in
theorem gX3_sell_X3_come : GoodIn wsX3_sell (wsV RX3 117 RX3 yX3_come wsX3_come) := goodIn_app (goodIn_of _ (by decide +kernel)) ggX3_sell_X3_come
set_option maxRecDepth 20000 in
theorem ggX3_sell_X3_charge : GoodIn wsX3_sell wsX3_charge := goodIn_r _ [35, 25, 36, 37, 38, 39, 40, 41, 42, 43, 44, 45, 46, 47, 48, 49, 50, 51, 52, 53, 54, 55, 56, 57, 58, 59, 60] (by decide +kernel) (by decide +kernel)
set_option maxRecDepth 20000 in
theorem gX3_sell_X3_charge : GoodIn wsX3_sell (wsV RX3 111 RX3 yX3_charge wsX3_charge) := goodIn_app (goodIn_of _ (by decide +kernel)) ggX3_sell_X3_charge
theorem dX3_sell_0 : decode cX3_sell 0 = .ok (.aload_n 0, 1) := by decide +kernel
theorem dX3_sell_1 : decode cX3_sell 1 = .ok (.iload_n 1, 1) := by decide +kernel
theorem dX3_sell_2 : decode cX3_sell 2 = .ok (.invokevirtual 104, 3) := by decide +kernel
theorem dX3_sell_5 : decode cX3_sell 5 = .ok (.ifCond .eq 17, 3) := by decide +kernel
theorem dX3_sell_8 : decode cX3_sell 8 = .ok (.iload_n 2, 1) := by decide +kernel
theorem dX3_sell_9 : decode cX3_sell 9 = .ok (.iconst 1, 1) := by decide +kernel
theorem dX3_sell_10 : decode cX3_sell 10 = .ok (.ldc 125, 2) := by decide +kernel
theorem dX3_sell_12 : decode cX3_sell 12 = .ok (.invokestatic 74, 3) := by decide +kernel
theorem dX3_sell_15 : decode cX3_sell 15 = .ok (.ifCond .eq 7, 3) := by decide +kernel
theorem dX3_sell_18 : decode cX3_sell 18 = .ok (.iconst 1, 1) := by decide +kernel
theorem dX3_sell_19 : decode cX3_sell 19 = .ok (.goto 4, 3) := by decide +kernel
theorem dX3_sell_22 : decode cX3_sell 22 = .ok (.iconst 0, 1) := by decide +kernel
theorem dX3_sell_23 : decode cX3_sell 23 = .ok (.istore_n 3, 1) := by decide +kernel
theorem dX3_sell_24 : decode cX3_sell 24 = .ok (.aload_n 0, 1) := by decide +kernel
theorem dX3_sell_25 : decode cX3_sell 25 = .ok (.aload_n 0, 1) := by decide +kernel
theorem dX3_sell_26 : decode cX3_sell 26 = .ok (.iload_n 1, 1) := by decide +kernel
theorem dX3_sell_27 : decode cX3_sell 27 = .ok (.invokevirtual 104, 3) := by decide +kernel
theorem dX3_sell_30 : decode cX3_sell 30 = .ok (.ifCond .ne 7, 3) := by decide +kernel
theorem dX3_sell_33 : decode cX3_sell 33 = .ok (.iconst 1, 1) := by decide +kernel
theorem dX3_sell_34 : decode cX3_sell 34 = .ok (.goto 26, 3) := by decide +kernel
theorem dX3_sell_37 : decode cX3_sell 37 = .ok (.iload_n 3, 1) := by decide +kernel
theorem dX3_sell_38 : decode cX3_sell 38 = .ok (.ifCond .ne 7, 3) := by decide +kernel
theorem dX3_sell_41 : decode cX3_sell 41 = .ok (.iconst 2, 1) := by decide +kernel
theorem dX3_sell_42 : decode cX3_sell 42 = .ok (.goto 18, 3) := by decide +kernel
theorem dX3_sell_45 : decode cX3_sell 45 = .ok (.aload_n 0, 1) := by decide +kernel
theorem dX3_sell_46 : decode cX3_sell 46 = .ok (.getfield 31, 3) := by decide +kernel
theorem dX3_sell_49 : decode cX3_sell 49 = .ok (.iload_n 1, 1) := by decide +kernel
theorem dX3_sell_50 : decode cX3_sell 50 = .ok (.iaload, 1) := by decide +kernel
theorem dX3_sell_51 : decode cX3_sell 51 = .ok (.iload_n 2, 1) := by decide +kernel
theorem dX3_sell_52 : decode cX3_sell 52 = .ok (.if_icmp .ge 7, 3) := by decide +kernel
theorem dX3_sell_55 : decode cX3_sell 55 = .ok (.iconst 3, 1) := by decide +kernel
theorem dX3_sell_56 : decode cX3_sell 56 = .ok (.goto 4, 3) := by decide +kernel
theorem dX3_sell_59 : decode cX3_sell 59 = .ok (.iconst 0, 1) := by decide +kernel
theorem dX3_sell_60 : decode cX3_sell 60 = .ok (.invokevirtual 86, 3) := by decide +kernel
theorem dX3_sell_63 : decode cX3_sell 63 = .ok (.ifCond .eq 5, 3) := by decide +kernel
theorem dX3_sell_66 : decode cX3_sell 66 = .ok (.iconst 0, 1) := by decide +kernel
theorem dX3_sell_67 : decode cX3_sell 67 = .ok (.ireturn, 1) := by decide +kernel
theorem dX3_sell_68 : decode cX3_sell 68 = .ok (.aload_n 0, 1) := by decide +kernel
theorem dX3_sell_69 : decode cX3_sell 69 = .ok (.getfield 13, 3) := by decide +kernel
theorem dX3_sell_72 : decode cX3_sell 72 = .ok (.aload_n 0, 1) := by decide +kernel
theorem dX3_sell_73 : decode cX3_sell 73 = .ok (.getfield 28, 3) := by decide +kernel
theorem dX3_sell_76 : decode cX3_sell 76 = .ok (.iload_n 1, 1) := by decide +kernel
theorem dX3_sell_77 : decode cX3_sell 77 = .ok (.iaload, 1) := by decide +kernel
theorem dX3_sell_78 : decode cX3_sell 78 = .ok (.iaload, 1) := by decide +kernel
theorem dX3_sell_79 : decode cX3_sell 79 = .ok (.istore 4, 2) := by decide +kernel
theorem dX3_sell_81 : decode cX3_sell 81 = .ok (.aload_n 0, 1) := by decide +kernel
theorem dX3_sell_82 : decode cX3_sell 82 = .ok (.getfield 31, 3) := by decide +kernel
theorem dX3_sell_85 : decode cX3_sell 85 = .ok (.iload_n 1, 1) := by decide +kernel
theorem dX3_sell_86 : decode cX3_sell 86 = .ok (.iaload, 1) := by decide +kernel
theorem dX3_sell_87 : decode cX3_sell 87 = .ok (.aload_n 0, 1) := by decide +kernel
theorem dX3_sell_88 : decode cX3_sell 88 = .ok (.getfield 34, 3) := by decide +kernel
theorem dX3_sell_91 : decode cX3_sell 91 = .ok (.iload_n 1, 1) := by decide +kernel
theorem dX3_sell_92 : decode cX3_sell 92 = .ok (.iaload, 1) := by decide +kernel
theorem dX3_sell_93 : decode cX3_sell 93 = .ok (.isub, 1) := by decide +kernel
theorem dX3_sell_94 : decode cX3_sell 94 = .ok (.istore 5, 2) := by decide +kernel
theorem dX3_sell_96 : decode cX3_sell 96 = .ok (.iload_n 2, 1) := by decide +kernel
theorem dX3_sell_97 : decode cX3_sell 97 = .ok (.iload 5, 2) := by decide +kernel
theorem dX3_sell_99 : decode cX3_sell 99 = .ok (.if_icmp .ge 7, 3) := by decide +kernel
theorem dX3_sell_102 : decode cX3_sell 102 = .ok (.iload_n 2, 1) := by decide +kernel
theorem dX3_sell_103 : decode cX3_sell 103 = .ok (.goto 5, 3) := by decide +kernel
theorem dX3_sell_106 : decode cX3_sell 106 = .ok (.iload 5, 2) := by decide +kernel
theorem dX3_sell_108 : decode cX3_sell 108 = .ok (.istore 6, 2) := by decide +kernel
theorem dX3_sell_110 : decode cX3_sell 110 = .ok (.iload_n 2, 1) := by decide +kernel
theorem dX3_sell_111 : decode cX3_sell 111 = .ok (.iload 6, 2) := by decide +kernel
theorem dX3_sell_113 : decode cX3_sell 113 = .ok (.isub, 1) := by decide +kernel
theorem dX3_sell_114 : decode cX3_sell 114 = .ok (.istore 7, 2) := by decide +kernel
theorem dX3_sell_116 : decode cX3_sell 116 = .ok (.aload_n 0, 1) := by decide +kernel
theorem dX3_sell_117 : decode cX3_sell 117 = .ok (.iload_n 1, 1) := by decide +kernel
theorem dX3_sell_118 : decode cX3_sell 118 = .ok (.iload 6, 2) := by decide +kernel
theorem dX3_sell_120 : decode cX3_sell 120 = .ok (.iload 4, 2) := by decide +kernel
theorem dX3_sell_122 : decode cX3_sell 122 = .ok (.imul, 1) := by decide +kernel
theorem dX3_sell_123 : decode cX3_sell 123 = .ok (.iconst 3, 1) := by decide +kernel
theorem dX3_sell_124 : decode cX3_sell 124 = .ok (.invokevirtual 117, 3) := by decide +kernel
theorem dX3_sell_127 : decode cX3_sell 127 = .ok (.iload 7, 2) := by decide +kernel
theorem dX3_sell_129 : decode cX3_sell 129 = .ok (.iload 4, 2) := by decide +kernel
theorem dX3_sell_131 : decode cX3_sell 131 = .ok (.imul, 1) := by decide +kernel
theorem dX3_sell_132 : decode cX3_sell 132 = .ok (.aload_n 0, 1) := by decide +kernel
theorem dX3_sell_133 : decode cX3_sell 133 = .ok (.getfield 37, 3) := by decide +kernel
theorem dX3_sell_136 : decode cX3_sell 136 = .ok (.iload_n 1, 1) := by decide +kernel
theorem dX3_sell_137 : decode cX3_sell 137 = .ok (.iaload, 1) := by decide +kernel
theorem dX3_sell_138 : decode cX3_sell 138 = .ok (.if_icmp .ge 11, 3) := by decide +kernel
theorem dX3_sell_141 : decode cX3_sell 141 = .ok (.iload 7, 2) := by decide +kernel
theorem dX3_sell_143 : decode cX3_sell 143 = .ok (.iload 4, 2) := by decide +kernel
theorem dX3_sell_145 : decode cX3_sell 145 = .ok (.imul, 1) := by decide +kernel
theorem dX3_sell_146 : decode cX3_sell 146 = .ok (.goto 9, 3) := by decide +kernel
theorem dX3_sell_149 : decode cX3_sell 149 = .ok (.aload_n 0, 1) := by decide +kernel
theorem dX3_sell_150 : decode cX3_sell 150 = .ok (.getfield 37, 3) := by decide +kernel
theorem dX3_sell_153 : decode cX3_sell 153 = .ok (.iload_n 1, 1) := by decide +kernel
theorem dX3_sell_154 : decode cX3_sell 154 = .ok (.iaload, 1) := by decide +kernel
theorem dX3_sell_155 : decode cX3_sell 155 = .ok (.istore 8, 2) := by decide +kernel
theorem dX3_sell_157 : decode cX3_sell 157 = .ok (.aload_n 0, 1) := by decide +kernel
theorem dX3_sell_158 : decode cX3_sell 158 = .ok (.getfield 37, 3) := by decide +kernel
theorem dX3_sell_161 : decode cX3_sell 161 = .ok (.iload_n 1, 1) := by decide +kernel
theorem dX3_sell_162 : decode cX3_sell 162 = .ok (.dup2, 1) := by decide +kernel
theorem dX3_sell_163 : decode cX3_sell 163 = .ok (.iaload, 1) := by decide +kernel
theorem dX3_sell_164 : decode cX3_sell 164 = .ok (.iload 8, 2) := by decide +kernel
theorem dX3_sell_166 : decode cX3_sell 166 = .ok (.isub, 1) := by decide +kernel
theorem dX3_sell_167 : decode cX3_sell 167 = .ok (.iastore, 1) := by decide +kernel
theorem dX3_sell_168 : decode cX3_sell 168 = .ok (.aload_n 0, 1) := by decide +kernel
theorem dX3_sell_169 : decode cX3_sell 169 = .ok (.iload_n 1, 1) := by decide +kernel
theorem dX3_sell_170 : decode cX3_sell 170 = .ok (.iload 7, 2) := by decide +kernel
theorem dX3_sell_172 : decode cX3_sell 172 = .ok (.iload 4, 2) := by decide +kernel
theorem dX3_sell_174 : decode cX3_sell 174 = .ok (.imul, 1) := by decide +kernel
theorem dX3_sell_175 : decode cX3_sell 175 = .ok (.iload 8, 2) := by decide +kernel
theorem dX3_sell_177 : decode cX3_sell 177 = .ok (.isub, 1) := by decide +kernel
theorem dX3_sell_178 : decode cX3_sell 178 = .ok (.iconst 3, 1) := by decide +kernel
theorem dX3_sell_179 : decode cX3_sell 179 = .ok (.invokevirtual 117, 3) := by decide +kernel
theorem dX3_sell_182 : decode cX3_sell 182 = .ok (.aload_n 0, 1) := by decide +kernel
theorem dX3_sell_183 : decode cX3_sell 183 = .ok (.getfield 31, 3) := by decide +kernel
theorem dX3_sell_186 : decode cX3_sell 186 = .ok (.iload_n 1, 1) := by decide +kernel
theorem dX3_sell_187 : decode cX3_sell 187 = .ok (.dup2, 1) := by decide +kernel
theorem dX3_sell_188 : decode cX3_sell 188 = .ok (.iaload, 1) := by decide +kernel
theorem dX3_sell_189 : decode cX3_sell 189 = .ok (.iload_n 2, 1) := by decide +kernel
theorem dX3_sell_190 : decode cX3_sell 190 = .ok (.isub, 1) := by decide +kernel
theorem dX3_sell_191 : decode cX3_sell 191 = .ok (.iastore, 1) := by decide +kernel
theorem dX3_sell_192 : decode cX3_sell 192 = .ok (.aload_n 0, 1) := by decide +kernel
theorem dX3_sell_193 : decode cX3_sell 193 = .ok (.getfield 34, 3) := by decide +kernel
theorem dX3_sell_196 : decode cX3_sell 196 = .ok (.iload_n 1, 1) := by decide +kernel
theorem dX3_sell_197 : decode cX3_sell 197 = .ok (.dup2, 1) := by decide +kernel
theorem dX3_sell_198 : decode cX3_sell 198 = .ok (.iaload, 1) := by decide +kernel
theorem dX3_sell_199 : decode cX3_sell 199 = .ok (.iload 7, 2) := by decide +kernel
theorem dX3_sell_201 : decode cX3_sell 201 = .ok (.isub, 1) := by decide +kernel
theorem dX3_sell_202 : decode cX3_sell 202 = .ok (.iastore, 1) := by decide +kernel
theorem dX3_sell_203 : decode cX3_sell 203 = .ok (.aload_n 0, 1) := by decide +kernel
theorem dX3_sell_204 : decode cX3_sell 204 = .ok (.getfield 34, 3) := by decide +kernel
theorem dX3_sell_207 : decode cX3_sell 207 = .ok (.iload_n 1, 1) := by decide +kernel
theorem dX3_sell_208 : decode cX3_sell 208 = .ok (.iaload, 1) := by decide +kernel
theorem dX3_sell_209 : decode cX3_sell 209 = .ok (.ifCond .ne 21, 3) := by decide +kernel
theorem dX3_sell_212 : decode cX3_sell 212 = .ok (.aload_n 0, 1) := by decide +kernel
theorem dX3_sell_213 : decode cX3_sell 213 = .ok (.iload_n 1, 1) := by decide +kernel
theorem dX3_sell_214 : decode cX3_sell 214 = .ok (.aload_n 0, 1) := by decide +kernel
theorem dX3_sell_215 : decode cX3_sell 215 = .ok (.getfield 37, 3) := by decide +kernel
theorem dX3_sell_218 : decode cX3_sell 218 = .ok (.iload_n 1, 1) := by decide +kernel
theorem dX3_sell_219 : decode cX3_sell 219 = .ok (.iaload, 1) := by decide +kernel
theorem dX3_sell_220 : decode cX3_sell 220 = .ok (.invokevirtual 111, 3) := by decide +kernel
theorem dX3_sell_223 : decode cX3_sell 223 = .ok (.aload_n 0, 1) := by decide +kernel
theorem dX3_sell_224 : decode cX3_sell 224 = .ok (.getfield 37, 3) := by decide +kernel
theorem dX3_sell_227 : decode cX3_sell 227 = .ok (.iload_n 1, 1) := by decide +kernel
theorem dX3_sell_228 : decode cX3_sell 228 = .ok (.iconst 0, 1) := by decide +kernel
theorem dX3_sell_229 : decode cX3_sell 229 = .ok (.iastore, 1) := by decide +kernel
theorem dX3_sell_230 : decode cX3_sell 230 = .ok (.iload_n 2, 1) := by decide +kernel
theorem dX3_sell_231 : decode cX3_sell 231 = .ok (.iload 4, 2) := by decide +kernel
theorem dX3_sell_233 : decode cX3_sell 233 = .ok (.imul, 1) := by decide +kernel
theorem dX3_sell_234 : decode cX3_sell 234 = .ok (.ireturn, 1) := by decide +kernel
set_option maxRecDepth 20000 in
theorem ggX3_repay_X3_isFarmer : GoodIn wsX3_repay wsX3_isFarmer := goodIn_r _ [8, 9, 10, 11, 7, 12, 23, 24, 25, 26, 27, 28, 29, 30, 31, 32, 33, 34, 35, 36, 37, 38, 39, 40, 41, 42, 43, 44, 45, 46] (by decide +kernel) (by decide +kernel)
set_option maxRecDepth 20000 in
theorem gX3_repay_X3_isFarmer : GoodIn wsX3_repay (wsV RX3 104 RX3 yX3_isFarmer wsX3_isFarmer) := goodIn_app (goodIn_of _ (by decide +kernel)) ggX3_repay_X3_isFarmer
set_option maxRecDepth 20000 in
theorem ggX3_repay_X3_in : GoodIn wsX3_repay wsX3_in := goodIn_r _ [12] (by decide +kernel) (by decide +kernel)
set_option maxRecDepth 20000 in
theorem gX3_repay_X3_in : GoodIn wsX3_repay (va_wsS RX3 74 yX3_in wsX3_in) := goodIn_app (goodIn_of _ (by decide +kernel)) ggX3_repay_X3_in
set_option maxRecDepth 20000 in
theorem ggX3_repay_X3_refused : GoodIn wsX3_repay wsX3_refused := goodIn_r _ [16, 17, 23, 24, 25, 26, 27, 28, 29, 30, 31, 32, 33, 34, 35, 36, 37, 38, 39, 40, 41, 42, 43, 44, 45, 46] (by decide +kernel) (by decide +kernel)
set_option maxRecDepth 20000 in
theorem gX3_repay_X3_refused : GoodIn wsX3_repay (wsV RX3 86 RX3 yX3_refused wsX3_refused) := goodIn_app (goodIn_of _ (by decide +kernel)) ggX3_repay_X3_refused
set_option maxRecDepth 20000 in
theorem ggX3_repay_X3_lower : GoodIn wsX3_repay wsX3_lower := goodIn_r _ [21, 2, 22, 23, 24, 25, 26, 27, 28, 29, 30, 31, 32, 33, 34, 35, 36, 37, 38, 39, 40, 41, 42, 43, 44, 45, 46] (by decide +kernel) (by decide +kernel)
set_option maxRecDepth 20000 in
theorem gX3_repay_X3_lower : GoodIn wsX3_repay (wsV RX3 97 RX3 yX3_lower wsX3_lower) := goodIn_app (goodIn_of _ (by decide +kernel)) ggX3_repay_X3_lower
theorem dX3_repay_0 : decode cX3_repay 0 = .ok (.aload_n 0, 1) := by decide +kernel
theorem dX3_repay_1 : decode cX3_repay 1 = .ok (.iload_n 1, 1) := by decide +kernel
theorem dX3_repay_2 : decode cX3_repay 2 = .ok (.invokevirtual 104, 3) := by decide +kernel
theorem dX3_repay_5 : decode cX3_repay 5 = .ok (.ifCond .eq 17, 3) := by decide +kernel
theorem dX3_repay_8 : decode cX3_repay 8 = .ok (.iload_n 2, 1) := by decide +kernel
theorem dX3_repay_9 : decode cX3_repay 9 = .ok (.iconst 1, 1) := by decide +kernel
theorem dX3_repay_10 : decode cX3_repay 10 = .ok (.ldc 110, 2) := by decide +kernel
theorem dX3_repay_12 : decode cX3_repay 12 = .ok (.invokestatic 74, 3) := by decide +kernel
theorem dX3_repay_15 : decode cX3_repay 15 = .ok (.ifCond .eq 7, 3) := by decide +kernel
theorem dX3_repay_18 : decode cX3_repay 18 = .ok (.iconst 1, 1) := by decide +kernel
theorem dX3_repay_19 : decode cX3_repay 19 = .ok (.goto 4, 3) := by decide +kernel
theorem dX3_repay_22 : decode cX3_repay 22 = .ok (.iconst 0, 1) := by decide +kernel
theorem dX3_repay_23 : decode cX3_repay 23 = .ok (.istore_n 3, 1) := by decide +kernel
theorem dX3_repay_24 : decode cX3_repay 24 = .ok (.iload_n 3, 1) := by decide +kernel
theorem dX3_repay_25 : decode cX3_repay 25 = .ok (.ifCond .eq 27, 3) := by decide +kernel
theorem dX3_repay_28 : decode cX3_repay 28 = .ok (.aload_n 0, 1) := by decide +kernel
theorem dX3_repay_29 : decode cX3_repay 29 = .ok (.getfield 25, 3) := by decide +kernel
theorem dX3_repay_32 : decode cX3_repay 32 = .ok (.iload_n 1, 1) := by decide +kernel
theorem dX3_repay_33 : decode cX3_repay 33 = .ok (.iaload, 1) := by decide +kernel
theorem dX3_repay_34 : decode cX3_repay 34 = .ok (.iload_n 2, 1) := by decide +kernel
theorem dX3_repay_35 : decode cX3_repay 35 = .ok (.if_icmp .lt 17, 3) := by decide +kernel
theorem dX3_repay_38 : decode cX3_repay 38 = .ok (.aload_n 0, 1) := by decide +kernel
theorem dX3_repay_39 : decode cX3_repay 39 = .ok (.getfield 22, 3) := by decide +kernel
theorem dX3_repay_42 : decode cX3_repay 42 = .ok (.iload_n 1, 1) := by decide +kernel
theorem dX3_repay_43 : decode cX3_repay 43 = .ok (.iaload, 1) := by decide +kernel
theorem dX3_repay_44 : decode cX3_repay 44 = .ok (.iload_n 2, 1) := by decide +kernel
theorem dX3_repay_45 : decode cX3_repay 45 = .ok (.if_icmp .lt 7, 3) := by decide +kernel
theorem dX3_repay_48 : decode cX3_repay 48 = .ok (.iconst 1, 1) := by decide +kernel
theorem dX3_repay_49 : decode cX3_repay 49 = .ok (.goto 4, 3) := by decide +kernel
theorem dX3_repay_52 : decode cX3_repay 52 = .ok (.iconst 0, 1) := by decide +kernel
theorem dX3_repay_53 : decode cX3_repay 53 = .ok (.istore 4, 2) := by decide +kernel
theorem dX3_repay_55 : decode cX3_repay 55 = .ok (.aload_n 0, 1) := by decide +kernel
theorem dX3_repay_56 : decode cX3_repay 56 = .ok (.aload_n 0, 1) := by decide +kernel
theorem dX3_repay_57 : decode cX3_repay 57 = .ok (.iload_n 1, 1) := by decide +kernel
theorem dX3_repay_58 : decode cX3_repay 58 = .ok (.invokevirtual 104, 3) := by decide +kernel
theorem dX3_repay_61 : decode cX3_repay 61 = .ok (.ifCond .ne 7, 3) := by decide +kernel
theorem dX3_repay_64 : decode cX3_repay 64 = .ok (.iconst 1, 1) := by decide +kernel
theorem dX3_repay_65 : decode cX3_repay 65 = .ok (.goto 21, 3) := by decide +kernel
theorem dX3_repay_68 : decode cX3_repay 68 = .ok (.iload_n 3, 1) := by decide +kernel
theorem dX3_repay_69 : decode cX3_repay 69 = .ok (.ifCond .ne 7, 3) := by decide +kernel
theorem dX3_repay_72 : decode cX3_repay 72 = .ok (.iconst 2, 1) := by decide +kernel
theorem dX3_repay_73 : decode cX3_repay 73 = .ok (.goto 13, 3) := by decide +kernel
theorem dX3_repay_76 : decode cX3_repay 76 = .ok (.iload 4, 2) := by decide +kernel
theorem dX3_repay_78 : decode cX3_repay 78 = .ok (.ifCond .eq 7, 3) := by decide +kernel
theorem dX3_repay_81 : decode cX3_repay 81 = .ok (.iconst 0, 1) := by decide +kernel
theorem dX3_repay_82 : decode cX3_repay 82 = .ok (.goto 4, 3) := by decide +kernel
theorem dX3_repay_85 : decode cX3_repay 85 = .ok (.iconst 3, 1) := by decide +kernel
theorem dX3_repay_86 : decode cX3_repay 86 = .ok (.invokevirtual 86, 3) := by decide +kernel
theorem dX3_repay_89 : decode cX3_repay 89 = .ok (.ifCond .eq 5, 3) := by decide +kernel
theorem dX3_repay_92 : decode cX3_repay 92 = .ok (.iconst 0, 1) := by decide +kernel
theorem dX3_repay_93 : decode cX3_repay 93 = .ok (.ireturn, 1) := by decide +kernel
theorem dX3_repay_94 : decode cX3_repay 94 = .ok (.aload_n 0, 1) := by decide +kernel
theorem dX3_repay_95 : decode cX3_repay 95 = .ok (.getfield 22, 3) := by decide +kernel
theorem dX3_repay_98 : decode cX3_repay 98 = .ok (.iload_n 1, 1) := by decide +kernel
theorem dX3_repay_99 : decode cX3_repay 99 = .ok (.dup2, 1) := by decide +kernel
theorem dX3_repay_100 : decode cX3_repay 100 = .ok (.iaload, 1) := by decide +kernel
theorem dX3_repay_101 : decode cX3_repay 101 = .ok (.iload_n 2, 1) := by decide +kernel
theorem dX3_repay_102 : decode cX3_repay 102 = .ok (.isub, 1) := by decide +kernel
theorem dX3_repay_103 : decode cX3_repay 103 = .ok (.iastore, 1) := by decide +kernel
theorem dX3_repay_104 : decode cX3_repay 104 = .ok (.aload_n 0, 1) := by decide +kernel
theorem dX3_repay_105 : decode cX3_repay 105 = .ok (.iload_n 1, 1) := by decide +kernel
theorem dX3_repay_106 : decode cX3_repay 106 = .ok (.iload_n 2, 1) := by decide +kernel
theorem dX3_repay_107 : decode cX3_repay 107 = .ok (.iconst 0, 1) := by decide +kernel
theorem dX3_repay_108 : decode cX3_repay 108 = .ok (.invokevirtual 97, 3) := by decide +kernel
theorem dX3_repay_111 : decode cX3_repay 111 = .ok (.aload_n 0, 1) := by decide +kernel
theorem dX3_repay_112 : decode cX3_repay 112 = .ok (.getfield 25, 3) := by decide +kernel
theorem dX3_repay_115 : decode cX3_repay 115 = .ok (.iload_n 1, 1) := by decide +kernel
theorem dX3_repay_116 : decode cX3_repay 116 = .ok (.iaload, 1) := by decide +kernel
theorem dX3_repay_117 : decode cX3_repay 117 = .ok (.ireturn, 1) := by decide +kernel
set_option maxRecDepth 20000 in
theorem ggX3_settle_X3_lower : GoodIn wsX3_settle wsX3_lower := goodIn_r _ [9, 2, 10, 11, 12, 13, 14, 15, 16, 17, 18, 19, 20, 21, 22, 23, 24, 25, 26, 27, 28, 29, 30, 31, 32, 33, 34] (by decide +kernel) (by decide +kernel)
set_option maxRecDepth 20000 in
theorem gX3_settle_X3_lower : GoodIn wsX3_settle (wsV RX3 97 RX3 yX3_lower wsX3_lower) := goodIn_app (goodIn_of _ (by decide +kernel)) ggX3_settle_X3_lower
theorem dX3_settle_0 : decode cX3_settle 0 = .ok (.aload_n 0, 1) := by decide +kernel
theorem dX3_settle_1 : decode cX3_settle 1 = .ok (.getfield 40, 3) := by decide +kernel
theorem dX3_settle_4 : decode cX3_settle 4 = .ok (.iload_n 1, 1) := by decide +kernel
theorem dX3_settle_5 : decode cX3_settle 5 = .ok (.iaload, 1) := by decide +kernel
theorem dX3_settle_6 : decode cX3_settle 6 = .ok (.ifCond .le 70, 3) := by decide +kernel
theorem dX3_settle_9 : decode cX3_settle 9 = .ok (.aload_n 0, 1) := by decide +kernel
theorem dX3_settle_10 : decode cX3_settle 10 = .ok (.getfield 25, 3) := by decide +kernel
theorem dX3_settle_13 : decode cX3_settle 13 = .ok (.iload_n 1, 1) := by decide +kernel
theorem dX3_settle_14 : decode cX3_settle 14 = .ok (.dup2, 1) := by decide +kernel
theorem dX3_settle_15 : decode cX3_settle 15 = .ok (.iaload, 1) := by decide +kernel
theorem dX3_settle_16 : decode cX3_settle 16 = .ok (.aload_n 0, 1) := by decide +kernel
theorem dX3_settle_17 : decode cX3_settle 17 = .ok (.getfield 43, 3) := by decide +kernel
theorem dX3_settle_20 : decode cX3_settle 20 = .ok (.iconst 3, 1) := by decide +kernel
theorem dX3_settle_21 : decode cX3_settle 21 = .ok (.iload_n 1, 1) := by decide +kernel
theorem dX3_settle_22 : decode cX3_settle 22 = .ok (.imul, 1) := by decide +kernel
theorem dX3_settle_23 : decode cX3_settle 23 = .ok (.iaload, 1) := by decide +kernel
theorem dX3_settle_24 : decode cX3_settle 24 = .ok (.iadd, 1) := by decide +kernel
theorem dX3_settle_25 : decode cX3_settle 25 = .ok (.iastore, 1) := by decide +kernel
theorem dX3_settle_26 : decode cX3_settle 26 = .ok (.iconst 1, 1) := by decide +kernel
theorem dX3_settle_27 : decode cX3_settle 27 = .ok (.istore_n 2, 1) := by decide +kernel
theorem dX3_settle_28 : decode cX3_settle 28 = .ok (.iload_n 2, 1) := by decide +kernel
theorem dX3_settle_29 : decode cX3_settle 29 = .ok (.aload_n 0, 1) := by decide +kernel
theorem dX3_settle_30 : decode cX3_settle 30 = .ok (.getfield 40, 3) := by decide +kernel
theorem dX3_settle_33 : decode cX3_settle 33 = .ok (.iload_n 1, 1) := by decide +kernel
theorem dX3_settle_34 : decode cX3_settle 34 = .ok (.iaload, 1) := by decide +kernel
theorem dX3_settle_35 : decode cX3_settle 35 = .ok (.if_icmp .ge 31, 3) := by decide +kernel
theorem dX3_settle_38 : decode cX3_settle 38 = .ok (.aload_n 0, 1) := by decide +kernel
theorem dX3_settle_39 : decode cX3_settle 39 = .ok (.getfield 43, 3) := by decide +kernel
theorem dX3_settle_42 : decode cX3_settle 42 = .ok (.iconst 3, 1) := by decide +kernel
theorem dX3_settle_43 : decode cX3_settle 43 = .ok (.iload_n 1, 1) := by decide +kernel
theorem dX3_settle_44 : decode cX3_settle 44 = .ok (.imul, 1) := by decide +kernel
theorem dX3_settle_45 : decode cX3_settle 45 = .ok (.iload_n 2, 1) := by decide +kernel
theorem dX3_settle_46 : decode cX3_settle 46 = .ok (.iadd, 1) := by decide +kernel
theorem dX3_settle_47 : decode cX3_settle 47 = .ok (.iconst 1, 1) := by decide +kernel
theorem dX3_settle_48 : decode cX3_settle 48 = .ok (.isub, 1) := by decide +kernel
theorem dX3_settle_49 : decode cX3_settle 49 = .ok (.aload_n 0, 1) := by decide +kernel
theorem dX3_settle_50 : decode cX3_settle 50 = .ok (.getfield 43, 3) := by decide +kernel
theorem dX3_settle_53 : decode cX3_settle 53 = .ok (.iconst 3, 1) := by decide +kernel
theorem dX3_settle_54 : decode cX3_settle 54 = .ok (.iload_n 1, 1) := by decide +kernel
theorem dX3_settle_55 : decode cX3_settle 55 = .ok (.imul, 1) := by decide +kernel
theorem dX3_settle_56 : decode cX3_settle 56 = .ok (.iload_n 2, 1) := by decide +kernel
theorem dX3_settle_57 : decode cX3_settle 57 = .ok (.iadd, 1) := by decide +kernel
theorem dX3_settle_58 : decode cX3_settle 58 = .ok (.iaload, 1) := by decide +kernel
theorem dX3_settle_59 : decode cX3_settle 59 = .ok (.iastore, 1) := by decide +kernel
theorem dX3_settle_60 : decode cX3_settle 60 = .ok (.iinc 2 1, 3) := by decide +kernel
theorem dX3_settle_63 : decode cX3_settle 63 = .ok (.goto (-35), 3) := by decide +kernel
theorem dX3_settle_66 : decode cX3_settle 66 = .ok (.aload_n 0, 1) := by decide +kernel
theorem dX3_settle_67 : decode cX3_settle 67 = .ok (.getfield 40, 3) := by decide +kernel
theorem dX3_settle_70 : decode cX3_settle 70 = .ok (.iload_n 1, 1) := by decide +kernel
theorem dX3_settle_71 : decode cX3_settle 71 = .ok (.dup2, 1) := by decide +kernel
theorem dX3_settle_72 : decode cX3_settle 72 = .ok (.iaload, 1) := by decide +kernel
theorem dX3_settle_73 : decode cX3_settle 73 = .ok (.iconst 1, 1) := by decide +kernel
theorem dX3_settle_74 : decode cX3_settle 74 = .ok (.isub, 1) := by decide +kernel
theorem dX3_settle_75 : decode cX3_settle 75 = .ok (.iastore, 1) := by decide +kernel
theorem dX3_settle_76 : decode cX3_settle 76 = .ok (.aload_n 0, 1) := by decide +kernel
theorem dX3_settle_77 : decode cX3_settle 77 = .ok (.getfield 22, 3) := by decide +kernel
theorem dX3_settle_80 : decode cX3_settle 80 = .ok (.iload_n 1, 1) := by decide +kernel
theorem dX3_settle_81 : decode cX3_settle 81 = .ok (.iaload, 1) := by decide +kernel
theorem dX3_settle_82 : decode cX3_settle 82 = .ok (.aload_n 0, 1) := by decide +kernel
theorem dX3_settle_83 : decode cX3_settle 83 = .ok (.getfield 25, 3) := by decide +kernel
theorem dX3_settle_86 : decode cX3_settle 86 = .ok (.iload_n 1, 1) := by decide +kernel
theorem dX3_settle_87 : decode cX3_settle 87 = .ok (.iaload, 1) := by decide +kernel
theorem dX3_settle_88 : decode cX3_settle 88 = .ok (.if_icmp .ge 12, 3) := by decide +kernel
theorem dX3_settle_91 : decode cX3_settle 91 = .ok (.aload_n 0, 1) := by decide +kernel
theorem dX3_settle_92 : decode cX3_settle 92 = .ok (.getfield 22, 3) := by decide +kernel
theorem dX3_settle_95 : decode cX3_settle 95 = .ok (.iload_n 1, 1) := by decide +kernel
theorem dX3_settle_96 : decode cX3_settle 96 = .ok (.iaload, 1) := by decide +kernel
theorem dX3_settle_97 : decode cX3_settle 97 = .ok (.goto 9, 3) := by decide +kernel
theorem dX3_settle_100 : decode cX3_settle 100 = .ok (.aload_n 0, 1) := by decide +kernel
theorem dX3_settle_101 : decode cX3_settle 101 = .ok (.getfield 25, 3) := by decide +kernel
theorem dX3_settle_104 : decode cX3_settle 104 = .ok (.iload_n 1, 1) := by decide +kernel
theorem dX3_settle_105 : decode cX3_settle 105 = .ok (.iaload, 1) := by decide +kernel
theorem dX3_settle_106 : decode cX3_settle 106 = .ok (.istore_n 2, 1) := by decide +kernel
theorem dX3_settle_107 : decode cX3_settle 107 = .ok (.aload_n 0, 1) := by decide +kernel
theorem dX3_settle_108 : decode cX3_settle 108 = .ok (.getfield 22, 3) := by decide +kernel
theorem dX3_settle_111 : decode cX3_settle 111 = .ok (.iload_n 1, 1) := by decide +kernel
theorem dX3_settle_112 : decode cX3_settle 112 = .ok (.dup2, 1) := by decide +kernel
theorem dX3_settle_113 : decode cX3_settle 113 = .ok (.iaload, 1) := by decide +kernel
theorem dX3_settle_114 : decode cX3_settle 114 = .ok (.iload_n 2, 1) := by decide +kernel
theorem dX3_settle_115 : decode cX3_settle 115 = .ok (.isub, 1) := by decide +kernel
theorem dX3_settle_116 : decode cX3_settle 116 = .ok (.iastore, 1) := by decide +kernel
theorem dX3_settle_117 : decode cX3_settle 117 = .ok (.aload_n 0, 1) := by decide +kernel
theorem dX3_settle_118 : decode cX3_settle 118 = .ok (.iload_n 1, 1) := by decide +kernel
theorem dX3_settle_119 : decode cX3_settle 119 = .ok (.iload_n 2, 1) := by decide +kernel
theorem dX3_settle_120 : decode cX3_settle 120 = .ok (.iconst 0, 1) := by decide +kernel
theorem dX3_settle_121 : decode cX3_settle 121 = .ok (.invokevirtual 97, 3) := by decide +kernel
theorem dX3_settle_124 : decode cX3_settle 124 = .ok (.return_, 1) := by decide +kernel
theorem dX3_roll_0 : decode cX3_roll 0 = .ok (.aload_n 0, 1) := by decide +kernel
theorem dX3_roll_1 : decode cX3_roll 1 = .ok (.getfield 25, 3) := by decide +kernel
theorem dX3_roll_4 : decode cX3_roll 4 = .ok (.iload_n 1, 1) := by decide +kernel
theorem dX3_roll_5 : decode cX3_roll 5 = .ok (.iaload, 1) := by decide +kernel
theorem dX3_roll_6 : decode cX3_roll 6 = .ok (.iconst 3, 1) := by decide +kernel
theorem dX3_roll_7 : decode cX3_roll 7 = .ok (.idiv, 1) := by decide +kernel
theorem dX3_roll_8 : decode cX3_roll 8 = .ok (.istore_n 2, 1) := by decide +kernel
theorem dX3_roll_9 : decode cX3_roll 9 = .ok (.aload_n 0, 1) := by decide +kernel
theorem dX3_roll_10 : decode cX3_roll 10 = .ok (.getfield 43, 3) := by decide +kernel
theorem dX3_roll_13 : decode cX3_roll 13 = .ok (.iconst 3, 1) := by decide +kernel
theorem dX3_roll_14 : decode cX3_roll 14 = .ok (.iload_n 1, 1) := by decide +kernel
theorem dX3_roll_15 : decode cX3_roll 15 = .ok (.imul, 1) := by decide +kernel
theorem dX3_roll_16 : decode cX3_roll 16 = .ok (.iload_n 2, 1) := by decide +kernel
theorem dX3_roll_17 : decode cX3_roll 17 = .ok (.iastore, 1) := by decide +kernel
theorem dX3_roll_18 : decode cX3_roll 18 = .ok (.aload_n 0, 1) := by decide +kernel
theorem dX3_roll_19 : decode cX3_roll 19 = .ok (.getfield 43, 3) := by decide +kernel
theorem dX3_roll_22 : decode cX3_roll 22 = .ok (.iconst 3, 1) := by decide +kernel
theorem dX3_roll_23 : decode cX3_roll 23 = .ok (.iload_n 1, 1) := by decide +kernel
theorem dX3_roll_24 : decode cX3_roll 24 = .ok (.imul, 1) := by decide +kernel
theorem dX3_roll_25 : decode cX3_roll 25 = .ok (.iconst 1, 1) := by decide +kernel
theorem dX3_roll_26 : decode cX3_roll 26 = .ok (.iadd, 1) := by decide +kernel
theorem dX3_roll_27 : decode cX3_roll 27 = .ok (.iload_n 2, 1) := by decide +kernel
theorem dX3_roll_28 : decode cX3_roll 28 = .ok (.iastore, 1) := by decide +kernel
theorem dX3_roll_29 : decode cX3_roll 29 = .ok (.aload_n 0, 1) := by decide +kernel
theorem dX3_roll_30 : decode cX3_roll 30 = .ok (.getfield 43, 3) := by decide +kernel
theorem dX3_roll_33 : decode cX3_roll 33 = .ok (.iconst 3, 1) := by decide +kernel
theorem dX3_roll_34 : decode cX3_roll 34 = .ok (.iload_n 1, 1) := by decide +kernel
theorem dX3_roll_35 : decode cX3_roll 35 = .ok (.imul, 1) := by decide +kernel
theorem dX3_roll_36 : decode cX3_roll 36 = .ok (.iconst 2, 1) := by decide +kernel
theorem dX3_roll_37 : decode cX3_roll 37 = .ok (.iadd, 1) := by decide +kernel
theorem dX3_roll_38 : decode cX3_roll 38 = .ok (.aload_n 0, 1) := by decide +kernel
theorem dX3_roll_39 : decode cX3_roll 39 = .ok (.getfield 25, 3) := by decide +kernel
theorem dX3_roll_42 : decode cX3_roll 42 = .ok (.iload_n 1, 1) := by decide +kernel
theorem dX3_roll_43 : decode cX3_roll 43 = .ok (.iaload, 1) := by decide +kernel
theorem dX3_roll_44 : decode cX3_roll 44 = .ok (.iconst 2, 1) := by decide +kernel
theorem dX3_roll_45 : decode cX3_roll 45 = .ok (.iload_n 2, 1) := by decide +kernel
theorem dX3_roll_46 : decode cX3_roll 46 = .ok (.imul, 1) := by decide +kernel
theorem dX3_roll_47 : decode cX3_roll 47 = .ok (.isub, 1) := by decide +kernel
theorem dX3_roll_48 : decode cX3_roll 48 = .ok (.iastore, 1) := by decide +kernel
theorem dX3_roll_49 : decode cX3_roll 49 = .ok (.aload_n 0, 1) := by decide +kernel
theorem dX3_roll_50 : decode cX3_roll 50 = .ok (.getfield 40, 3) := by decide +kernel
theorem dX3_roll_53 : decode cX3_roll 53 = .ok (.iload_n 1, 1) := by decide +kernel
theorem dX3_roll_54 : decode cX3_roll 54 = .ok (.iconst 3, 1) := by decide +kernel
theorem dX3_roll_55 : decode cX3_roll 55 = .ok (.iastore, 1) := by decide +kernel
theorem dX3_roll_56 : decode cX3_roll 56 = .ok (.aload_n 0, 1) := by decide +kernel
theorem dX3_roll_57 : decode cX3_roll 57 = .ok (.getfield 25, 3) := by decide +kernel
theorem dX3_roll_60 : decode cX3_roll 60 = .ok (.iload_n 1, 1) := by decide +kernel
theorem dX3_roll_61 : decode cX3_roll 61 = .ok (.iconst 0, 1) := by decide +kernel
theorem dX3_roll_62 : decode cX3_roll 62 = .ok (.iastore, 1) := by decide +kernel
theorem dX3_roll_63 : decode cX3_roll 63 = .ok (.return_, 1) := by decide +kernel
set_option maxRecDepth 20000 in
theorem ggX3_call_X3_lower : GoodIn wsX3_call wsX3_lower := goodIn_r _ [10, 5, 11, 12, 13, 14, 15, 16, 17, 18, 19, 20, 21, 22, 23, 24, 25, 26, 27, 28, 29, 30, 31, 32, 33, 34, 35] (by decide +kernel) (by decide +kernel)
set_option maxRecDepth 20000 in
theorem gX3_call_X3_lower : GoodIn wsX3_call (wsV RX3 97 RX3 yX3_lower wsX3_lower) := goodIn_app (goodIn_of _ (by decide +kernel)) ggX3_call_X3_lower
theorem dX3_call_0 : decode cX3_call 0 = .ok (.iconst 0, 1) := by decide +kernel
theorem dX3_call_1 : decode cX3_call 1 = .ok (.istore_n 2, 1) := by decide +kernel
theorem dX3_call_2 : decode cX3_call 2 = .ok (.iload_n 2, 1) := by decide +kernel
theorem dX3_call_3 : decode cX3_call 3 = .ok (.aload_n 0, 1) := by decide +kernel
theorem dX3_call_4 : decode cX3_call 4 = .ok (.getfield 78, 3) := by decide +kernel
theorem dX3_call_7 : decode cX3_call 7 = .ok (.if_icmp .ge 116, 3) := by decide +kernel
theorem dX3_call_10 : decode cX3_call 10 = .ok (.iload_n 2, 1) := by decide +kernel
theorem dX3_call_11 : decode cX3_call 11 = .ok (.iload_n 1, 1) := by decide +kernel
theorem dX3_call_12 : decode cX3_call 12 = .ok (.if_icmp .eq 105, 3) := by decide +kernel
theorem dX3_call_15 : decode cX3_call 15 = .ok (.aload_n 0, 1) := by decide +kernel
theorem dX3_call_16 : decode cX3_call 16 = .ok (.getfield 19, 3) := by decide +kernel
theorem dX3_call_19 : decode cX3_call 19 = .ok (.iload_n 2, 1) := by decide +kernel
theorem dX3_call_20 : decode cX3_call 20 = .ok (.iaload, 1) := by decide +kernel
theorem dX3_call_21 : decode cX3_call 21 = .ok (.aload_n 0, 1) := by decide +kernel
theorem dX3_call_22 : decode cX3_call 22 = .ok (.getfield 19, 3) := by decide +kernel
theorem dX3_call_25 : decode cX3_call 25 = .ok (.iload_n 1, 1) := by decide +kernel
theorem dX3_call_26 : decode cX3_call 26 = .ok (.iaload, 1) := by decide +kernel
theorem dX3_call_27 : decode cX3_call 27 = .ok (.if_icmp .ne 90, 3) := by decide +kernel
theorem dX3_call_30 : decode cX3_call 30 = .ok (.sipush 20000, 3) := by decide +kernel
theorem dX3_call_33 : decode cX3_call 33 = .ok (.aload_n 0, 1) := by decide +kernel
theorem dX3_call_34 : decode cX3_call 34 = .ok (.getfield 61, 3) := by decide +kernel
theorem dX3_call_37 : decode cX3_call 37 = .ok (.iload_n 2, 1) := by decide +kernel
theorem dX3_call_38 : decode cX3_call 38 = .ok (.iaload, 1) := by decide +kernel
theorem dX3_call_39 : decode cX3_call 39 = .ok (.isub, 1) := by decide +kernel
theorem dX3_call_40 : decode cX3_call 40 = .ok (.istore_n 3, 1) := by decide +kernel
theorem dX3_call_41 : decode cX3_call 41 = .ok (.aload_n 0, 1) := by decide +kernel
theorem dX3_call_42 : decode cX3_call 42 = .ok (.getfield 22, 3) := by decide +kernel
theorem dX3_call_45 : decode cX3_call 45 = .ok (.iload_n 2, 1) := by decide +kernel
theorem dX3_call_46 : decode cX3_call 46 = .ok (.iaload, 1) := by decide +kernel
theorem dX3_call_47 : decode cX3_call 47 = .ok (.iload_n 3, 1) := by decide +kernel
theorem dX3_call_48 : decode cX3_call 48 = .ok (.if_icmp .ge 12, 3) := by decide +kernel
theorem dX3_call_51 : decode cX3_call 51 = .ok (.aload_n 0, 1) := by decide +kernel
theorem dX3_call_52 : decode cX3_call 52 = .ok (.getfield 22, 3) := by decide +kernel
theorem dX3_call_55 : decode cX3_call 55 = .ok (.iload_n 2, 1) := by decide +kernel
theorem dX3_call_56 : decode cX3_call 56 = .ok (.iaload, 1) := by decide +kernel
theorem dX3_call_57 : decode cX3_call 57 = .ok (.goto 4, 3) := by decide +kernel
theorem dX3_call_60 : decode cX3_call 60 = .ok (.iload_n 3, 1) := by decide +kernel
theorem dX3_call_61 : decode cX3_call 61 = .ok (.istore 4, 2) := by decide +kernel
theorem dX3_call_63 : decode cX3_call 63 = .ok (.aload_n 0, 1) := by decide +kernel
theorem dX3_call_64 : decode cX3_call 64 = .ok (.getfield 25, 3) := by decide +kernel
theorem dX3_call_67 : decode cX3_call 67 = .ok (.iload_n 1, 1) := by decide +kernel
theorem dX3_call_68 : decode cX3_call 68 = .ok (.iaload, 1) := by decide +kernel
theorem dX3_call_69 : decode cX3_call 69 = .ok (.iload 4, 2) := by decide +kernel
theorem dX3_call_71 : decode cX3_call 71 = .ok (.if_icmp .ge 12, 3) := by decide +kernel
theorem dX3_call_74 : decode cX3_call 74 = .ok (.aload_n 0, 1) := by decide +kernel
theorem dX3_call_75 : decode cX3_call 75 = .ok (.getfield 25, 3) := by decide +kernel
theorem dX3_call_78 : decode cX3_call 78 = .ok (.iload_n 1, 1) := by decide +kernel
theorem dX3_call_79 : decode cX3_call 79 = .ok (.iaload, 1) := by decide +kernel
theorem dX3_call_80 : decode cX3_call 80 = .ok (.goto 5, 3) := by decide +kernel
theorem dX3_call_83 : decode cX3_call 83 = .ok (.iload 4, 2) := by decide +kernel
theorem dX3_call_85 : decode cX3_call 85 = .ok (.istore 4, 2) := by decide +kernel
theorem dX3_call_87 : decode cX3_call 87 = .ok (.aload_n 0, 1) := by decide +kernel
theorem dX3_call_88 : decode cX3_call 88 = .ok (.getfield 22, 3) := by decide +kernel
theorem dX3_call_91 : decode cX3_call 91 = .ok (.iload_n 2, 1) := by decide +kernel
theorem dX3_call_92 : decode cX3_call 92 = .ok (.dup2, 1) := by decide +kernel
theorem dX3_call_93 : decode cX3_call 93 = .ok (.iaload, 1) := by decide +kernel
theorem dX3_call_94 : decode cX3_call 94 = .ok (.iload 4, 2) := by decide +kernel
theorem dX3_call_96 : decode cX3_call 96 = .ok (.isub, 1) := by decide +kernel
theorem dX3_call_97 : decode cX3_call 97 = .ok (.iastore, 1) := by decide +kernel
theorem dX3_call_98 : decode cX3_call 98 = .ok (.aload_n 0, 1) := by decide +kernel
theorem dX3_call_99 : decode cX3_call 99 = .ok (.getfield 61, 3) := by decide +kernel
theorem dX3_call_102 : decode cX3_call 102 = .ok (.iload_n 2, 1) := by decide +kernel
theorem dX3_call_103 : decode cX3_call 103 = .ok (.dup2, 1) := by decide +kernel
theorem dX3_call_104 : decode cX3_call 104 = .ok (.iaload, 1) := by decide +kernel
theorem dX3_call_105 : decode cX3_call 105 = .ok (.iload 4, 2) := by decide +kernel
theorem dX3_call_107 : decode cX3_call 107 = .ok (.iadd, 1) := by decide +kernel
theorem dX3_call_108 : decode cX3_call 108 = .ok (.iastore, 1) := by decide +kernel
theorem dX3_call_109 : decode cX3_call 109 = .ok (.aload_n 0, 1) := by decide +kernel
theorem dX3_call_110 : decode cX3_call 110 = .ok (.iload_n 1, 1) := by decide +kernel
theorem dX3_call_111 : decode cX3_call 111 = .ok (.iload 4, 2) := by decide +kernel
theorem dX3_call_113 : decode cX3_call 113 = .ok (.iconst 4, 1) := by decide +kernel
theorem dX3_call_114 : decode cX3_call 114 = .ok (.invokevirtual 97, 3) := by decide +kernel
theorem dX3_call_117 : decode cX3_call 117 = .ok (.iinc 2 1, 3) := by decide +kernel
theorem dX3_call_120 : decode cX3_call 120 = .ok (.goto (-118), 3) := by decide +kernel
theorem dX3_call_123 : decode cX3_call 123 = .ok (.return_, 1) := by decide +kernel
set_option maxRecDepth 20000 in
theorem ggX3_close_X3_refused : GoodIn wsX3_close wsX3_refused := goodIn_r _ [13, 14, 42, 43, 44, 45, 46, 47, 48, 49, 50, 51, 52, 53, 54, 55, 56, 57, 58, 59, 60, 61, 62, 63, 64, 65] (by decide +kernel) (by decide +kernel)
set_option maxRecDepth 20000 in
theorem gX3_close_X3_refused : GoodIn wsX3_close (wsV RX3 86 RX3 yX3_refused wsX3_refused) := goodIn_app (goodIn_of _ (by decide +kernel)) ggX3_close_X3_refused
set_option maxRecDepth 20000 in
theorem ggX3_close_X3_settle : GoodIn wsX3_close wsX3_settle := goodIn_r _ [18, 7, 8, 19, 20, 21, 22, 23, 12, 24, 25, 42, 43, 44, 45, 46, 47, 48, 49, 50, 51, 52, 53, 54, 55, 56, 57, 58, 59, 60, 61, 62, 63, 64, 65] (by decide +kernel) (by decide +kernel)
set_option maxRecDepth 20000 in
theorem gX3_close_X3_settle : GoodIn wsX3_close (wsV RX3 131 RX3 yX3_settle wsX3_settle) := goodIn_app (goodIn_of _ (by decide +kernel)) ggX3_close_X3_settle
set_option maxRecDepth 20000 in
theorem ggX3_close_X3_roll : GoodIn wsX3_close wsX3_roll := goodIn_r _ [29, 8, 19, 7, 42, 43, 44, 45, 46, 47, 48, 49, 50, 51, 52, 53, 54, 55, 56, 57, 58, 59, 60, 61, 62, 63, 64, 65] (by decide +kernel) (by decide +kernel)
set_option maxRecDepth 20000 in
theorem gX3_close_X3_roll : GoodIn wsX3_close (wsV RX3 134 RX3 yX3_roll wsX3_roll) := goodIn_app (goodIn_of _ (by decide +kernel)) ggX3_close_X3_roll
set_option maxRecDepth 20000 in
theorem ggX3_close_X3_call : GoodIn wsX3_close wsX3_call := goodIn_r _ [33, 3, 34, 4, 20, 8, 21, 22, 23, 12, 24, 25, 42, 43, 44, 45, 46, 47, 48, 49, 50, 51, 52, 53, 54, 55, 56, 57, 58, 59, 60, 61, 62, 63, 64, 65] (by decide +kernel) (by decide +kernel)
set_option maxRecDepth 20000 in
theorem gX3_close_X3_call : GoodIn wsX3_close (wsV RX3 137 RX3 yX3_call wsX3_call) := goodIn_app (goodIn_of _ (by decide +kernel)) ggX3_close_X3_call
set_option maxRecDepth 20000 in
theorem ggX3_close_X3_clear : GoodIn wsX3_close wsX3_clear := goodIn_r _ [38, 5, 39, 40, 41, 6, 42, 43, 44, 45, 46, 47, 48, 49, 50, 51, 52, 53, 54, 55, 56, 57, 58, 59, 60, 61, 62, 63, 64, 65] (by decide +kernel) (by decide +kernel)
set_option maxRecDepth 20000 in
theorem gX3_close_X3_clear : GoodIn wsX3_close (wsV RX3 89 RX3 yX3_clear wsX3_clear) := goodIn_app (goodIn_of _ (by decide +kernel)) ggX3_close_X3_clear
theorem dX3_close_0 : decode cX3_close 0 = .ok (.aload_n 0, 1) := by decide +kernel
theorem dX3_close_1 : decode cX3_close 1 = .ok (.aload_n 0, 1) := by decide +kernel
theorem dX3_close_2 : decode cX3_close 2 = .ok (.getfield 101, 3) := by decide +kernel
theorem dX3_close_5 : decode cX3_close 5 = .ok (.iconst 4, 1) := by decide +kernel
theorem dX3_close_6 : decode cX3_close 6 = .ok (.if_icmp .ne 12, 3) := by decide +kernel
theorem dX3_close_9 : decode cX3_close 9 = .ok (.aload_n 0, 1) := by decide +kernel
theorem dX3_close_10 : decode cX3_close 10 = .ok (.getfield 128, 3) := by decide +kernel
theorem dX3_close_13 : decode cX3_close 13 = .ok (.bipush 20, 2) := by decide +kernel
theorem dX3_close_15 : decode cX3_close 15 = .ok (.if_icmp .ne 7, 3) := by decide +kernel
theorem dX3_close_18 : decode cX3_close 18 = .ok (.iconst 1, 1) := by decide +kernel
theorem dX3_close_19 : decode cX3_close 19 = .ok (.goto 4, 3) := by decide +kernel
theorem dX3_close_22 : decode cX3_close 22 = .ok (.iconst 0, 1) := by decide +kernel
theorem dX3_close_23 : decode cX3_close 23 = .ok (.invokevirtual 86, 3) := by decide +kernel
theorem dX3_close_26 : decode cX3_close 26 = .ok (.ifCond .eq 5, 3) := by decide +kernel
theorem dX3_close_29 : decode cX3_close 29 = .ok (.iconst 0, 1) := by decide +kernel
theorem dX3_close_30 : decode cX3_close 30 = .ok (.ireturn, 1) := by decide +kernel
theorem dX3_close_31 : decode cX3_close 31 = .ok (.iconst 0, 1) := by decide +kernel
theorem dX3_close_32 : decode cX3_close 32 = .ok (.istore_n 1, 1) := by decide +kernel
theorem dX3_close_33 : decode cX3_close 33 = .ok (.iload_n 1, 1) := by decide +kernel
theorem dX3_close_34 : decode cX3_close 34 = .ok (.aload_n 0, 1) := by decide +kernel
theorem dX3_close_35 : decode cX3_close 35 = .ok (.getfield 78, 3) := by decide +kernel
theorem dX3_close_38 : decode cX3_close 38 = .ok (.if_icmp .ge 21, 3) := by decide +kernel
theorem dX3_close_41 : decode cX3_close 41 = .ok (.aload_n 0, 1) := by decide +kernel
theorem dX3_close_42 : decode cX3_close 42 = .ok (.iload_n 1, 1) := by decide +kernel
theorem dX3_close_43 : decode cX3_close 43 = .ok (.invokevirtual 131, 3) := by decide +kernel
theorem dX3_close_46 : decode cX3_close 46 = .ok (.aload_n 0, 1) := by decide +kernel
theorem dX3_close_47 : decode cX3_close 47 = .ok (.getfield 61, 3) := by decide +kernel
theorem dX3_close_50 : decode cX3_close 50 = .ok (.iload_n 1, 1) := by decide +kernel
theorem dX3_close_51 : decode cX3_close 51 = .ok (.iconst 0, 1) := by decide +kernel
theorem dX3_close_52 : decode cX3_close 52 = .ok (.iastore, 1) := by decide +kernel
theorem dX3_close_53 : decode cX3_close 53 = .ok (.iinc 1 1, 3) := by decide +kernel
theorem dX3_close_56 : decode cX3_close 56 = .ok (.goto (-23), 3) := by decide +kernel
theorem dX3_close_59 : decode cX3_close 59 = .ok (.iconst 0, 1) := by decide +kernel
theorem dX3_close_60 : decode cX3_close 60 = .ok (.istore_n 1, 1) := by decide +kernel
theorem dX3_close_61 : decode cX3_close 61 = .ok (.iload_n 1, 1) := by decide +kernel
theorem dX3_close_62 : decode cX3_close 62 = .ok (.aload_n 0, 1) := by decide +kernel
theorem dX3_close_63 : decode cX3_close 63 = .ok (.getfield 78, 3) := by decide +kernel
theorem dX3_close_66 : decode cX3_close 66 = .ok (.if_icmp .ge 80, 3) := by decide +kernel
theorem dX3_close_69 : decode cX3_close 69 = .ok (.aload_n 0, 1) := by decide +kernel
theorem dX3_close_70 : decode cX3_close 70 = .ok (.getfield 46, 3) := by decide +kernel
theorem dX3_close_73 : decode cX3_close 73 = .ok (.iload_n 1, 1) := by decide +kernel
theorem dX3_close_74 : decode cX3_close 74 = .ok (.iaload, 1) := by decide +kernel
theorem dX3_close_75 : decode cX3_close 75 = .ok (.iconst (-1), 1) := by decide +kernel
theorem dX3_close_76 : decode cX3_close 76 = .ok (.if_icmp .eq 27, 3) := by decide +kernel
theorem dX3_close_79 : decode cX3_close 79 = .ok (.aload_n 0, 1) := by decide +kernel
theorem dX3_close_80 : decode cX3_close 80 = .ok (.getfield 58, 3) := by decide +kernel
theorem dX3_close_83 : decode cX3_close 83 = .ok (.iload_n 1, 1) := by decide +kernel
theorem dX3_close_84 : decode cX3_close 84 = .ok (.iaload, 1) := by decide +kernel
theorem dX3_close_85 : decode cX3_close 85 = .ok (.bipush 60, 2) := by decide +kernel
theorem dX3_close_87 : decode cX3_close 87 = .ok (.if_icmp .ge 16, 3) := by decide +kernel
theorem dX3_close_90 : decode cX3_close 90 = .ok (.aload_n 0, 1) := by decide +kernel
theorem dX3_close_91 : decode cX3_close 91 = .ok (.getfield 40, 3) := by decide +kernel
theorem dX3_close_94 : decode cX3_close 94 = .ok (.iload_n 1, 1) := by decide +kernel
theorem dX3_close_95 : decode cX3_close 95 = .ok (.iaload, 1) := by decide +kernel
theorem dX3_close_96 : decode cX3_close 96 = .ok (.ifCond .ne 7, 3) := by decide +kernel
theorem dX3_close_99 : decode cX3_close 99 = .ok (.iconst 1, 1) := by decide +kernel
theorem dX3_close_100 : decode cX3_close 100 = .ok (.goto 4, 3) := by decide +kernel
theorem dX3_close_103 : decode cX3_close 103 = .ok (.iconst 0, 1) := by decide +kernel
theorem dX3_close_104 : decode cX3_close 104 = .ok (.istore_n 2, 1) := by decide +kernel
theorem dX3_close_105 : decode cX3_close 105 = .ok (.aload_n 0, 1) := by decide +kernel
theorem dX3_close_106 : decode cX3_close 106 = .ok (.getfield 25, 3) := by decide +kernel
theorem dX3_close_109 : decode cX3_close 109 = .ok (.iload_n 1, 1) := by decide +kernel
theorem dX3_close_110 : decode cX3_close 110 = .ok (.iaload, 1) := by decide +kernel
theorem dX3_close_111 : decode cX3_close 111 = .ok (.ifCond .le 15, 3) := by decide +kernel
theorem dX3_close_114 : decode cX3_close 114 = .ok (.iload_n 2, 1) := by decide +kernel
theorem dX3_close_115 : decode cX3_close 115 = .ok (.ifCond .eq 11, 3) := by decide +kernel
theorem dX3_close_118 : decode cX3_close 118 = .ok (.aload_n 0, 1) := by decide +kernel
theorem dX3_close_119 : decode cX3_close 119 = .ok (.iload_n 1, 1) := by decide +kernel
theorem dX3_close_120 : decode cX3_close 120 = .ok (.invokevirtual 134, 3) := by decide +kernel
theorem dX3_close_123 : decode cX3_close 123 = .ok (.goto 17, 3) := by decide +kernel
theorem dX3_close_126 : decode cX3_close 126 = .ok (.aload_n 0, 1) := by decide +kernel
theorem dX3_close_127 : decode cX3_close 127 = .ok (.getfield 25, 3) := by decide +kernel
theorem dX3_close_130 : decode cX3_close 130 = .ok (.iload_n 1, 1) := by decide +kernel
theorem dX3_close_131 : decode cX3_close 131 = .ok (.iaload, 1) := by decide +kernel
theorem dX3_close_132 : decode cX3_close 132 = .ok (.ifCond .le 8, 3) := by decide +kernel
theorem dX3_close_135 : decode cX3_close 135 = .ok (.aload_n 0, 1) := by decide +kernel
theorem dX3_close_136 : decode cX3_close 136 = .ok (.iload_n 1, 1) := by decide +kernel
theorem dX3_close_137 : decode cX3_close 137 = .ok (.invokevirtual 137, 3) := by decide +kernel
theorem dX3_close_140 : decode cX3_close 140 = .ok (.iinc 1 1, 3) := by decide +kernel
theorem dX3_close_143 : decode cX3_close 143 = .ok (.goto (-82), 3) := by decide +kernel
theorem dX3_close_146 : decode cX3_close 146 = .ok (.iconst 0, 1) := by decide +kernel
theorem dX3_close_147 : decode cX3_close 147 = .ok (.istore_n 1, 1) := by decide +kernel
theorem dX3_close_148 : decode cX3_close 148 = .ok (.iload_n 1, 1) := by decide +kernel
theorem dX3_close_149 : decode cX3_close 149 = .ok (.aload_n 0, 1) := by decide +kernel
theorem dX3_close_150 : decode cX3_close 150 = .ok (.getfield 78, 3) := by decide +kernel
theorem dX3_close_153 : decode cX3_close 153 = .ok (.if_icmp .ge 14, 3) := by decide +kernel
theorem dX3_close_156 : decode cX3_close 156 = .ok (.aload_n 0, 1) := by decide +kernel
theorem dX3_close_157 : decode cX3_close 157 = .ok (.iload_n 1, 1) := by decide +kernel
theorem dX3_close_158 : decode cX3_close 158 = .ok (.invokevirtual 89, 3) := by decide +kernel
theorem dX3_close_161 : decode cX3_close 161 = .ok (.iinc 1 1, 3) := by decide +kernel
theorem dX3_close_164 : decode cX3_close 164 = .ok (.goto (-16), 3) := by decide +kernel
theorem dX3_close_167 : decode cX3_close 167 = .ok (.aload_n 0, 1) := by decide +kernel
theorem dX3_close_168 : decode cX3_close 168 = .ok (.dup, 1) := by decide +kernel
theorem dX3_close_169 : decode cX3_close 169 = .ok (.getfield 128, 3) := by decide +kernel
theorem dX3_close_172 : decode cX3_close 172 = .ok (.iconst 1, 1) := by decide +kernel
theorem dX3_close_173 : decode cX3_close 173 = .ok (.iadd, 1) := by decide +kernel
theorem dX3_close_174 : decode cX3_close 174 = .ok (.putfield 128, 3) := by decide +kernel
theorem dX3_close_177 : decode cX3_close 177 = .ok (.aload_n 0, 1) := by decide +kernel
theorem dX3_close_178 : decode cX3_close 178 = .ok (.iconst 0, 1) := by decide +kernel
theorem dX3_close_179 : decode cX3_close 179 = .ok (.putfield 101, 3) := by decide +kernel
theorem dX3_close_182 : decode cX3_close 182 = .ok (.aload_n 0, 1) := by decide +kernel
theorem dX3_close_183 : decode cX3_close 183 = .ok (.getfield 128, 3) := by decide +kernel
theorem dX3_close_186 : decode cX3_close 186 = .ok (.ireturn, 1) := by decide +kernel
set_option maxRecDepth 20000 in
theorem ggX3_season_X3_fine : GoodIn wsX3_season wsX3_fine := goodIn_r _ [6, 7, 8, 9, 10, 11, 12, 13, 14, 15, 16, 17, 18, 19, 20, 21, 22, 23, 24, 25, 26, 27, 28, 29, 30, 31] (by decide +kernel) (by decide +kernel)
set_option maxRecDepth 20000 in
theorem gX3_season_X3_fine : GoodIn wsX3_season (wsV RX3 93 RX3 yX3_fine wsX3_fine) := goodIn_app (goodIn_of _ (by decide +kernel)) ggX3_season_X3_fine
theorem dX3_season_0 : decode cX3_season 0 = .ok (.aload_n 0, 1) := by decide +kernel
theorem dX3_season_1 : decode cX3_season 1 = .ok (.aload_n 0, 1) := by decide +kernel
theorem dX3_season_2 : decode cX3_season 2 = .ok (.getfield 128, 3) := by decide +kernel
theorem dX3_season_5 : decode cX3_season 5 = .ok (.invokevirtual 93, 3) := by decide +kernel
theorem dX3_season_8 : decode cX3_season 8 = .ok (.ireturn, 1) := by decide +kernel
set_option maxRecDepth 20000 in
theorem ggX3_stage_X3_fine : GoodIn wsX3_stage wsX3_fine := goodIn_r _ [6, 7, 8, 9, 10, 11, 12, 13, 14, 15, 16, 17, 18, 19, 20, 21, 22, 23, 24, 25, 26, 27, 28, 29, 30, 31] (by decide +kernel) (by decide +kernel)
set_option maxRecDepth 20000 in
theorem gX3_stage_X3_fine : GoodIn wsX3_stage (wsV RX3 93 RX3 yX3_fine wsX3_fine) := goodIn_app (goodIn_of _ (by decide +kernel)) ggX3_stage_X3_fine
theorem dX3_stage_0 : decode cX3_stage 0 = .ok (.aload_n 0, 1) := by decide +kernel
theorem dX3_stage_1 : decode cX3_stage 1 = .ok (.aload_n 0, 1) := by decide +kernel
theorem dX3_stage_2 : decode cX3_stage 2 = .ok (.getfield 101, 3) := by decide +kernel
theorem dX3_stage_5 : decode cX3_stage 5 = .ok (.invokevirtual 93, 3) := by decide +kernel
theorem dX3_stage_8 : decode cX3_stage 8 = .ok (.ireturn, 1) := by decide +kernel
set_option maxRecDepth 20000 in
theorem ggX3_noFarmer_X3_isFarmer : GoodIn wsX3_noFarmer wsX3_isFarmer := goodIn_r _ [5, 6, 7, 8, 4, 9, 15, 16, 17, 18, 19, 20, 21, 22, 23, 24, 25, 26, 27, 28, 29, 30, 31, 32, 33, 34, 35, 36, 37, 38] (by decide +kernel) (by decide +kernel)
set_option maxRecDepth 20000 in
theorem gX3_noFarmer_X3_isFarmer : GoodIn wsX3_noFarmer (wsV RX3 104 RX3 yX3_isFarmer wsX3_isFarmer) := goodIn_app (goodIn_of _ (by decide +kernel)) ggX3_noFarmer_X3_isFarmer
set_option maxRecDepth 20000 in
theorem ggX3_noFarmer_X3_refused : GoodIn wsX3_noFarmer wsX3_refused := goodIn_r _ [13, 14, 15, 16, 17, 18, 19, 20, 21, 22, 23, 24, 25, 26, 27, 28, 29, 30, 31, 32, 33, 34, 35, 36, 37, 38] (by decide +kernel) (by decide +kernel)
set_option maxRecDepth 20000 in
theorem gX3_noFarmer_X3_refused : GoodIn wsX3_noFarmer (wsV RX3 86 RX3 yX3_refused wsX3_refused) := goodIn_app (goodIn_of _ (by decide +kernel)) ggX3_noFarmer_X3_refused
theorem dX3_noFarmer_0 : decode cX3_noFarmer 0 = .ok (.aload_n 0, 1) := by decide +kernel
theorem dX3_noFarmer_1 : decode cX3_noFarmer 1 = .ok (.aload_n 0, 1) := by decide +kernel
theorem dX3_noFarmer_2 : decode cX3_noFarmer 2 = .ok (.iload_n 1, 1) := by decide +kernel
theorem dX3_noFarmer_3 : decode cX3_noFarmer 3 = .ok (.invokevirtual 104, 3) := by decide +kernel
theorem dX3_noFarmer_6 : decode cX3_noFarmer 6 = .ok (.ifCond .eq 7, 3) := by decide +kernel
theorem dX3_noFarmer_9 : decode cX3_noFarmer 9 = .ok (.iconst 0, 1) := by decide +kernel
theorem dX3_noFarmer_10 : decode cX3_noFarmer 10 = .ok (.goto 4, 3) := by decide +kernel
theorem dX3_noFarmer_13 : decode cX3_noFarmer 13 = .ok (.iconst 1, 1) := by decide +kernel
theorem dX3_noFarmer_14 : decode cX3_noFarmer 14 = .ok (.invokevirtual 86, 3) := by decide +kernel
theorem dX3_noFarmer_17 : decode cX3_noFarmer 17 = .ok (.ireturn, 1) := by decide +kernel
set_option maxRecDepth 20000 in
theorem ggX3_limit_X3_noFarmer : GoodIn wsX3_limit wsX3_noFarmer := goodIn_r _ [5, 6, 7, 8, 4, 9, 10, 11, 12, 13, 14, 15, 16, 17, 18, 27, 28, 29, 30, 31, 32, 33, 34, 35, 36, 37, 38, 39, 40, 41, 42, 43, 44, 45, 46, 47, 48, 49, 50] (by decide +kernel) (by decide +kernel)
set_option maxRecDepth 20000 in
theorem gX3_limit_X3_noFarmer : GoodIn wsX3_limit (wsV RX3 140 RX3 yX3_noFarmer wsX3_noFarmer) := goodIn_app (goodIn_of _ (by decide +kernel)) ggX3_limit_X3_noFarmer
set_option maxRecDepth 20000 in
theorem ggX3_limit_X3_limitOf : GoodIn wsX3_limit wsX3_limitOf := goodIn_r _ [22, 23, 24, 25, 26, 27, 28, 29, 30, 31, 32, 33, 34, 35, 36, 37, 38, 39, 40, 41, 42, 43, 44, 45, 46, 47, 48, 49, 50] (by decide +kernel) (by decide +kernel)
set_option maxRecDepth 20000 in
theorem gX3_limit_X3_limitOf : GoodIn wsX3_limit (wsV RX3 107 RX3 yX3_limitOf wsX3_limitOf) := goodIn_app (goodIn_of _ (by decide +kernel)) ggX3_limit_X3_limitOf
theorem dX3_limit_0 : decode cX3_limit 0 = .ok (.aload_n 0, 1) := by decide +kernel
theorem dX3_limit_1 : decode cX3_limit 1 = .ok (.iload_n 1, 1) := by decide +kernel
theorem dX3_limit_2 : decode cX3_limit 2 = .ok (.invokevirtual 140, 3) := by decide +kernel
theorem dX3_limit_5 : decode cX3_limit 5 = .ok (.ifCond .eq 7, 3) := by decide +kernel
theorem dX3_limit_8 : decode cX3_limit 8 = .ok (.iconst 0, 1) := by decide +kernel
theorem dX3_limit_9 : decode cX3_limit 9 = .ok (.goto 8, 3) := by decide +kernel
theorem dX3_limit_12 : decode cX3_limit 12 = .ok (.aload_n 0, 1) := by decide +kernel
theorem dX3_limit_13 : decode cX3_limit 13 = .ok (.iload_n 1, 1) := by decide +kernel
theorem dX3_limit_14 : decode cX3_limit 14 = .ok (.invokevirtual 107, 3) := by decide +kernel
theorem dX3_limit_17 : decode cX3_limit 17 = .ok (.ireturn, 1) := by decide +kernel
set_option maxRecDepth 20000 in
theorem ggX3_debt_X3_noFarmer : GoodIn wsX3_debt wsX3_noFarmer := goodIn_r _ [6, 7, 8, 9, 5, 10, 11, 12, 13, 14, 15, 16, 17, 18, 19, 20, 21, 22, 23, 24, 25, 26, 27, 28, 29, 30, 31, 32, 33, 34, 35, 36, 37, 38, 39, 40, 41, 42, 43] (by decide +kernel) (by decide +kernel)
set_option maxRecDepth 20000 in
theorem gX3_debt_X3_noFarmer : GoodIn wsX3_debt (wsV RX3 140 RX3 yX3_noFarmer wsX3_noFarmer) := goodIn_app (goodIn_of _ (by decide +kernel)) ggX3_debt_X3_noFarmer
theorem dX3_debt_0 : decode cX3_debt 0 = .ok (.aload_n 0, 1) := by decide +kernel
theorem dX3_debt_1 : decode cX3_debt 1 = .ok (.iload_n 1, 1) := by decide +kernel
theorem dX3_debt_2 : decode cX3_debt 2 = .ok (.invokevirtual 140, 3) := by decide +kernel
theorem dX3_debt_5 : decode cX3_debt 5 = .ok (.ifCond .eq 7, 3) := by decide +kernel
theorem dX3_debt_8 : decode cX3_debt 8 = .ok (.iconst 0, 1) := by decide +kernel
theorem dX3_debt_9 : decode cX3_debt 9 = .ok (.goto 9, 3) := by decide +kernel
theorem dX3_debt_12 : decode cX3_debt 12 = .ok (.aload_n 0, 1) := by decide +kernel
theorem dX3_debt_13 : decode cX3_debt 13 = .ok (.getfield 25, 3) := by decide +kernel
theorem dX3_debt_16 : decode cX3_debt 16 = .ok (.iload_n 1, 1) := by decide +kernel
theorem dX3_debt_17 : decode cX3_debt 17 = .ok (.iaload, 1) := by decide +kernel
theorem dX3_debt_18 : decode cX3_debt 18 = .ok (.ireturn, 1) := by decide +kernel
set_option maxRecDepth 20000 in
theorem ggX3_owes_X3_noFarmer : GoodIn wsX3_owes wsX3_noFarmer := goodIn_r _ [9, 10, 11, 12, 8, 13, 14, 15, 16, 17, 18, 19, 20, 21, 22, 23, 24, 25, 26, 27, 28, 29, 30, 31, 32, 33, 34, 35, 36, 37, 38, 39, 40, 41, 42, 43, 44, 45, 46] (by decide +kernel) (by decide +kernel)
set_option maxRecDepth 20000 in
theorem gX3_owes_X3_noFarmer : GoodIn wsX3_owes (wsV RX3 140 RX3 yX3_noFarmer wsX3_noFarmer) := goodIn_app (goodIn_of _ (by decide +kernel)) ggX3_owes_X3_noFarmer
theorem dX3_owes_0 : decode cX3_owes 0 = .ok (.aload_n 0, 1) := by decide +kernel
theorem dX3_owes_1 : decode cX3_owes 1 = .ok (.iload_n 1, 1) := by decide +kernel
theorem dX3_owes_2 : decode cX3_owes 2 = .ok (.invokevirtual 140, 3) := by decide +kernel
theorem dX3_owes_5 : decode cX3_owes 5 = .ok (.ifCond .eq 5, 3) := by decide +kernel
theorem dX3_owes_8 : decode cX3_owes 8 = .ok (.iconst 0, 1) := by decide +kernel
theorem dX3_owes_9 : decode cX3_owes 9 = .ok (.ireturn, 1) := by decide +kernel
theorem dX3_owes_10 : decode cX3_owes 10 = .ok (.aload_n 0, 1) := by decide +kernel
theorem dX3_owes_11 : decode cX3_owes 11 = .ok (.getfield 25, 3) := by decide +kernel
theorem dX3_owes_14 : decode cX3_owes 14 = .ok (.iload_n 1, 1) := by decide +kernel
theorem dX3_owes_15 : decode cX3_owes 15 = .ok (.iaload, 1) := by decide +kernel
theorem dX3_owes_16 : decode cX3_owes 16 = .ok (.aload_n 0, 1) := by decide +kernel
theorem dX3_owes_17 : decode cX3_owes 17 = .ok (.getfield 37, 3) := by decide +kernel
theorem dX3_owes_20 : decode cX3_owes 20 = .ok (.iload_n 1, 1) := by decide +kernel
theorem dX3_owes_21 : decode cX3_owes 21 = .ok (.iaload, 1) := by decide +kernel
theorem dX3_owes_22 : decode cX3_owes 22 = .ok (.iadd, 1) := by decide +kernel
theorem dX3_owes_23 : decode cX3_owes 23 = .ok (.istore_n 2, 1) := by decide +kernel
theorem dX3_owes_24 : decode cX3_owes 24 = .ok (.iconst 0, 1) := by decide +kernel
theorem dX3_owes_25 : decode cX3_owes 25 = .ok (.istore_n 3, 1) := by decide +kernel
theorem dX3_owes_26 : decode cX3_owes 26 = .ok (.iload_n 3, 1) := by decide +kernel
theorem dX3_owes_27 : decode cX3_owes 27 = .ok (.aload_n 0, 1) := by decide +kernel
theorem dX3_owes_28 : decode cX3_owes 28 = .ok (.getfield 40, 3) := by decide +kernel
theorem dX3_owes_31 : decode cX3_owes 31 = .ok (.iload_n 1, 1) := by decide +kernel
theorem dX3_owes_32 : decode cX3_owes 32 = .ok (.iaload, 1) := by decide +kernel
theorem dX3_owes_33 : decode cX3_owes 33 = .ok (.if_icmp .ge 22, 3) := by decide +kernel
theorem dX3_owes_36 : decode cX3_owes 36 = .ok (.iload_n 2, 1) := by decide +kernel
theorem dX3_owes_37 : decode cX3_owes 37 = .ok (.aload_n 0, 1) := by decide +kernel
theorem dX3_owes_38 : decode cX3_owes 38 = .ok (.getfield 43, 3) := by decide +kernel
theorem dX3_owes_41 : decode cX3_owes 41 = .ok (.iconst 3, 1) := by decide +kernel
theorem dX3_owes_42 : decode cX3_owes 42 = .ok (.iload_n 1, 1) := by decide +kernel
theorem dX3_owes_43 : decode cX3_owes 43 = .ok (.imul, 1) := by decide +kernel
theorem dX3_owes_44 : decode cX3_owes 44 = .ok (.iload_n 3, 1) := by decide +kernel
theorem dX3_owes_45 : decode cX3_owes 45 = .ok (.iadd, 1) := by decide +kernel
theorem dX3_owes_46 : decode cX3_owes 46 = .ok (.iaload, 1) := by decide +kernel
theorem dX3_owes_47 : decode cX3_owes 47 = .ok (.iadd, 1) := by decide +kernel
theorem dX3_owes_48 : decode cX3_owes 48 = .ok (.istore_n 2, 1) := by decide +kernel
theorem dX3_owes_49 : decode cX3_owes 49 = .ok (.iinc 3 1, 3) := by decide +kernel
theorem dX3_owes_52 : decode cX3_owes 52 = .ok (.goto (-26), 3) := by decide +kernel
theorem dX3_owes_55 : decode cX3_owes 55 = .ok (.iload_n 2, 1) := by decide +kernel
theorem dX3_owes_56 : decode cX3_owes 56 = .ok (.ireturn, 1) := by decide +kernel
set_option maxRecDepth 20000 in
theorem ggX3_instalments_X3_noFarmer : GoodIn wsX3_instalments wsX3_noFarmer := goodIn_r _ [6, 7, 8, 9, 5, 10, 11, 12, 13, 14, 15, 16, 17, 18, 19, 20, 21, 22, 23, 24, 25, 26, 27, 28, 29, 30, 31, 32, 33, 34, 35, 36, 37, 38, 39, 40, 41, 42, 43] (by decide +kernel) (by decide +kernel)
set_option maxRecDepth 20000 in
theorem gX3_instalments_X3_noFarmer : GoodIn wsX3_instalments (wsV RX3 140 RX3 yX3_noFarmer wsX3_noFarmer) := goodIn_app (goodIn_of _ (by decide +kernel)) ggX3_instalments_X3_noFarmer
theorem dX3_instalments_0 : decode cX3_instalments 0 = .ok (.aload_n 0, 1) := by decide +kernel
theorem dX3_instalments_1 : decode cX3_instalments 1 = .ok (.iload_n 1, 1) := by decide +kernel
theorem dX3_instalments_2 : decode cX3_instalments 2 = .ok (.invokevirtual 140, 3) := by decide +kernel
theorem dX3_instalments_5 : decode cX3_instalments 5 = .ok (.ifCond .eq 7, 3) := by decide +kernel
theorem dX3_instalments_8 : decode cX3_instalments 8 = .ok (.iconst 0, 1) := by decide +kernel
theorem dX3_instalments_9 : decode cX3_instalments 9 = .ok (.goto 9, 3) := by decide +kernel
theorem dX3_instalments_12 : decode cX3_instalments 12 = .ok (.aload_n 0, 1) := by decide +kernel
theorem dX3_instalments_13 : decode cX3_instalments 13 = .ok (.getfield 40, 3) := by decide +kernel
theorem dX3_instalments_16 : decode cX3_instalments 16 = .ok (.iload_n 1, 1) := by decide +kernel
theorem dX3_instalments_17 : decode cX3_instalments 17 = .ok (.iaload, 1) := by decide +kernel
theorem dX3_instalments_18 : decode cX3_instalments 18 = .ok (.ireturn, 1) := by decide +kernel
set_option maxRecDepth 20000 in
theorem ggX3_purse_X3_noFarmer : GoodIn wsX3_purse wsX3_noFarmer := goodIn_r _ [6, 7, 8, 9, 5, 10, 11, 12, 13, 14, 15, 16, 17, 18, 19, 20, 21, 22, 23, 24, 25, 26, 27, 28, 29, 30, 31, 32, 33, 34, 35, 36, 37, 38, 39, 40, 41, 42, 43] (by decide +kernel) (by decide +kernel)
set_option maxRecDepth 20000 in
theorem gX3_purse_X3_noFarmer : GoodIn wsX3_purse (wsV RX3 140 RX3 yX3_noFarmer wsX3_noFarmer) := goodIn_app (goodIn_of _ (by decide +kernel)) ggX3_purse_X3_noFarmer
theorem dX3_purse_0 : decode cX3_purse 0 = .ok (.aload_n 0, 1) := by decide +kernel
theorem dX3_purse_1 : decode cX3_purse 1 = .ok (.iload_n 1, 1) := by decide +kernel
theorem dX3_purse_2 : decode cX3_purse 2 = .ok (.invokevirtual 140, 3) := by decide +kernel
theorem dX3_purse_5 : decode cX3_purse 5 = .ok (.ifCond .eq 7, 3) := by decide +kernel
theorem dX3_purse_8 : decode cX3_purse 8 = .ok (.iconst 0, 1) := by decide +kernel
theorem dX3_purse_9 : decode cX3_purse 9 = .ok (.goto 9, 3) := by decide +kernel
theorem dX3_purse_12 : decode cX3_purse 12 = .ok (.aload_n 0, 1) := by decide +kernel
theorem dX3_purse_13 : decode cX3_purse 13 = .ok (.getfield 22, 3) := by decide +kernel
theorem dX3_purse_16 : decode cX3_purse 16 = .ok (.iload_n 1, 1) := by decide +kernel
theorem dX3_purse_17 : decode cX3_purse 17 = .ok (.iaload, 1) := by decide +kernel
theorem dX3_purse_18 : decode cX3_purse 18 = .ok (.ireturn, 1) := by decide +kernel
set_option maxRecDepth 20000 in
theorem ggX3_grain_X3_noFarmer : GoodIn wsX3_grain wsX3_noFarmer := goodIn_r _ [7, 8, 9, 10, 6, 11, 12, 13, 14, 15, 16, 17, 18, 19, 20, 21, 22, 23, 24, 25, 26, 27, 28, 29, 30, 31, 32, 33, 34, 35, 36, 37, 38, 39, 40, 41, 42, 43, 44] (by decide +kernel) (by decide +kernel)
set_option maxRecDepth 20000 in
theorem gX3_grain_X3_noFarmer : GoodIn wsX3_grain (wsV RX3 140 RX3 yX3_noFarmer wsX3_noFarmer) := goodIn_app (goodIn_of _ (by decide +kernel)) ggX3_grain_X3_noFarmer
theorem dX3_grain_0 : decode cX3_grain 0 = .ok (.aload_n 0, 1) := by decide +kernel
theorem dX3_grain_1 : decode cX3_grain 1 = .ok (.iload_n 1, 1) := by decide +kernel
theorem dX3_grain_2 : decode cX3_grain 2 = .ok (.invokevirtual 140, 3) := by decide +kernel
theorem dX3_grain_5 : decode cX3_grain 5 = .ok (.ifCond .eq 7, 3) := by decide +kernel
theorem dX3_grain_8 : decode cX3_grain 8 = .ok (.iconst 0, 1) := by decide +kernel
theorem dX3_grain_9 : decode cX3_grain 9 = .ok (.goto 22, 3) := by decide +kernel
theorem dX3_grain_12 : decode cX3_grain 12 = .ok (.iload_n 2, 1) := by decide +kernel
theorem dX3_grain_13 : decode cX3_grain 13 = .ok (.ifCond .eq 12, 3) := by decide +kernel
theorem dX3_grain_16 : decode cX3_grain 16 = .ok (.aload_n 0, 1) := by decide +kernel
theorem dX3_grain_17 : decode cX3_grain 17 = .ok (.getfield 34, 3) := by decide +kernel
theorem dX3_grain_20 : decode cX3_grain 20 = .ok (.iload_n 1, 1) := by decide +kernel
theorem dX3_grain_21 : decode cX3_grain 21 = .ok (.iaload, 1) := by decide +kernel
theorem dX3_grain_22 : decode cX3_grain 22 = .ok (.goto 9, 3) := by decide +kernel
theorem dX3_grain_25 : decode cX3_grain 25 = .ok (.aload_n 0, 1) := by decide +kernel
theorem dX3_grain_26 : decode cX3_grain 26 = .ok (.getfield 31, 3) := by decide +kernel
theorem dX3_grain_29 : decode cX3_grain 29 = .ok (.iload_n 1, 1) := by decide +kernel
theorem dX3_grain_30 : decode cX3_grain 30 = .ok (.iaload, 1) := by decide +kernel
theorem dX3_grain_31 : decode cX3_grain 31 = .ok (.ireturn, 1) := by decide +kernel
set_option maxRecDepth 20000 in
theorem ggX3_called_X3_noFarmer : GoodIn wsX3_called wsX3_noFarmer := goodIn_r _ [6, 7, 8, 9, 5, 10, 11, 12, 13, 14, 15, 16, 17, 18, 19, 20, 21, 22, 23, 24, 25, 26, 27, 28, 29, 30, 31, 32, 33, 34, 35, 36, 37, 38, 39, 40, 41, 42, 43] (by decide +kernel) (by decide +kernel)
set_option maxRecDepth 20000 in
theorem gX3_called_X3_noFarmer : GoodIn wsX3_called (wsV RX3 140 RX3 yX3_noFarmer wsX3_noFarmer) := goodIn_app (goodIn_of _ (by decide +kernel)) ggX3_called_X3_noFarmer
theorem dX3_called_0 : decode cX3_called 0 = .ok (.aload_n 0, 1) := by decide +kernel
theorem dX3_called_1 : decode cX3_called 1 = .ok (.iload_n 1, 1) := by decide +kernel
theorem dX3_called_2 : decode cX3_called 2 = .ok (.invokevirtual 140, 3) := by decide +kernel
theorem dX3_called_5 : decode cX3_called 5 = .ok (.ifCond .eq 7, 3) := by decide +kernel
theorem dX3_called_8 : decode cX3_called 8 = .ok (.iconst 0, 1) := by decide +kernel
theorem dX3_called_9 : decode cX3_called 9 = .ok (.goto 9, 3) := by decide +kernel
theorem dX3_called_12 : decode cX3_called 12 = .ok (.aload_n 0, 1) := by decide +kernel
theorem dX3_called_13 : decode cX3_called 13 = .ok (.getfield 61, 3) := by decide +kernel
theorem dX3_called_16 : decode cX3_called 16 = .ok (.iload_n 1, 1) := by decide +kernel
theorem dX3_called_17 : decode cX3_called 17 = .ok (.iaload, 1) := by decide +kernel
theorem dX3_called_18 : decode cX3_called 18 = .ok (.ireturn, 1) := by decide +kernel
set_option maxRecDepth 20000 in
theorem ggX3_repaid_X3_isFarmer : GoodIn wsX3_repaid wsX3_isFarmer := goodIn_r _ [6, 7, 8, 9, 5, 10, 16, 17, 18, 19, 20, 21, 22, 23, 24, 25, 26, 27, 28, 29, 30, 31, 32, 33, 34, 35, 36, 37, 38, 39] (by decide +kernel) (by decide +kernel)
set_option maxRecDepth 20000 in
theorem gX3_repaid_X3_isFarmer : GoodIn wsX3_repaid (wsV RX3 104 RX3 yX3_isFarmer wsX3_isFarmer) := goodIn_app (goodIn_of _ (by decide +kernel)) ggX3_repaid_X3_isFarmer
set_option maxRecDepth 20000 in
theorem ggX3_repaid_X3_in : GoodIn wsX3_repaid wsX3_in := goodIn_r _ [10] (by decide +kernel) (by decide +kernel)
set_option maxRecDepth 20000 in
theorem gX3_repaid_X3_in : GoodIn wsX3_repaid (va_wsS RX3 74 yX3_in wsX3_in) := goodIn_app (goodIn_of _ (by decide +kernel)) ggX3_repaid_X3_in
set_option maxRecDepth 20000 in
theorem ggX3_repaid_X3_refused : GoodIn wsX3_repaid wsX3_refused := goodIn_r _ [14, 15, 16, 17, 18, 19, 20, 21, 22, 23, 24, 25, 26, 27, 28, 29, 30, 31, 32, 33, 34, 35, 36, 37, 38, 39] (by decide +kernel) (by decide +kernel)
set_option maxRecDepth 20000 in
theorem gX3_repaid_X3_refused : GoodIn wsX3_repaid (wsV RX3 86 RX3 yX3_refused wsX3_refused) := goodIn_app (goodIn_of _ (by decide +kernel)) ggX3_repaid_X3_refused
theorem dX3_repaid_0 : decode cX3_repaid 0 = .ok (.aload_n 0, 1) := by decide +kernel
theorem dX3_repaid_1 : decode cX3_repaid 1 = .ok (.aload_n 0, 1) := by decide +kernel
theorem dX3_repaid_2 : decode cX3_repaid 2 = .ok (.iload_n 1, 1) := by decide +kernel
theorem dX3_repaid_3 : decode cX3_repaid 3 = .ok (.invokevirtual 104, 3) := by decide +kernel
theorem dX3_repaid_6 : decode cX3_repaid 6 = .ok (.ifCond .ne 7, 3) := by decide +kernel
theorem dX3_repaid_9 : decode cX3_repaid 9 = .ok (.iconst 1, 1) := by decide +kernel
theorem dX3_repaid_10 : decode cX3_repaid 10 = .ok (.goto 17, 3) := by decide +kernel
theorem dX3_repaid_13 : decode cX3_repaid 13 = .ok (.iload_n 2, 1) := by decide +kernel
theorem dX3_repaid_14 : decode cX3_repaid 14 = .ok (.iconst 0, 1) := by decide +kernel
theorem dX3_repaid_15 : decode cX3_repaid 15 = .ok (.iconst 4, 1) := by decide +kernel
theorem dX3_repaid_16 : decode cX3_repaid 16 = .ok (.invokestatic 74, 3) := by decide +kernel
theorem dX3_repaid_19 : decode cX3_repaid 19 = .ok (.ifCond .eq 7, 3) := by decide +kernel
theorem dX3_repaid_22 : decode cX3_repaid 22 = .ok (.iconst 0, 1) := by decide +kernel
theorem dX3_repaid_23 : decode cX3_repaid 23 = .ok (.goto 4, 3) := by decide +kernel
theorem dX3_repaid_26 : decode cX3_repaid 26 = .ok (.iconst 2, 1) := by decide +kernel
theorem dX3_repaid_27 : decode cX3_repaid 27 = .ok (.invokevirtual 86, 3) := by decide +kernel
theorem dX3_repaid_30 : decode cX3_repaid 30 = .ok (.ifCond .eq 7, 3) := by decide +kernel
theorem dX3_repaid_33 : decode cX3_repaid 33 = .ok (.iconst 0, 1) := by decide +kernel
theorem dX3_repaid_34 : decode cX3_repaid 34 = .ok (.goto 13, 3) := by decide +kernel
theorem dX3_repaid_37 : decode cX3_repaid 37 = .ok (.aload_n 0, 1) := by decide +kernel
theorem dX3_repaid_38 : decode cX3_repaid 38 = .ok (.getfield 64, 3) := by decide +kernel
theorem dX3_repaid_41 : decode cX3_repaid 41 = .ok (.iconst 5, 1) := by decide +kernel
theorem dX3_repaid_42 : decode cX3_repaid 42 = .ok (.iload_n 1, 1) := by decide +kernel
theorem dX3_repaid_43 : decode cX3_repaid 43 = .ok (.imul, 1) := by decide +kernel
theorem dX3_repaid_44 : decode cX3_repaid 44 = .ok (.iload_n 2, 1) := by decide +kernel
theorem dX3_repaid_45 : decode cX3_repaid 45 = .ok (.iadd, 1) := by decide +kernel
theorem dX3_repaid_46 : decode cX3_repaid 46 = .ok (.iaload, 1) := by decide +kernel
theorem dX3_repaid_47 : decode cX3_repaid 47 = .ok (.ireturn, 1) := by decide +kernel
set_option maxRecDepth 20000 in
theorem ggX3_charged_X3_noFarmer : GoodIn wsX3_charged wsX3_noFarmer := goodIn_r _ [6, 7, 8, 9, 5, 10, 11, 12, 13, 14, 15, 16, 17, 18, 19, 20, 21, 22, 23, 24, 25, 26, 27, 28, 29, 30, 31, 32, 33, 34, 35, 36, 37, 38, 39, 40, 41, 42, 43] (by decide +kernel) (by decide +kernel)
set_option maxRecDepth 20000 in
theorem gX3_charged_X3_noFarmer : GoodIn wsX3_charged (wsV RX3 140 RX3 yX3_noFarmer wsX3_noFarmer) := goodIn_app (goodIn_of _ (by decide +kernel)) ggX3_charged_X3_noFarmer
theorem dX3_charged_0 : decode cX3_charged 0 = .ok (.aload_n 0, 1) := by decide +kernel
theorem dX3_charged_1 : decode cX3_charged 1 = .ok (.iload_n 1, 1) := by decide +kernel
theorem dX3_charged_2 : decode cX3_charged 2 = .ok (.invokevirtual 140, 3) := by decide +kernel
theorem dX3_charged_5 : decode cX3_charged 5 = .ok (.ifCond .eq 7, 3) := by decide +kernel
theorem dX3_charged_8 : decode cX3_charged 8 = .ok (.iconst 0, 1) := by decide +kernel
theorem dX3_charged_9 : decode cX3_charged 9 = .ok (.goto 9, 3) := by decide +kernel
theorem dX3_charged_12 : decode cX3_charged 12 = .ok (.aload_n 0, 1) := by decide +kernel
theorem dX3_charged_13 : decode cX3_charged 13 = .ok (.getfield 67, 3) := by decide +kernel
theorem dX3_charged_16 : decode cX3_charged 16 = .ok (.iload_n 1, 1) := by decide +kernel
theorem dX3_charged_17 : decode cX3_charged 17 = .ok (.iaload, 1) := by decide +kernel
theorem dX3_charged_18 : decode cX3_charged 18 = .ok (.ireturn, 1) := by decide +kernel
end
section
set_option maxRecDepth 20000 in
theorem ggL_setNeed_X2_setNeed : GoodIn wsL_setNeed wsX2_setNeed := goodIn_ca (goodIn_ca (goodIn_r _ [7, 8, 9, 10, 11, 12, 13, 14, 6, 15, 16, 17, 18, 19, 20, 21, 22, 23, 24, 25, 26, 27, 28, 29] (by decide +kernel) (by decide +kernel)) (goodIn_sub (fun _ h => List.mem_cons_of_mem _ (List.mem_append_left _ (List.mem_append_right _ h))) (by decide +kernel))) (goodIn_sub (fun _ h => List.mem_cons_of_mem _ (List.mem_append_right _ h)) (by decide +kernel))
set_option maxRecDepth 20000 in
theorem gL_setNeed_X2_setNeed : GoodIn wsL_setNeed (wsV RL 7 RX2 yX2_setNeed wsX2_setNeed) := goodIn_app (goodIn_of _ (by decide +kernel)) ggL_setNeed_X2_setNeed
theorem dL_setNeed_0 : decode cL_setNeed 0 = .ok (.aload 4, 2) := by decide +kernel
theorem dL_setNeed_2 : decode cL_setNeed 2 = .ok (.iconst 0, 1) := by decide +kernel
theorem dL_setNeed_3 : decode cL_setNeed 3 = .ok (.aload_n 0, 1) := by decide +kernel
theorem dL_setNeed_4 : decode cL_setNeed 4 = .ok (.iload_n 1, 1) := by decide +kernel
theorem dL_setNeed_5 : decode cL_setNeed 5 = .ok (.iload_n 2, 1) := by decide +kernel
theorem dL_setNeed_6 : decode cL_setNeed 6 = .ok (.iload_n 3, 1) := by decide +kernel
theorem dL_setNeed_7 : decode cL_setNeed 7 = .ok (.invokevirtual 7, 3) := by decide +kernel
theorem dL_setNeed_10 : decode cL_setNeed 10 = .ok (.i2l, 1) := by decide +kernel
theorem dL_setNeed_11 : decode cL_setNeed 11 = .ok (.lastore, 1) := by decide +kernel
theorem dL_setNeed_12 : decode cL_setNeed 12 = .ok (.goto 11, 3) := by decide +kernel
theorem dL_setNeed_15 : decode cL_setNeed 15 = .ok (.astore 5, 2) := by decide +kernel
theorem dL_setNeed_17 : decode cL_setNeed 17 = .ok (.iconst 1, 1) := by decide +kernel
theorem dL_setNeed_18 : decode cL_setNeed 18 = .ok (.ireturn, 1) := by decide +kernel
theorem dL_setNeed_19 : decode cL_setNeed 19 = .ok (.astore 5, 2) := by decide +kernel
theorem dL_setNeed_21 : decode cL_setNeed 21 = .ok (.iconst 2, 1) := by decide +kernel
theorem dL_setNeed_22 : decode cL_setNeed 22 = .ok (.ireturn, 1) := by decide +kernel
theorem dL_setNeed_23 : decode cL_setNeed 23 = .ok (.iconst 0, 1) := by decide +kernel
theorem dL_setNeed_24 : decode cL_setNeed 24 = .ok (.ireturn, 1) := by decide +kernel
set_option maxRecDepth 20000 in
theorem ggL_setCrop_X2_setCrop : GoodIn wsL_setCrop wsX2_setCrop := goodIn_ca (goodIn_ca (goodIn_r _ [7, 8, 9, 10, 11, 12, 6, 13, 14, 15, 16, 17, 18, 19, 20, 21, 22, 23, 24, 25, 26, 27, 28, 29] (by decide +kernel) (by decide +kernel)) (goodIn_sub (fun _ h => List.mem_cons_of_mem _ (List.mem_append_left _ (List.mem_append_right _ h))) (by decide +kernel))) (goodIn_sub (fun _ h => List.mem_cons_of_mem _ (List.mem_append_right _ h)) (by decide +kernel))
set_option maxRecDepth 20000 in
theorem gL_setCrop_X2_setCrop : GoodIn wsL_setCrop (wsV RL 17 RX2 yX2_setCrop wsX2_setCrop) := goodIn_app (goodIn_of _ (by decide +kernel)) ggL_setCrop_X2_setCrop
theorem dL_setCrop_0 : decode cL_setCrop 0 = .ok (.aload 4, 2) := by decide +kernel
theorem dL_setCrop_2 : decode cL_setCrop 2 = .ok (.iconst 0, 1) := by decide +kernel
theorem dL_setCrop_3 : decode cL_setCrop 3 = .ok (.aload_n 0, 1) := by decide +kernel
theorem dL_setCrop_4 : decode cL_setCrop 4 = .ok (.iload_n 1, 1) := by decide +kernel
theorem dL_setCrop_5 : decode cL_setCrop 5 = .ok (.iload_n 2, 1) := by decide +kernel
theorem dL_setCrop_6 : decode cL_setCrop 6 = .ok (.iload_n 3, 1) := by decide +kernel
theorem dL_setCrop_7 : decode cL_setCrop 7 = .ok (.invokevirtual 17, 3) := by decide +kernel
theorem dL_setCrop_10 : decode cL_setCrop 10 = .ok (.i2l, 1) := by decide +kernel
theorem dL_setCrop_11 : decode cL_setCrop 11 = .ok (.lastore, 1) := by decide +kernel
theorem dL_setCrop_12 : decode cL_setCrop 12 = .ok (.goto 11, 3) := by decide +kernel
theorem dL_setCrop_15 : decode cL_setCrop 15 = .ok (.astore 5, 2) := by decide +kernel
theorem dL_setCrop_17 : decode cL_setCrop 17 = .ok (.iconst 1, 1) := by decide +kernel
theorem dL_setCrop_18 : decode cL_setCrop 18 = .ok (.ireturn, 1) := by decide +kernel
theorem dL_setCrop_19 : decode cL_setCrop 19 = .ok (.astore 5, 2) := by decide +kernel
theorem dL_setCrop_21 : decode cL_setCrop 21 = .ok (.iconst 2, 1) := by decide +kernel
theorem dL_setCrop_22 : decode cL_setCrop 22 = .ok (.ireturn, 1) := by decide +kernel
theorem dL_setCrop_23 : decode cL_setCrop 23 = .ok (.iconst 0, 1) := by decide +kernel
theorem dL_setCrop_24 : decode cL_setCrop 24 = .ok (.ireturn, 1) := by decide +kernel
set_option maxRecDepth 20000 in
theorem ggL_add_X2_add : GoodIn wsL_add wsX2_add := goodIn_ca (goodIn_ca (goodIn_r _ [7, 8, 9, 10, 11, 12, 13, 14, 6, 15, 16, 17, 18, 19, 20, 21, 22, 23, 24, 25, 26, 27, 28, 29, 30, 31, 32, 33, 34, 35, 36, 37, 38, 39] (by decide +kernel) (by decide +kernel)) (goodIn_sub (fun _ h => List.mem_cons_of_mem _ (List.mem_append_left _ (List.mem_append_right _ h))) (by decide +kernel))) (goodIn_sub (fun _ h => List.mem_cons_of_mem _ (List.mem_append_right _ h)) (by decide +kernel))
set_option maxRecDepth 20000 in
theorem gL_add_X2_add : GoodIn wsL_add (wsV RL 20 RX2 yX2_add wsX2_add) := goodIn_app (goodIn_of _ (by decide +kernel)) ggL_add_X2_add
theorem dL_add_0 : decode cL_add 0 = .ok (.aload_n 2, 1) := by decide +kernel
theorem dL_add_1 : decode cL_add 1 = .ok (.iconst 0, 1) := by decide +kernel
theorem dL_add_2 : decode cL_add 2 = .ok (.aload_n 0, 1) := by decide +kernel
theorem dL_add_3 : decode cL_add 3 = .ok (.iload_n 1, 1) := by decide +kernel
theorem dL_add_4 : decode cL_add 4 = .ok (.invokevirtual 20, 3) := by decide +kernel
theorem dL_add_7 : decode cL_add 7 = .ok (.i2l, 1) := by decide +kernel
theorem dL_add_8 : decode cL_add 8 = .ok (.lastore, 1) := by decide +kernel
theorem dL_add_9 : decode cL_add 9 = .ok (.goto 9, 3) := by decide +kernel
theorem dL_add_12 : decode cL_add 12 = .ok (.astore_n 3, 1) := by decide +kernel
theorem dL_add_13 : decode cL_add 13 = .ok (.iconst 1, 1) := by decide +kernel
theorem dL_add_14 : decode cL_add 14 = .ok (.ireturn, 1) := by decide +kernel
theorem dL_add_15 : decode cL_add 15 = .ok (.astore_n 3, 1) := by decide +kernel
theorem dL_add_16 : decode cL_add 16 = .ok (.iconst 2, 1) := by decide +kernel
theorem dL_add_17 : decode cL_add 17 = .ok (.ireturn, 1) := by decide +kernel
theorem dL_add_18 : decode cL_add 18 = .ok (.iconst 0, 1) := by decide +kernel
theorem dL_add_19 : decode cL_add 19 = .ok (.ireturn, 1) := by decide +kernel
set_option maxRecDepth 20000 in
theorem ggL_plant_X2_plant : GoodIn wsL_plant wsX2_plant := goodIn_ca (goodIn_ca (goodIn_ca (goodIn_r _ [8, 9, 10, 11, 12, 13, 14, 15, 16, 7, 17, 18, 19, 20, 21, 22, 23, 24, 25, 26, 27, 28, 29, 30, 31, 32, 33, 34, 35, 36, 37, 38, 39, 40, 41, 42, 43, 44, 45, 46, 47, 48, 49, 50, 51, 52, 53, 54, 55, 56, 57, 58, 59, 60, 61, 62, 63, 64, 65, 66, 67, 68, 69, 70, 71, 72, 73] (by decide +kernel) (by decide +kernel)) (goodIn_sub (fun _ h => List.mem_cons_of_mem _ (List.mem_append_left _ (List.mem_append_left _ (List.mem_append_right _ h)))) (by decide +kernel))) (goodIn_sub (fun _ h => List.mem_cons_of_mem _ (List.mem_append_left _ (List.mem_append_right _ h))) (by decide +kernel))) (goodIn_sub (fun _ h => List.mem_cons_of_mem _ (List.mem_append_right _ h)) (by decide +kernel))
set_option maxRecDepth 20000 in
theorem gL_plant_X2_plant : GoodIn wsL_plant (wsV RL 26 RX2 yX2_plant wsX2_plant) := goodIn_app (goodIn_of _ (by decide +kernel)) ggL_plant_X2_plant
theorem dL_plant_0 : decode cL_plant 0 = .ok (.aload 4, 2) := by decide +kernel
theorem dL_plant_2 : decode cL_plant 2 = .ok (.iconst 0, 1) := by decide +kernel
theorem dL_plant_3 : decode cL_plant 3 = .ok (.aload_n 0, 1) := by decide +kernel
theorem dL_plant_4 : decode cL_plant 4 = .ok (.iload_n 1, 1) := by decide +kernel
theorem dL_plant_5 : decode cL_plant 5 = .ok (.iload_n 2, 1) := by decide +kernel
theorem dL_plant_6 : decode cL_plant 6 = .ok (.iload_n 3, 1) := by decide +kernel
theorem dL_plant_7 : decode cL_plant 7 = .ok (.invokevirtual 26, 3) := by decide +kernel
theorem dL_plant_10 : decode cL_plant 10 = .ok (.i2l, 1) := by decide +kernel
theorem dL_plant_11 : decode cL_plant 11 = .ok (.lastore, 1) := by decide +kernel
theorem dL_plant_12 : decode cL_plant 12 = .ok (.goto 15, 3) := by decide +kernel
theorem dL_plant_15 : decode cL_plant 15 = .ok (.astore 5, 2) := by decide +kernel
theorem dL_plant_17 : decode cL_plant 17 = .ok (.iconst 1, 1) := by decide +kernel
theorem dL_plant_18 : decode cL_plant 18 = .ok (.ireturn, 1) := by decide +kernel
theorem dL_plant_19 : decode cL_plant 19 = .ok (.astore 5, 2) := by decide +kernel
theorem dL_plant_21 : decode cL_plant 21 = .ok (.iconst 2, 1) := by decide +kernel
theorem dL_plant_22 : decode cL_plant 22 = .ok (.ireturn, 1) := by decide +kernel
theorem dL_plant_23 : decode cL_plant 23 = .ok (.astore 5, 2) := by decide +kernel
theorem dL_plant_25 : decode cL_plant 25 = .ok (.iconst 3, 1) := by decide +kernel
theorem dL_plant_26 : decode cL_plant 26 = .ok (.ireturn, 1) := by decide +kernel
theorem dL_plant_27 : decode cL_plant 27 = .ok (.iconst 0, 1) := by decide +kernel
theorem dL_plant_28 : decode cL_plant 28 = .ok (.ireturn, 1) := by decide +kernel
set_option maxRecDepth 20000 in
theorem ggL_cover_X2_cover : GoodIn wsL_cover wsX2_cover := goodIn_ca (goodIn_ca (goodIn_ca (goodIn_r _ [8, 9, 10, 11, 12, 13, 7, 14, 15, 16, 17, 18, 19, 20, 21, 22, 23, 24, 25, 26, 27, 28, 29, 30, 31, 32, 33, 34, 35, 36, 37, 38, 39, 40, 41, 42, 43, 44, 45, 46, 47, 48, 49, 50, 51, 52, 53, 54, 55, 56] (by decide +kernel) (by decide +kernel)) (goodIn_sub (fun _ h => List.mem_cons_of_mem _ (List.mem_append_left _ (List.mem_append_left _ (List.mem_append_right _ h)))) (by decide +kernel))) (goodIn_sub (fun _ h => List.mem_cons_of_mem _ (List.mem_append_left _ (List.mem_append_right _ h))) (by decide +kernel))) (goodIn_sub (fun _ h => List.mem_cons_of_mem _ (List.mem_append_right _ h)) (by decide +kernel))
set_option maxRecDepth 20000 in
theorem gL_cover_X2_cover : GoodIn wsL_cover (wsV RL 29 RX2 yX2_cover wsX2_cover) := goodIn_app (goodIn_of _ (by decide +kernel)) ggL_cover_X2_cover
theorem dL_cover_0 : decode cL_cover 0 = .ok (.aload_n 3, 1) := by decide +kernel
theorem dL_cover_1 : decode cL_cover 1 = .ok (.iconst 0, 1) := by decide +kernel
theorem dL_cover_2 : decode cL_cover 2 = .ok (.aload_n 0, 1) := by decide +kernel
theorem dL_cover_3 : decode cL_cover 3 = .ok (.iload_n 1, 1) := by decide +kernel
theorem dL_cover_4 : decode cL_cover 4 = .ok (.iload_n 2, 1) := by decide +kernel
theorem dL_cover_5 : decode cL_cover 5 = .ok (.invokevirtual 29, 3) := by decide +kernel
theorem dL_cover_8 : decode cL_cover 8 = .ok (.i2l, 1) := by decide +kernel
theorem dL_cover_9 : decode cL_cover 9 = .ok (.lastore, 1) := by decide +kernel
theorem dL_cover_10 : decode cL_cover 10 = .ok (.goto 15, 3) := by decide +kernel
theorem dL_cover_13 : decode cL_cover 13 = .ok (.astore 4, 2) := by decide +kernel
theorem dL_cover_15 : decode cL_cover 15 = .ok (.iconst 1, 1) := by decide +kernel
theorem dL_cover_16 : decode cL_cover 16 = .ok (.ireturn, 1) := by decide +kernel
theorem dL_cover_17 : decode cL_cover 17 = .ok (.astore 4, 2) := by decide +kernel
theorem dL_cover_19 : decode cL_cover 19 = .ok (.iconst 2, 1) := by decide +kernel
theorem dL_cover_20 : decode cL_cover 20 = .ok (.ireturn, 1) := by decide +kernel
theorem dL_cover_21 : decode cL_cover 21 = .ok (.astore 4, 2) := by decide +kernel
theorem dL_cover_23 : decode cL_cover 23 = .ok (.iconst 3, 1) := by decide +kernel
theorem dL_cover_24 : decode cL_cover 24 = .ok (.ireturn, 1) := by decide +kernel
theorem dL_cover_25 : decode cL_cover 25 = .ok (.iconst 0, 1) := by decide +kernel
theorem dL_cover_26 : decode cL_cover 26 = .ok (.ireturn, 1) := by decide +kernel
set_option maxRecDepth 20000 in
theorem ggL_draw_X2_draw : GoodIn wsL_draw wsX2_draw := goodIn_ca (goodIn_ca (goodIn_ca (goodIn_r _ [8, 9, 10, 11, 12, 13, 14, 7, 15, 16, 17, 18, 19, 20, 21, 22, 23, 24, 25, 26, 27, 28, 29, 30, 31, 32, 33, 34, 35, 36, 37, 38, 39, 40, 41, 42, 43, 44, 45, 46, 47, 48, 49, 50, 51, 52, 53, 54, 55, 56, 57, 58, 59, 60, 61, 62, 63, 64, 65, 66, 67, 68, 69, 70, 71, 72, 73, 74, 75, 76, 77, 78, 79, 80, 81, 82, 83] (by decide +kernel) (by decide +kernel)) (goodIn_sub (fun _ h => List.mem_cons_of_mem _ (List.mem_append_left _ (List.mem_append_left _ (List.mem_append_right _ h)))) (by decide +kernel))) (goodIn_sub (fun _ h => List.mem_cons_of_mem _ (List.mem_append_left _ (List.mem_append_right _ h))) (by decide +kernel))) (goodIn_sub (fun _ h => List.mem_cons_of_mem _ (List.mem_append_right _ h)) (by decide +kernel))
set_option maxRecDepth 20000 in
theorem gL_draw_X2_draw : GoodIn wsL_draw (wsV RL 33 RX2 yX2_draw wsX2_draw) := goodIn_app (goodIn_of _ (by decide +kernel)) ggL_draw_X2_draw
theorem dL_draw_0 : decode cL_draw 0 = .ok (.aload_n 3, 1) := by decide +kernel
theorem dL_draw_1 : decode cL_draw 1 = .ok (.iconst 0, 1) := by decide +kernel
theorem dL_draw_2 : decode cL_draw 2 = .ok (.aload_n 0, 1) := by decide +kernel
theorem dL_draw_3 : decode cL_draw 3 = .ok (.iload_n 1, 1) := by decide +kernel
theorem dL_draw_4 : decode cL_draw 4 = .ok (.iload_n 2, 1) := by decide +kernel
theorem dL_draw_5 : decode cL_draw 5 = .ok (.invokevirtual 33, 3) := by decide +kernel
theorem dL_draw_8 : decode cL_draw 8 = .ok (.i2l, 1) := by decide +kernel
theorem dL_draw_9 : decode cL_draw 9 = .ok (.lastore, 1) := by decide +kernel
theorem dL_draw_10 : decode cL_draw 10 = .ok (.goto 15, 3) := by decide +kernel
theorem dL_draw_13 : decode cL_draw 13 = .ok (.astore 4, 2) := by decide +kernel
theorem dL_draw_15 : decode cL_draw 15 = .ok (.iconst 1, 1) := by decide +kernel
theorem dL_draw_16 : decode cL_draw 16 = .ok (.ireturn, 1) := by decide +kernel
theorem dL_draw_17 : decode cL_draw 17 = .ok (.astore 4, 2) := by decide +kernel
theorem dL_draw_19 : decode cL_draw 19 = .ok (.iconst 2, 1) := by decide +kernel
theorem dL_draw_20 : decode cL_draw 20 = .ok (.ireturn, 1) := by decide +kernel
theorem dL_draw_21 : decode cL_draw 21 = .ok (.astore 4, 2) := by decide +kernel
theorem dL_draw_23 : decode cL_draw 23 = .ok (.iconst 3, 1) := by decide +kernel
theorem dL_draw_24 : decode cL_draw 24 = .ok (.ireturn, 1) := by decide +kernel
theorem dL_draw_25 : decode cL_draw 25 = .ok (.iconst 0, 1) := by decide +kernel
theorem dL_draw_26 : decode cL_draw 26 = .ok (.ireturn, 1) := by decide +kernel
set_option maxRecDepth 20000 in
theorem ggL_setYield_X2_setYield : GoodIn wsL_setYield wsX2_setYield := goodIn_ca (goodIn_ca (goodIn_ca (goodIn_r _ [8, 9, 10, 11, 12, 13, 7, 14, 15, 16, 17, 18, 19, 20, 21, 22, 23, 24, 25, 26, 27, 28, 29, 30, 31, 32, 33, 34, 35, 36, 37, 38, 39, 40, 41, 42, 43, 44, 45, 46, 47, 48, 49, 50] (by decide +kernel) (by decide +kernel)) (goodIn_sub (fun _ h => List.mem_cons_of_mem _ (List.mem_append_left _ (List.mem_append_left _ (List.mem_append_right _ h)))) (by decide +kernel))) (goodIn_sub (fun _ h => List.mem_cons_of_mem _ (List.mem_append_left _ (List.mem_append_right _ h))) (by decide +kernel))) (goodIn_sub (fun _ h => List.mem_cons_of_mem _ (List.mem_append_right _ h)) (by decide +kernel))
set_option maxRecDepth 20000 in
theorem gL_setYield_X2_setYield : GoodIn wsL_setYield (wsV RL 36 RX2 yX2_setYield wsX2_setYield) := goodIn_app (goodIn_of _ (by decide +kernel)) ggL_setYield_X2_setYield
theorem dL_setYield_0 : decode cL_setYield 0 = .ok (.aload_n 3, 1) := by decide +kernel
theorem dL_setYield_1 : decode cL_setYield 1 = .ok (.iconst 0, 1) := by decide +kernel
theorem dL_setYield_2 : decode cL_setYield 2 = .ok (.aload_n 0, 1) := by decide +kernel
theorem dL_setYield_3 : decode cL_setYield 3 = .ok (.iload_n 1, 1) := by decide +kernel
theorem dL_setYield_4 : decode cL_setYield 4 = .ok (.iload_n 2, 1) := by decide +kernel
theorem dL_setYield_5 : decode cL_setYield 5 = .ok (.invokevirtual 36, 3) := by decide +kernel
theorem dL_setYield_8 : decode cL_setYield 8 = .ok (.i2l, 1) := by decide +kernel
theorem dL_setYield_9 : decode cL_setYield 9 = .ok (.lastore, 1) := by decide +kernel
theorem dL_setYield_10 : decode cL_setYield 10 = .ok (.goto 15, 3) := by decide +kernel
theorem dL_setYield_13 : decode cL_setYield 13 = .ok (.astore 4, 2) := by decide +kernel
theorem dL_setYield_15 : decode cL_setYield 15 = .ok (.iconst 1, 1) := by decide +kernel
theorem dL_setYield_16 : decode cL_setYield 16 = .ok (.ireturn, 1) := by decide +kernel
theorem dL_setYield_17 : decode cL_setYield 17 = .ok (.astore 4, 2) := by decide +kernel
theorem dL_setYield_19 : decode cL_setYield 19 = .ok (.iconst 2, 1) := by decide +kernel
theorem dL_setYield_20 : decode cL_setYield 20 = .ok (.ireturn, 1) := by decide +kernel
theorem dL_setYield_21 : decode cL_setYield 21 = .ok (.astore 4, 2) := by decide +kernel
theorem dL_setYield_23 : decode cL_setYield 23 = .ok (.iconst 3, 1) := by decide +kernel
theorem dL_setYield_24 : decode cL_setYield 24 = .ok (.ireturn, 1) := by decide +kernel
theorem dL_setYield_25 : decode cL_setYield 25 = .ok (.iconst 0, 1) := by decide +kernel
theorem dL_setYield_26 : decode cL_setYield 26 = .ok (.ireturn, 1) := by decide +kernel
set_option maxRecDepth 20000 in
theorem ggL_next_X2_next : GoodIn wsL_next wsX2_next := goodIn_ca (goodIn_ca (goodIn_r _ [6, 7, 8, 9, 10, 11, 5, 12, 13, 14, 15, 16, 17, 18, 19, 20, 21, 22, 23, 24, 25, 26, 27, 28, 29, 30, 31, 32, 33, 34, 35, 36, 37, 38, 39, 40, 41, 42, 43, 44, 45, 46, 47, 48, 49, 50, 51, 52, 53, 54, 55, 56, 57, 58, 59, 60, 61, 62, 63, 64, 65, 66, 67, 68, 69, 70, 71, 72, 73, 74, 75, 76, 77, 78, 79, 80, 81, 82, 83, 84, 85, 86, 87, 88, 89, 90, 91, 92, 93, 94] (by decide +kernel) (by decide +kernel)) (goodIn_sub (fun _ h => List.mem_cons_of_mem _ (List.mem_append_left _ (List.mem_append_right _ h))) (by decide +kernel))) (goodIn_sub (fun _ h => List.mem_cons_of_mem _ (List.mem_append_right _ h)) (by decide +kernel))
set_option maxRecDepth 20000 in
theorem gL_next_X2_next : GoodIn wsL_next (wsV RL 39 RX2 yX2_next wsX2_next) := goodIn_app (goodIn_of _ (by decide +kernel)) ggL_next_X2_next
theorem dL_next_0 : decode cL_next 0 = .ok (.aload_n 1, 1) := by decide +kernel
theorem dL_next_1 : decode cL_next 1 = .ok (.iconst 0, 1) := by decide +kernel
theorem dL_next_2 : decode cL_next 2 = .ok (.aload_n 0, 1) := by decide +kernel
theorem dL_next_3 : decode cL_next 3 = .ok (.invokevirtual 39, 3) := by decide +kernel
theorem dL_next_6 : decode cL_next 6 = .ok (.i2l, 1) := by decide +kernel
theorem dL_next_7 : decode cL_next 7 = .ok (.lastore, 1) := by decide +kernel
theorem dL_next_8 : decode cL_next 8 = .ok (.goto 6, 3) := by decide +kernel
theorem dL_next_11 : decode cL_next 11 = .ok (.astore_n 2, 1) := by decide +kernel
theorem dL_next_12 : decode cL_next 12 = .ok (.iconst 1, 1) := by decide +kernel
theorem dL_next_13 : decode cL_next 13 = .ok (.ireturn, 1) := by decide +kernel
theorem dL_next_14 : decode cL_next 14 = .ok (.iconst 0, 1) := by decide +kernel
theorem dL_next_15 : decode cL_next 15 = .ok (.ireturn, 1) := by decide +kernel
set_option maxRecDepth 20000 in
theorem ggL_pledge_X2_pledge : GoodIn wsL_pledge wsX2_pledge := goodIn_ca (goodIn_ca (goodIn_ca (goodIn_r _ [8, 9, 10, 11, 12, 13, 14, 7, 15, 16, 17, 18, 19, 20, 21, 22, 23, 24, 25, 26, 27, 28, 29, 30, 31, 32, 33, 34, 35, 36, 37, 38, 39, 40, 41, 42, 43, 44, 45, 46, 47, 48, 49, 50, 51, 52, 53, 54, 55, 56, 57, 58, 59, 60, 61, 62, 63, 64, 65, 66, 67, 68, 69, 70, 71, 72, 73, 74, 75, 76, 77, 78, 79, 80, 81, 82, 83, 84, 85, 86, 87, 88] (by decide +kernel) (by decide +kernel)) (goodIn_sub (fun _ h => List.mem_cons_of_mem _ (List.mem_append_left _ (List.mem_append_left _ (List.mem_append_right _ h)))) (by decide +kernel))) (goodIn_sub (fun _ h => List.mem_cons_of_mem _ (List.mem_append_left _ (List.mem_append_right _ h))) (by decide +kernel))) (goodIn_sub (fun _ h => List.mem_cons_of_mem _ (List.mem_append_right _ h)) (by decide +kernel))
set_option maxRecDepth 20000 in
theorem gL_pledge_X2_pledge : GoodIn wsL_pledge (wsV RL 43 RX2 yX2_pledge wsX2_pledge) := goodIn_app (goodIn_of _ (by decide +kernel)) ggL_pledge_X2_pledge
theorem dL_pledge_0 : decode cL_pledge 0 = .ok (.aload_n 3, 1) := by decide +kernel
theorem dL_pledge_1 : decode cL_pledge 1 = .ok (.iconst 0, 1) := by decide +kernel
theorem dL_pledge_2 : decode cL_pledge 2 = .ok (.aload_n 0, 1) := by decide +kernel
theorem dL_pledge_3 : decode cL_pledge 3 = .ok (.iload_n 1, 1) := by decide +kernel
theorem dL_pledge_4 : decode cL_pledge 4 = .ok (.iload_n 2, 1) := by decide +kernel
theorem dL_pledge_5 : decode cL_pledge 5 = .ok (.invokevirtual 43, 3) := by decide +kernel
theorem dL_pledge_8 : decode cL_pledge 8 = .ok (.i2l, 1) := by decide +kernel
theorem dL_pledge_9 : decode cL_pledge 9 = .ok (.lastore, 1) := by decide +kernel
theorem dL_pledge_10 : decode cL_pledge 10 = .ok (.goto 15, 3) := by decide +kernel
theorem dL_pledge_13 : decode cL_pledge 13 = .ok (.astore 4, 2) := by decide +kernel
theorem dL_pledge_15 : decode cL_pledge 15 = .ok (.iconst 1, 1) := by decide +kernel
theorem dL_pledge_16 : decode cL_pledge 16 = .ok (.ireturn, 1) := by decide +kernel
theorem dL_pledge_17 : decode cL_pledge 17 = .ok (.astore 4, 2) := by decide +kernel
theorem dL_pledge_19 : decode cL_pledge 19 = .ok (.iconst 2, 1) := by decide +kernel
theorem dL_pledge_20 : decode cL_pledge 20 = .ok (.ireturn, 1) := by decide +kernel
theorem dL_pledge_21 : decode cL_pledge 21 = .ok (.astore 4, 2) := by decide +kernel
theorem dL_pledge_23 : decode cL_pledge 23 = .ok (.iconst 3, 1) := by decide +kernel
theorem dL_pledge_24 : decode cL_pledge 24 = .ok (.ireturn, 1) := by decide +kernel
theorem dL_pledge_25 : decode cL_pledge 25 = .ok (.iconst 0, 1) := by decide +kernel
theorem dL_pledge_26 : decode cL_pledge 26 = .ok (.ireturn, 1) := by decide +kernel
set_option maxRecDepth 20000 in
theorem ggL_sell_X2_sell : GoodIn wsL_sell wsX2_sell := goodIn_ca (goodIn_ca (goodIn_ca (goodIn_r _ [8, 9, 10, 11, 12, 13, 14, 15, 7, 16, 17, 18, 19, 20, 21, 22, 23, 24, 25, 26, 27, 28, 29, 30, 31, 32, 33, 34, 35, 36, 37, 38, 39, 40, 41, 42, 43, 44, 45, 46, 47, 48, 49, 50, 51, 52, 53, 54, 55, 56, 57, 58, 59, 60, 61, 62, 63, 64, 65, 66, 67, 68, 69, 70, 71, 72, 73, 74, 75, 76, 77, 78, 79, 80, 81, 82, 83, 84, 85, 86, 87, 88, 89, 90, 91, 92, 93, 94, 95, 96, 97, 98, 99] (by decide +kernel) (by decide +kernel)) (goodIn_sub (fun _ h => List.mem_cons_of_mem _ (List.mem_append_left _ (List.mem_append_left _ (List.mem_append_right _ h)))) (by decide +kernel))) (goodIn_sub (fun _ h => List.mem_cons_of_mem _ (List.mem_append_left _ (List.mem_append_right _ h))) (by decide +kernel))) (goodIn_sub (fun _ h => List.mem_cons_of_mem _ (List.mem_append_right _ h)) (by decide +kernel))
set_option maxRecDepth 20000 in
theorem gL_sell_X2_sell : GoodIn wsL_sell (wsV RL 46 RX2 yX2_sell wsX2_sell) := goodIn_app (goodIn_of _ (by decide +kernel)) ggL_sell_X2_sell
theorem dL_sell_0 : decode cL_sell 0 = .ok (.aload_n 3, 1) := by decide +kernel
theorem dL_sell_1 : decode cL_sell 1 = .ok (.iconst 0, 1) := by decide +kernel
theorem dL_sell_2 : decode cL_sell 2 = .ok (.aload_n 0, 1) := by decide +kernel
theorem dL_sell_3 : decode cL_sell 3 = .ok (.iload_n 1, 1) := by decide +kernel
theorem dL_sell_4 : decode cL_sell 4 = .ok (.iload_n 2, 1) := by decide +kernel
theorem dL_sell_5 : decode cL_sell 5 = .ok (.invokevirtual 46, 3) := by decide +kernel
theorem dL_sell_8 : decode cL_sell 8 = .ok (.i2l, 1) := by decide +kernel
theorem dL_sell_9 : decode cL_sell 9 = .ok (.lastore, 1) := by decide +kernel
theorem dL_sell_10 : decode cL_sell 10 = .ok (.goto 15, 3) := by decide +kernel
theorem dL_sell_13 : decode cL_sell 13 = .ok (.astore 4, 2) := by decide +kernel
theorem dL_sell_15 : decode cL_sell 15 = .ok (.iconst 1, 1) := by decide +kernel
theorem dL_sell_16 : decode cL_sell 16 = .ok (.ireturn, 1) := by decide +kernel
theorem dL_sell_17 : decode cL_sell 17 = .ok (.astore 4, 2) := by decide +kernel
theorem dL_sell_19 : decode cL_sell 19 = .ok (.iconst 2, 1) := by decide +kernel
theorem dL_sell_20 : decode cL_sell 20 = .ok (.ireturn, 1) := by decide +kernel
theorem dL_sell_21 : decode cL_sell 21 = .ok (.astore 4, 2) := by decide +kernel
theorem dL_sell_23 : decode cL_sell 23 = .ok (.iconst 3, 1) := by decide +kernel
theorem dL_sell_24 : decode cL_sell 24 = .ok (.ireturn, 1) := by decide +kernel
theorem dL_sell_25 : decode cL_sell 25 = .ok (.iconst 0, 1) := by decide +kernel
theorem dL_sell_26 : decode cL_sell 26 = .ok (.ireturn, 1) := by decide +kernel
set_option maxRecDepth 20000 in
theorem ggL_repay_X2_repay : GoodIn wsL_repay wsX2_repay := goodIn_ca (goodIn_ca (goodIn_ca (goodIn_r _ [8, 9, 10, 11, 12, 13, 14, 7, 15, 16, 17, 18, 19, 20, 21, 22, 23, 24, 25, 26, 27, 28, 29, 30, 31, 32, 33, 34, 35, 36, 37, 38, 39, 40, 41, 42, 43, 44, 45, 46, 47, 48, 49, 50, 51, 52, 53, 54, 55, 56, 57, 58, 59, 60, 61, 62, 63] (by decide +kernel) (by decide +kernel)) (goodIn_sub (fun _ h => List.mem_cons_of_mem _ (List.mem_append_left _ (List.mem_append_left _ (List.mem_append_right _ h)))) (by decide +kernel))) (goodIn_sub (fun _ h => List.mem_cons_of_mem _ (List.mem_append_left _ (List.mem_append_right _ h))) (by decide +kernel))) (goodIn_sub (fun _ h => List.mem_cons_of_mem _ (List.mem_append_right _ h)) (by decide +kernel))
set_option maxRecDepth 20000 in
theorem gL_repay_X2_repay : GoodIn wsL_repay (wsV RL 49 RX2 yX2_repay wsX2_repay) := goodIn_app (goodIn_of _ (by decide +kernel)) ggL_repay_X2_repay
theorem dL_repay_0 : decode cL_repay 0 = .ok (.aload_n 3, 1) := by decide +kernel
theorem dL_repay_1 : decode cL_repay 1 = .ok (.iconst 0, 1) := by decide +kernel
theorem dL_repay_2 : decode cL_repay 2 = .ok (.aload_n 0, 1) := by decide +kernel
theorem dL_repay_3 : decode cL_repay 3 = .ok (.iload_n 1, 1) := by decide +kernel
theorem dL_repay_4 : decode cL_repay 4 = .ok (.iload_n 2, 1) := by decide +kernel
theorem dL_repay_5 : decode cL_repay 5 = .ok (.invokevirtual 49, 3) := by decide +kernel
theorem dL_repay_8 : decode cL_repay 8 = .ok (.i2l, 1) := by decide +kernel
theorem dL_repay_9 : decode cL_repay 9 = .ok (.lastore, 1) := by decide +kernel
theorem dL_repay_10 : decode cL_repay 10 = .ok (.goto 15, 3) := by decide +kernel
theorem dL_repay_13 : decode cL_repay 13 = .ok (.astore 4, 2) := by decide +kernel
theorem dL_repay_15 : decode cL_repay 15 = .ok (.iconst 1, 1) := by decide +kernel
theorem dL_repay_16 : decode cL_repay 16 = .ok (.ireturn, 1) := by decide +kernel
theorem dL_repay_17 : decode cL_repay 17 = .ok (.astore 4, 2) := by decide +kernel
theorem dL_repay_19 : decode cL_repay 19 = .ok (.iconst 2, 1) := by decide +kernel
theorem dL_repay_20 : decode cL_repay 20 = .ok (.ireturn, 1) := by decide +kernel
theorem dL_repay_21 : decode cL_repay 21 = .ok (.astore 4, 2) := by decide +kernel
theorem dL_repay_23 : decode cL_repay 23 = .ok (.iconst 3, 1) := by decide +kernel
theorem dL_repay_24 : decode cL_repay 24 = .ok (.ireturn, 1) := by decide +kernel
theorem dL_repay_25 : decode cL_repay 25 = .ok (.iconst 0, 1) := by decide +kernel
theorem dL_repay_26 : decode cL_repay 26 = .ok (.ireturn, 1) := by decide +kernel
set_option maxRecDepth 20000 in
theorem ggL_close_X2_close : GoodIn wsL_close wsX2_close := goodIn_ca (goodIn_r _ [6, 7, 8, 9, 10, 11, 12, 5, 13, 14, 15, 16, 17, 18, 19, 20, 21, 22, 23, 24, 25, 26, 27, 28, 29, 30, 31, 32, 33, 34, 35, 36, 37, 38, 39, 40, 41, 42, 43, 44, 45, 46, 47, 48, 49, 50, 51, 52, 53, 54, 55, 56, 57, 58, 59, 60, 61, 62, 63, 64, 65, 66, 67, 68, 69, 70, 71, 72, 73, 74, 75, 76, 77, 78, 79, 80, 81, 82, 83, 84, 85, 86, 87, 88, 89, 90, 91, 92, 93, 94, 95, 96, 97, 98, 99, 100, 101, 102] (by decide +kernel) (by decide +kernel)) (goodIn_sub (fun _ h => List.mem_cons_of_mem _ (List.mem_append_right _ h)) (by decide +kernel))
set_option maxRecDepth 20000 in
theorem gL_close_X2_close : GoodIn wsL_close (wsV RL 52 RX2 yX2_close wsX2_close) := goodIn_app (goodIn_of _ (by decide +kernel)) ggL_close_X2_close
theorem dL_close_0 : decode cL_close 0 = .ok (.aload_n 1, 1) := by decide +kernel
theorem dL_close_1 : decode cL_close 1 = .ok (.iconst 0, 1) := by decide +kernel
theorem dL_close_2 : decode cL_close 2 = .ok (.aload_n 0, 1) := by decide +kernel
theorem dL_close_3 : decode cL_close 3 = .ok (.invokevirtual 52, 3) := by decide +kernel
theorem dL_close_6 : decode cL_close 6 = .ok (.i2l, 1) := by decide +kernel
theorem dL_close_7 : decode cL_close 7 = .ok (.lastore, 1) := by decide +kernel
theorem dL_close_8 : decode cL_close 8 = .ok (.goto 6, 3) := by decide +kernel
theorem dL_close_11 : decode cL_close 11 = .ok (.astore_n 2, 1) := by decide +kernel
theorem dL_close_12 : decode cL_close 12 = .ok (.iconst 1, 1) := by decide +kernel
theorem dL_close_13 : decode cL_close 13 = .ok (.ireturn, 1) := by decide +kernel
theorem dL_close_14 : decode cL_close 14 = .ok (.iconst 0, 1) := by decide +kernel
theorem dL_close_15 : decode cL_close 15 = .ok (.ireturn, 1) := by decide +kernel
set_option maxRecDepth 20000 in
theorem ggL_limit_X2_limit : GoodIn wsL_limit wsX2_limit := goodIn_ca (goodIn_r _ [6, 7, 8, 9, 5, 10, 11, 12, 13, 14, 15, 16, 17, 18, 19, 20, 21, 22, 23, 24, 25, 26, 27, 28, 29, 30, 31, 32, 33, 34, 35, 36, 37, 38, 39, 40, 41, 42, 43, 44, 45, 46, 47, 48, 49, 50, 51, 52, 53, 54, 55, 56, 57, 58, 59, 60, 61, 62, 63] (by decide +kernel) (by decide +kernel)) (goodIn_sub (fun _ h => List.mem_cons_of_mem _ (List.mem_append_right _ h)) (by decide +kernel))
set_option maxRecDepth 20000 in
theorem gL_limit_X2_limit : GoodIn wsL_limit (wsV RL 55 RX2 yX2_limit wsX2_limit) := goodIn_app (goodIn_of _ (by decide +kernel)) ggL_limit_X2_limit
theorem dL_limit_0 : decode cL_limit 0 = .ok (.aload_n 2, 1) := by decide +kernel
theorem dL_limit_1 : decode cL_limit 1 = .ok (.iconst 0, 1) := by decide +kernel
theorem dL_limit_2 : decode cL_limit 2 = .ok (.aload_n 0, 1) := by decide +kernel
theorem dL_limit_3 : decode cL_limit 3 = .ok (.iload_n 1, 1) := by decide +kernel
theorem dL_limit_4 : decode cL_limit 4 = .ok (.invokevirtual 55, 3) := by decide +kernel
theorem dL_limit_7 : decode cL_limit 7 = .ok (.i2l, 1) := by decide +kernel
theorem dL_limit_8 : decode cL_limit 8 = .ok (.lastore, 1) := by decide +kernel
theorem dL_limit_9 : decode cL_limit 9 = .ok (.goto 6, 3) := by decide +kernel
theorem dL_limit_12 : decode cL_limit 12 = .ok (.astore_n 3, 1) := by decide +kernel
theorem dL_limit_13 : decode cL_limit 13 = .ok (.iconst 1, 1) := by decide +kernel
theorem dL_limit_14 : decode cL_limit 14 = .ok (.ireturn, 1) := by decide +kernel
theorem dL_limit_15 : decode cL_limit 15 = .ok (.iconst 0, 1) := by decide +kernel
theorem dL_limit_16 : decode cL_limit 16 = .ok (.ireturn, 1) := by decide +kernel
set_option maxRecDepth 20000 in
theorem ggL_debt_X2_debt : GoodIn wsL_debt wsX2_debt := goodIn_ca (goodIn_r _ [6, 7, 8, 9, 10, 5, 11, 12, 13, 14, 15, 16, 17, 18, 19, 20, 21, 22, 23, 24, 25, 26, 27, 28, 29, 30, 31, 32, 33, 34, 35, 36, 37] (by decide +kernel) (by decide +kernel)) (goodIn_sub (fun _ h => List.mem_cons_of_mem _ (List.mem_append_right _ h)) (by decide +kernel))
set_option maxRecDepth 20000 in
theorem gL_debt_X2_debt : GoodIn wsL_debt (wsV RL 58 RX2 yX2_debt wsX2_debt) := goodIn_app (goodIn_of _ (by decide +kernel)) ggL_debt_X2_debt
theorem dL_debt_0 : decode cL_debt 0 = .ok (.aload_n 2, 1) := by decide +kernel
theorem dL_debt_1 : decode cL_debt 1 = .ok (.iconst 0, 1) := by decide +kernel
theorem dL_debt_2 : decode cL_debt 2 = .ok (.aload_n 0, 1) := by decide +kernel
theorem dL_debt_3 : decode cL_debt 3 = .ok (.iload_n 1, 1) := by decide +kernel
theorem dL_debt_4 : decode cL_debt 4 = .ok (.invokevirtual 58, 3) := by decide +kernel
theorem dL_debt_7 : decode cL_debt 7 = .ok (.i2l, 1) := by decide +kernel
theorem dL_debt_8 : decode cL_debt 8 = .ok (.lastore, 1) := by decide +kernel
theorem dL_debt_9 : decode cL_debt 9 = .ok (.goto 6, 3) := by decide +kernel
theorem dL_debt_12 : decode cL_debt 12 = .ok (.astore_n 3, 1) := by decide +kernel
theorem dL_debt_13 : decode cL_debt 13 = .ok (.iconst 1, 1) := by decide +kernel
theorem dL_debt_14 : decode cL_debt 14 = .ok (.ireturn, 1) := by decide +kernel
theorem dL_debt_15 : decode cL_debt 15 = .ok (.iconst 0, 1) := by decide +kernel
theorem dL_debt_16 : decode cL_debt 16 = .ok (.ireturn, 1) := by decide +kernel
set_option maxRecDepth 20000 in
theorem ggL_owes_X2_owes : GoodIn wsL_owes wsX2_owes := goodIn_ca (goodIn_r _ [6, 7, 8, 9, 10, 11, 5, 12, 13, 14, 15, 16, 17, 18, 19, 20, 21, 22, 23, 24, 25, 26, 27, 28, 29, 30, 31, 32, 33, 34, 35, 36, 37, 38, 39, 40, 41, 42, 43, 44, 45] (by decide +kernel) (by decide +kernel)) (goodIn_sub (fun _ h => List.mem_cons_of_mem _ (List.mem_append_right _ h)) (by decide +kernel))
set_option maxRecDepth 20000 in
theorem gL_owes_X2_owes : GoodIn wsL_owes (wsV RL 61 RX2 yX2_owes wsX2_owes) := goodIn_app (goodIn_of _ (by decide +kernel)) ggL_owes_X2_owes
theorem dL_owes_0 : decode cL_owes 0 = .ok (.aload_n 2, 1) := by decide +kernel
theorem dL_owes_1 : decode cL_owes 1 = .ok (.iconst 0, 1) := by decide +kernel
theorem dL_owes_2 : decode cL_owes 2 = .ok (.aload_n 0, 1) := by decide +kernel
theorem dL_owes_3 : decode cL_owes 3 = .ok (.iload_n 1, 1) := by decide +kernel
theorem dL_owes_4 : decode cL_owes 4 = .ok (.invokevirtual 61, 3) := by decide +kernel
theorem dL_owes_7 : decode cL_owes 7 = .ok (.i2l, 1) := by decide +kernel
theorem dL_owes_8 : decode cL_owes 8 = .ok (.lastore, 1) := by decide +kernel
theorem dL_owes_9 : decode cL_owes 9 = .ok (.goto 6, 3) := by decide +kernel
theorem dL_owes_12 : decode cL_owes 12 = .ok (.astore_n 3, 1) := by decide +kernel
theorem dL_owes_13 : decode cL_owes 13 = .ok (.iconst 1, 1) := by decide +kernel
theorem dL_owes_14 : decode cL_owes 14 = .ok (.ireturn, 1) := by decide +kernel
theorem dL_owes_15 : decode cL_owes 15 = .ok (.iconst 0, 1) := by decide +kernel
theorem dL_owes_16 : decode cL_owes 16 = .ok (.ireturn, 1) := by decide +kernel
set_option maxRecDepth 20000 in
theorem ggL_instalments_X2_instalments : GoodIn wsL_instalments wsX2_instalments := goodIn_ca (goodIn_r _ [6, 7, 8, 9, 10, 5, 11, 12, 13, 14, 15, 16, 17, 18, 19, 20, 21, 22, 23, 24, 25, 26, 27, 28, 29, 30, 31, 32, 33, 34, 35, 36, 37] (by decide +kernel) (by decide +kernel)) (goodIn_sub (fun _ h => List.mem_cons_of_mem _ (List.mem_append_right _ h)) (by decide +kernel))
set_option maxRecDepth 20000 in
theorem gL_instalments_X2_instalments : GoodIn wsL_instalments (wsV RL 64 RX2 yX2_instalments wsX2_instalments) := goodIn_app (goodIn_of _ (by decide +kernel)) ggL_instalments_X2_instalments
theorem dL_instalments_0 : decode cL_instalments 0 = .ok (.aload_n 2, 1) := by decide +kernel
theorem dL_instalments_1 : decode cL_instalments 1 = .ok (.iconst 0, 1) := by decide +kernel
theorem dL_instalments_2 : decode cL_instalments 2 = .ok (.aload_n 0, 1) := by decide +kernel
theorem dL_instalments_3 : decode cL_instalments 3 = .ok (.iload_n 1, 1) := by decide +kernel
theorem dL_instalments_4 : decode cL_instalments 4 = .ok (.invokevirtual 64, 3) := by decide +kernel
theorem dL_instalments_7 : decode cL_instalments 7 = .ok (.i2l, 1) := by decide +kernel
theorem dL_instalments_8 : decode cL_instalments 8 = .ok (.lastore, 1) := by decide +kernel
theorem dL_instalments_9 : decode cL_instalments 9 = .ok (.goto 6, 3) := by decide +kernel
theorem dL_instalments_12 : decode cL_instalments 12 = .ok (.astore_n 3, 1) := by decide +kernel
theorem dL_instalments_13 : decode cL_instalments 13 = .ok (.iconst 1, 1) := by decide +kernel
theorem dL_instalments_14 : decode cL_instalments 14 = .ok (.ireturn, 1) := by decide +kernel
theorem dL_instalments_15 : decode cL_instalments 15 = .ok (.iconst 0, 1) := by decide +kernel
theorem dL_instalments_16 : decode cL_instalments 16 = .ok (.ireturn, 1) := by decide +kernel
set_option maxRecDepth 20000 in
theorem ggL_purse_X2_purse : GoodIn wsL_purse wsX2_purse := goodIn_ca (goodIn_r _ [6, 7, 8, 9, 10, 5, 11, 12, 13, 14, 15, 16, 17, 18, 19, 20, 21, 22, 23, 24, 25, 26, 27, 28, 29, 30, 31, 32, 33, 34, 35, 36, 37] (by decide +kernel) (by decide +kernel)) (goodIn_sub (fun _ h => List.mem_cons_of_mem _ (List.mem_append_right _ h)) (by decide +kernel))
set_option maxRecDepth 20000 in
theorem gL_purse_X2_purse : GoodIn wsL_purse (wsV RL 67 RX2 yX2_purse wsX2_purse) := goodIn_app (goodIn_of _ (by decide +kernel)) ggL_purse_X2_purse
theorem dL_purse_0 : decode cL_purse 0 = .ok (.aload_n 2, 1) := by decide +kernel
theorem dL_purse_1 : decode cL_purse 1 = .ok (.iconst 0, 1) := by decide +kernel
theorem dL_purse_2 : decode cL_purse 2 = .ok (.aload_n 0, 1) := by decide +kernel
theorem dL_purse_3 : decode cL_purse 3 = .ok (.iload_n 1, 1) := by decide +kernel
theorem dL_purse_4 : decode cL_purse 4 = .ok (.invokevirtual 67, 3) := by decide +kernel
theorem dL_purse_7 : decode cL_purse 7 = .ok (.i2l, 1) := by decide +kernel
theorem dL_purse_8 : decode cL_purse 8 = .ok (.lastore, 1) := by decide +kernel
theorem dL_purse_9 : decode cL_purse 9 = .ok (.goto 6, 3) := by decide +kernel
theorem dL_purse_12 : decode cL_purse 12 = .ok (.astore_n 3, 1) := by decide +kernel
theorem dL_purse_13 : decode cL_purse 13 = .ok (.iconst 1, 1) := by decide +kernel
theorem dL_purse_14 : decode cL_purse 14 = .ok (.ireturn, 1) := by decide +kernel
theorem dL_purse_15 : decode cL_purse 15 = .ok (.iconst 0, 1) := by decide +kernel
theorem dL_purse_16 : decode cL_purse 16 = .ok (.ireturn, 1) := by decide +kernel
set_option maxRecDepth 20000 in
theorem ggL_grain_X2_grain : GoodIn wsL_grain wsX2_grain := goodIn_ca (goodIn_r _ [6, 7, 8, 9, 10, 11, 5, 12, 13, 14, 15, 16, 17, 18, 19, 20, 21, 22, 23, 24, 25, 26, 27, 28, 29, 30, 31, 32, 33, 34, 35, 36, 37, 38] (by decide +kernel) (by decide +kernel)) (goodIn_sub (fun _ h => List.mem_cons_of_mem _ (List.mem_append_right _ h)) (by decide +kernel))
set_option maxRecDepth 20000 in
theorem gL_grain_X2_grain : GoodIn wsL_grain (wsV RL 70 RX2 yX2_grain wsX2_grain) := goodIn_app (goodIn_of _ (by decide +kernel)) ggL_grain_X2_grain
theorem dL_grain_0 : decode cL_grain 0 = .ok (.aload_n 3, 1) := by decide +kernel
theorem dL_grain_1 : decode cL_grain 1 = .ok (.iconst 0, 1) := by decide +kernel
theorem dL_grain_2 : decode cL_grain 2 = .ok (.aload_n 0, 1) := by decide +kernel
theorem dL_grain_3 : decode cL_grain 3 = .ok (.iload_n 1, 1) := by decide +kernel
theorem dL_grain_4 : decode cL_grain 4 = .ok (.iload_n 2, 1) := by decide +kernel
theorem dL_grain_5 : decode cL_grain 5 = .ok (.invokevirtual 70, 3) := by decide +kernel
theorem dL_grain_8 : decode cL_grain 8 = .ok (.i2l, 1) := by decide +kernel
theorem dL_grain_9 : decode cL_grain 9 = .ok (.lastore, 1) := by decide +kernel
theorem dL_grain_10 : decode cL_grain 10 = .ok (.goto 7, 3) := by decide +kernel
theorem dL_grain_13 : decode cL_grain 13 = .ok (.astore 4, 2) := by decide +kernel
theorem dL_grain_15 : decode cL_grain 15 = .ok (.iconst 1, 1) := by decide +kernel
theorem dL_grain_16 : decode cL_grain 16 = .ok (.ireturn, 1) := by decide +kernel
theorem dL_grain_17 : decode cL_grain 17 = .ok (.iconst 0, 1) := by decide +kernel
theorem dL_grain_18 : decode cL_grain 18 = .ok (.ireturn, 1) := by decide +kernel
set_option maxRecDepth 20000 in
theorem ggL_called_X2_called : GoodIn wsL_called wsX2_called := goodIn_ca (goodIn_r _ [6, 7, 8, 9, 10, 5, 11, 12, 13, 14, 15, 16, 17, 18, 19, 20, 21, 22, 23, 24, 25, 26, 27, 28, 29, 30, 31, 32, 33, 34, 35, 36, 37] (by decide +kernel) (by decide +kernel)) (goodIn_sub (fun _ h => List.mem_cons_of_mem _ (List.mem_append_right _ h)) (by decide +kernel))
set_option maxRecDepth 20000 in
theorem gL_called_X2_called : GoodIn wsL_called (wsV RL 74 RX2 yX2_called wsX2_called) := goodIn_app (goodIn_of _ (by decide +kernel)) ggL_called_X2_called
theorem dL_called_0 : decode cL_called 0 = .ok (.aload_n 2, 1) := by decide +kernel
theorem dL_called_1 : decode cL_called 1 = .ok (.iconst 0, 1) := by decide +kernel
theorem dL_called_2 : decode cL_called 2 = .ok (.aload_n 0, 1) := by decide +kernel
theorem dL_called_3 : decode cL_called 3 = .ok (.iload_n 1, 1) := by decide +kernel
theorem dL_called_4 : decode cL_called 4 = .ok (.invokevirtual 74, 3) := by decide +kernel
theorem dL_called_7 : decode cL_called 7 = .ok (.i2l, 1) := by decide +kernel
theorem dL_called_8 : decode cL_called 8 = .ok (.lastore, 1) := by decide +kernel
theorem dL_called_9 : decode cL_called 9 = .ok (.goto 6, 3) := by decide +kernel
theorem dL_called_12 : decode cL_called 12 = .ok (.astore_n 3, 1) := by decide +kernel
theorem dL_called_13 : decode cL_called 13 = .ok (.iconst 1, 1) := by decide +kernel
theorem dL_called_14 : decode cL_called 14 = .ok (.ireturn, 1) := by decide +kernel
theorem dL_called_15 : decode cL_called 15 = .ok (.iconst 0, 1) := by decide +kernel
theorem dL_called_16 : decode cL_called 16 = .ok (.ireturn, 1) := by decide +kernel
set_option maxRecDepth 20000 in
theorem ggL_repaid_X2_repaid : GoodIn wsL_repaid wsX2_repaid := goodIn_ca (goodIn_ca (goodIn_r _ [7, 8, 9, 10, 11, 6, 12, 13, 14, 15, 16, 17, 18, 19, 20, 21, 22, 23, 24, 25, 26, 27, 28, 29, 30, 31, 32, 33, 34, 35, 36, 37, 38, 39, 40, 41, 42, 43] (by decide +kernel) (by decide +kernel)) (goodIn_sub (fun _ h => List.mem_cons_of_mem _ (List.mem_append_left _ (List.mem_append_right _ h))) (by decide +kernel))) (goodIn_sub (fun _ h => List.mem_cons_of_mem _ (List.mem_append_right _ h)) (by decide +kernel))
set_option maxRecDepth 20000 in
theorem gL_repaid_X2_repaid : GoodIn wsL_repaid (wsV RL 77 RX2 yX2_repaid wsX2_repaid) := goodIn_app (goodIn_of _ (by decide +kernel)) ggL_repaid_X2_repaid
theorem dL_repaid_0 : decode cL_repaid 0 = .ok (.aload_n 3, 1) := by decide +kernel
theorem dL_repaid_1 : decode cL_repaid 1 = .ok (.iconst 0, 1) := by decide +kernel
theorem dL_repaid_2 : decode cL_repaid 2 = .ok (.aload_n 0, 1) := by decide +kernel
theorem dL_repaid_3 : decode cL_repaid 3 = .ok (.iload_n 1, 1) := by decide +kernel
theorem dL_repaid_4 : decode cL_repaid 4 = .ok (.iload_n 2, 1) := by decide +kernel
theorem dL_repaid_5 : decode cL_repaid 5 = .ok (.invokevirtual 77, 3) := by decide +kernel
theorem dL_repaid_8 : decode cL_repaid 8 = .ok (.i2l, 1) := by decide +kernel
theorem dL_repaid_9 : decode cL_repaid 9 = .ok (.lastore, 1) := by decide +kernel
theorem dL_repaid_10 : decode cL_repaid 10 = .ok (.goto 11, 3) := by decide +kernel
theorem dL_repaid_13 : decode cL_repaid 13 = .ok (.astore 4, 2) := by decide +kernel
theorem dL_repaid_15 : decode cL_repaid 15 = .ok (.iconst 1, 1) := by decide +kernel
theorem dL_repaid_16 : decode cL_repaid 16 = .ok (.ireturn, 1) := by decide +kernel
theorem dL_repaid_17 : decode cL_repaid 17 = .ok (.astore 4, 2) := by decide +kernel
theorem dL_repaid_19 : decode cL_repaid 19 = .ok (.iconst 2, 1) := by decide +kernel
theorem dL_repaid_20 : decode cL_repaid 20 = .ok (.ireturn, 1) := by decide +kernel
theorem dL_repaid_21 : decode cL_repaid 21 = .ok (.iconst 0, 1) := by decide +kernel
theorem dL_repaid_22 : decode cL_repaid 22 = .ok (.ireturn, 1) := by decide +kernel
set_option maxRecDepth 20000 in
theorem ggL_charged_X2_charged : GoodIn wsL_charged wsX2_charged := goodIn_ca (goodIn_r _ [6, 7, 8, 9, 10, 5, 11, 12, 13, 14, 15, 16, 17, 18, 19, 20, 21, 22, 23, 24, 25, 26, 27, 28, 29, 30, 31, 32, 33, 34, 35, 36, 37] (by decide +kernel) (by decide +kernel)) (goodIn_sub (fun _ h => List.mem_cons_of_mem _ (List.mem_append_right _ h)) (by decide +kernel))
set_option maxRecDepth 20000 in
theorem gL_charged_X2_charged : GoodIn wsL_charged (wsV RL 80 RX2 yX2_charged wsX2_charged) := goodIn_app (goodIn_of _ (by decide +kernel)) ggL_charged_X2_charged
theorem dL_charged_0 : decode cL_charged 0 = .ok (.aload_n 2, 1) := by decide +kernel
theorem dL_charged_1 : decode cL_charged 1 = .ok (.iconst 0, 1) := by decide +kernel
theorem dL_charged_2 : decode cL_charged 2 = .ok (.aload_n 0, 1) := by decide +kernel
theorem dL_charged_3 : decode cL_charged 3 = .ok (.iload_n 1, 1) := by decide +kernel
theorem dL_charged_4 : decode cL_charged 4 = .ok (.invokevirtual 80, 3) := by decide +kernel
theorem dL_charged_7 : decode cL_charged 7 = .ok (.i2l, 1) := by decide +kernel
theorem dL_charged_8 : decode cL_charged 8 = .ok (.lastore, 1) := by decide +kernel
theorem dL_charged_9 : decode cL_charged 9 = .ok (.goto 6, 3) := by decide +kernel
theorem dL_charged_12 : decode cL_charged 12 = .ok (.astore_n 3, 1) := by decide +kernel
theorem dL_charged_13 : decode cL_charged 13 = .ok (.iconst 1, 1) := by decide +kernel
theorem dL_charged_14 : decode cL_charged 14 = .ok (.ireturn, 1) := by decide +kernel
theorem dL_charged_15 : decode cL_charged 15 = .ok (.iconst 0, 1) := by decide +kernel
theorem dL_charged_16 : decode cL_charged 16 = .ok (.ireturn, 1) := by decide +kernel
end
section
set_option maxRecDepth 20000 in
theorem ggL_law_X2_init : GoodIn wsL_law wsX2_init := goodIn_r _ [9, 10, 11, 12, 13, 14, 15, 16, 17, 18, 19, 20, 21, 22, 23, 24, 25, 26, 27, 28, 29, 30, 31, 32, 33, 34, 35, 36, 37, 38, 39, 40, 6, 41, 42, 43, 44, 45, 46, 47, 48, 49, 50, 51, 559, 560, 561, 562, 563, 588, 589, 590, 591, 592, 593, 594, 595, 596, 597, 598, 599, 600, 601, 602, 603, 604, 605, 606, 607] (by decide +kernel) (by decide +kernel)
set_option maxRecDepth 20000 in
theorem gL_law_X2_init : GoodIn wsL_law (wsX2_init) := ggL_law_X2_init
set_option maxRecDepth 20000 in
theorem ggL_law_X3_init : GoodIn wsL_law wsX3_init := goodIn_r _ [54, 55, 11, 12, 28, 56, 57, 58, 59, 60, 61, 62, 63, 64, 65, 66, 67, 68, 69, 70, 71, 72, 73, 74, 75, 564, 565, 566, 567, 568, 569, 570, 571, 572, 573, 574, 575, 576, 577, 578, 579, 580, 581, 582, 583, 584, 585, 586, 587] (by decide +kernel) (by decide +kernel)
set_option maxRecDepth 20000 in
theorem gL_law_X3_init : GoodIn wsL_law (wsX3_init) := ggL_law_X3_init
set_option maxRecDepth 20000 in
theorem ggL_law_L_setNeed : GoodIn wsL_law wsL_setNeed := goodIn_ca (goodIn_ca (goodIn_r _ [79, 80, 81, 82, 83, 84, 2, 85, 86, 87, 88, 89, 90, 91, 92, 93, 14, 94, 95, 96, 97, 98, 588, 589, 590, 559, 560, 561, 562, 563] (by decide +kernel) (by decide +kernel)) (goodIn_sub (fun _ h => List.mem_append_left _ (List.mem_append_left _ (List.mem_append_right _ h))) (by decide +kernel))) (goodIn_sub (fun _ h => List.mem_append_left _ (List.mem_append_right _ h)) (by decide +kernel))
set_option maxRecDepth 20000 in
theorem gL_law_L_setNeed : GoodIn wsL_law (va_wsS RL 87 yL_setNeed wsL_setNeed) := goodIn_app (goodIn_of _ (by decide +kernel)) ggL_law_L_setNeed
set_option maxRecDepth 20000 in
theorem ggL_law_X3_setNeed : GoodIn wsL_law wsX3_setNeed := goodIn_r _ [102, 103, 56, 104, 105, 5, 106, 107, 108, 109, 110, 111, 112, 113, 114, 564, 565, 566, 567, 568, 569, 570, 571, 572, 573, 574, 575, 576, 577, 578, 579, 580, 581, 582, 583, 584, 585, 586, 587] (by decide +kernel) (by decide +kernel)
set_option maxRecDepth 20000 in
theorem gL_law_X3_setNeed : GoodIn wsL_law (wsV RL 92 RX3 yX3_setNeed wsX3_setNeed) := goodIn_app (goodIn_of _ (by decide +kernel)) ggL_law_X3_setNeed
set_option maxRecDepth 20000 in
theorem ggL_law_X3_thrown : GoodIn wsL_law wsX3_thrown := goodIn_r _ [118, 114, 564, 565, 566, 567, 568, 569, 570, 571, 572, 573, 574, 575, 576, 577, 578, 579, 580, 581, 582, 583, 584, 585, 586, 587] (by decide +kernel) (by decide +kernel)
set_option maxRecDepth 20000 in
theorem gL_law_X3_thrown : GoodIn wsL_law (wsV RL 93 RX3 yX3_thrown wsX3_thrown) := goodIn_app (goodIn_of _ (by decide +kernel)) ggL_law_X3_thrown
set_option maxRecDepth 20000 in
theorem ggL_law_L_setCrop : GoodIn wsL_law wsL_setCrop := goodIn_ca (goodIn_ca (goodIn_r _ [121, 80, 81, 122, 123, 124, 2, 125, 126, 127, 90, 91, 92, 93, 86, 87, 14, 94, 95, 96, 97, 98, 588, 589, 590, 559, 560, 561, 562, 563] (by decide +kernel) (by decide +kernel)) (goodIn_sub (fun _ h => List.mem_append_left _ (List.mem_append_left _ (List.mem_append_right _ h))) (by decide +kernel))) (goodIn_sub (fun _ h => List.mem_append_left _ (List.mem_append_right _ h)) (by decide +kernel))
set_option maxRecDepth 20000 in
theorem gL_law_L_setCrop : GoodIn wsL_law (va_wsS RL 96 yL_setCrop wsL_setCrop) := goodIn_app (goodIn_of _ (by decide +kernel)) ggL_law_L_setCrop
set_option maxRecDepth 20000 in
theorem ggL_law_X3_setCrop : GoodIn wsL_law wsX3_setCrop := goodIn_r _ [131, 57, 58, 104, 105, 5, 106, 107, 108, 109, 110, 111, 112, 113, 114, 564, 565, 566, 567, 568, 569, 570, 571, 572, 573, 574, 575, 576, 577, 578, 579, 580, 581, 582, 583, 584, 585, 586, 587] (by decide +kernel) (by decide +kernel)
set_option maxRecDepth 20000 in
theorem gL_law_X3_setCrop : GoodIn wsL_law (wsV RL 98 RX3 yX3_setCrop wsX3_setCrop) := goodIn_app (goodIn_of _ (by decide +kernel)) ggL_law_X3_setCrop
set_option maxRecDepth 20000 in
theorem ggL_law_L_add : GoodIn wsL_law wsL_add := goodIn_ca (goodIn_ca (goodIn_r _ [134, 80, 135, 136, 137, 138, 2, 139, 86, 87, 17, 16, 140, 141, 142, 143, 144, 145, 559, 560, 561, 562, 563, 591, 592, 593, 594, 595, 596, 597, 598, 599, 600, 601, 602, 603, 604, 605, 606, 607] (by decide +kernel) (by decide +kernel)) (goodIn_sub (fun _ h => List.mem_append_left _ (List.mem_append_left _ (List.mem_append_right _ h))) (by decide +kernel))) (goodIn_sub (fun _ h => List.mem_append_right _ h) (by decide +kernel))
set_option maxRecDepth 20000 in
theorem gL_law_L_add : GoodIn wsL_law (va_wsS RL 99 yL_add wsL_add) := goodIn_app (goodIn_of _ (by decide +kernel)) ggL_law_L_add
set_option maxRecDepth 20000 in
theorem ggL_law_X3_add : GoodIn wsL_law wsX3_add := goodIn_r _ [149, 150, 59, 107, 108, 5, 109, 110, 111, 112, 113, 114, 151, 152, 153, 154, 68, 69, 70, 71, 72, 564, 565, 566, 567, 568, 569, 570, 571, 572, 573, 574, 575, 576, 577, 578, 579, 580, 581, 582, 583, 584, 585, 586, 587] (by decide +kernel) (by decide +kernel)
set_option maxRecDepth 20000 in
theorem gL_law_X3_add : GoodIn wsL_law (wsV RL 102 RX3 yX3_add wsX3_add) := goodIn_app (goodIn_of _ (by decide +kernel)) ggL_law_X3_add
set_option maxRecDepth 20000 in
theorem ggL_law_X2_farmers : GoodIn wsL_law wsX2_farmers := goodIn_r _ [158, 17, 559, 560, 561, 562, 563] (by decide +kernel) (by decide +kernel)
set_option maxRecDepth 20000 in
theorem gL_law_X2_farmers : GoodIn wsL_law (wsV RL 103 RX2 yX2_farmers wsX2_farmers) := goodIn_app (goodIn_of _ (by decide +kernel)) ggL_law_X2_farmers
set_option maxRecDepth 20000 in
theorem ggL_law_X3_farmers : GoodIn wsL_law wsX3_farmers := goodIn_r _ [162, 150, 163, 164, 165, 5, 166, 114, 564, 565, 566, 567, 568, 569, 570, 571, 572, 573, 574, 575, 576, 577, 578, 579, 580, 581, 582, 583, 584, 585, 586, 587] (by decide +kernel) (by decide +kernel)
set_option maxRecDepth 20000 in
theorem gL_law_X3_farmers : GoodIn wsL_law (wsV RL 106 RX3 yX3_farmers wsX3_farmers) := goodIn_app (goodIn_of _ (by decide +kernel)) ggL_law_X3_farmers
set_option maxRecDepth 20000 in
theorem ggL_law_L_plant : GoodIn wsL_law wsL_plant := goodIn_ca (goodIn_ca (goodIn_ca (goodIn_r _ [169, 80, 81, 135, 170, 171, 172, 2, 173, 19, 174, 175, 176, 177, 178, 179, 180, 181, 86, 87, 17, 16, 90, 91, 92, 93, 14, 94, 95, 96, 97, 98, 182, 183, 184, 23, 185, 47, 141, 142, 143, 144, 145, 186, 187, 188, 21, 189, 29, 559, 560, 561, 562, 563, 591, 592, 593, 594, 595, 596, 597, 598, 599, 600, 601, 602, 603, 604, 605, 606, 607, 588, 589, 590] (by decide +kernel) (by decide +kernel)) (goodIn_sub (fun _ h => List.mem_append_left _ (List.mem_append_left _ (List.mem_append_right _ h))) (by decide +kernel))) (goodIn_sub (fun _ h => List.mem_append_left _ (List.mem_append_right _ h)) (by decide +kernel))) (goodIn_sub (fun _ h => List.mem_append_right _ h) (by decide +kernel))
set_option maxRecDepth 20000 in
theorem gL_law_L_plant : GoodIn wsL_law (va_wsS RL 107 yL_plant wsL_plant) := goodIn_app (goodIn_of _ (by decide +kernel)) ggL_law_L_plant
set_option maxRecDepth 20000 in
theorem ggL_law_X3_plant : GoodIn wsL_law wsX3_plant := goodIn_r _ [193, 194, 68, 63, 62, 69, 195, 196, 197, 5, 198, 150, 107, 108, 109, 104, 105, 106, 110, 111, 112, 113, 114, 199, 200, 201, 202, 56, 564, 565, 566, 567, 568, 569, 570, 571, 572, 573, 574, 575, 576, 577, 578, 579, 580, 581, 582, 583, 584, 585, 586, 587] (by decide +kernel) (by decide +kernel)
set_option maxRecDepth 20000 in
theorem gL_law_X3_plant : GoodIn wsL_law (wsV RL 109 RX3 yX3_plant wsX3_plant) := goodIn_app (goodIn_of _ (by decide +kernel)) ggL_law_X3_plant
set_option maxRecDepth 20000 in
theorem ggL_law_L_cover : GoodIn wsL_law wsL_cover := goodIn_ca (goodIn_ca (goodIn_ca (goodIn_r _ [205, 80, 81, 135, 206, 207, 208, 2, 209, 19, 210, 178, 179, 180, 181, 86, 87, 17, 16, 94, 95, 96, 97, 98, 182, 183, 184, 23, 185, 47, 141, 142, 143, 144, 145, 559, 560, 561, 562, 563, 591, 592, 593, 594, 595, 596, 597, 598, 599, 600, 601, 602, 603, 604, 605, 606, 607] (by decide +kernel) (by decide +kernel)) (goodIn_sub (fun _ h => List.mem_append_left _ (List.mem_append_left _ (List.mem_append_right _ h))) (by decide +kernel))) (goodIn_sub (fun _ h => List.mem_append_left _ (List.mem_append_right _ h)) (by decide +kernel))) (goodIn_sub (fun _ h => List.mem_append_right _ h) (by decide +kernel))
set_option maxRecDepth 20000 in
theorem gL_law_L_cover : GoodIn wsL_law (va_wsS RL 110 yL_cover wsL_cover) := goodIn_app (goodIn_of _ (by decide +kernel)) ggL_law_L_cover
set_option maxRecDepth 20000 in
theorem ggL_law_X3_cover : GoodIn wsL_law wsX3_cover := goodIn_r _ [214, 194, 68, 71, 195, 196, 197, 5, 198, 150, 107, 108, 109, 110, 111, 112, 113, 114, 564, 565, 566, 567, 568, 569, 570, 571, 572, 573, 574, 575, 576, 577, 578, 579, 580, 581, 582, 583, 584, 585, 586, 587] (by decide +kernel) (by decide +kernel)
set_option maxRecDepth 20000 in
theorem gL_law_X3_cover : GoodIn wsL_law (wsV RL 113 RX3 yX3_cover wsX3_cover) := goodIn_app (goodIn_of _ (by decide +kernel)) ggL_law_X3_cover
set_option maxRecDepth 20000 in
theorem ggL_law_L_draw : GoodIn wsL_law wsL_draw := goodIn_ca (goodIn_ca (goodIn_ca (goodIn_r _ [217, 80, 81, 135, 218, 219, 220, 2, 221, 222, 19, 223, 178, 179, 180, 181, 86, 87, 17, 16, 94, 95, 96, 97, 98, 141, 142, 143, 144, 145, 224, 225, 226, 227, 176, 177, 182, 183, 184, 23, 185, 47, 90, 91, 92, 93, 14, 186, 187, 188, 21, 189, 29, 228, 229, 230, 231, 37, 39, 559, 560, 561, 562, 563, 591, 592, 593, 594, 595, 596, 597, 598, 599, 600, 601, 602, 603, 604, 605, 606, 607, 588, 589, 590] (by decide +kernel) (by decide +kernel)) (goodIn_sub (fun _ h => List.mem_append_left _ (List.mem_append_left _ (List.mem_append_right _ h))) (by decide +kernel))) (goodIn_sub (fun _ h => List.mem_append_left _ (List.mem_append_right _ h)) (by decide +kernel))) (goodIn_sub (fun _ h => List.mem_append_right _ h) (by decide +kernel))
set_option maxRecDepth 20000 in
theorem gL_law_L_draw : GoodIn wsL_law (va_wsS RL 114 yL_draw wsL_draw) := goodIn_app (goodIn_of _ (by decide +kernel)) ggL_law_L_draw
set_option maxRecDepth 20000 in
theorem ggL_law_X3_draw : GoodIn wsL_law wsX3_draw := goodIn_r _ [235, 236, 194, 70, 195, 196, 197, 5, 198, 150, 107, 108, 109, 199, 200, 201, 202, 68, 56, 69, 110, 111, 112, 113, 114, 237, 238, 239, 240, 61, 75, 564, 565, 566, 567, 568, 569, 570, 571, 572, 573, 574, 575, 576, 577, 578, 579, 580, 581, 582, 583, 584, 585, 586, 587] (by decide +kernel) (by decide +kernel)
set_option maxRecDepth 20000 in
theorem gL_law_X3_draw : GoodIn wsL_law (wsV RL 116 RX3 yX3_draw wsX3_draw) := goodIn_app (goodIn_of _ (by decide +kernel)) ggL_law_X3_draw
set_option maxRecDepth 20000 in
theorem ggL_law_L_setYield : GoodIn wsL_law wsL_setYield := goodIn_ca (goodIn_ca (goodIn_ca (goodIn_r _ [243, 80, 81, 135, 244, 245, 246, 2, 247, 19, 248, 178, 179, 180, 181, 86, 87, 17, 16, 94, 95, 96, 97, 98, 141, 142, 143, 144, 145, 559, 560, 561, 562, 563, 591, 592, 593, 594, 595, 596, 597, 598, 599, 600, 601, 602, 603, 604, 605, 606, 607] (by decide +kernel) (by decide +kernel)) (goodIn_sub (fun _ h => List.mem_append_left _ (List.mem_append_left _ (List.mem_append_right _ h))) (by decide +kernel))) (goodIn_sub (fun _ h => List.mem_append_left _ (List.mem_append_right _ h)) (by decide +kernel))) (goodIn_sub (fun _ h => List.mem_append_right _ h) (by decide +kernel))
set_option maxRecDepth 20000 in
theorem gL_law_L_setYield : GoodIn wsL_law (va_wsS RL 117 yL_setYield wsL_setYield) := goodIn_app (goodIn_of _ (by decide +kernel)) ggL_law_L_setYield
set_option maxRecDepth 20000 in
theorem ggL_law_X3_setYield : GoodIn wsL_law wsX3_setYield := goodIn_r _ [252, 194, 72, 195, 196, 197, 5, 198, 150, 107, 108, 109, 110, 111, 112, 113, 114, 564, 565, 566, 567, 568, 569, 570, 571, 572, 573, 574, 575, 576, 577, 578, 579, 580, 581, 582, 583, 584, 585, 586, 587] (by decide +kernel) (by decide +kernel)
set_option maxRecDepth 20000 in
theorem gL_law_X3_setYield : GoodIn wsL_law (wsV RL 119 RX3 yX3_setYield wsX3_setYield) := goodIn_app (goodIn_of _ (by decide +kernel)) ggL_law_X3_setYield
set_option maxRecDepth 20000 in
theorem ggL_law_L_next : GoodIn wsL_law wsL_next := goodIn_ca (goodIn_ca (goodIn_r _ [255, 135, 256, 257, 258, 2, 259, 19, 17, 16, 141, 142, 143, 144, 145, 260, 261, 262, 23, 263, 37, 264, 265, 266, 229, 230, 231, 39, 267, 268, 269, 270, 176, 182, 183, 184, 185, 47, 90, 91, 92, 93, 86, 87, 14, 271, 272, 273, 274, 48, 275, 44, 50, 46, 49, 276, 277, 278, 279, 280, 281, 282, 283, 284, 36, 285, 286, 287, 288, 41, 559, 560, 561, 562, 563, 591, 592, 593, 594, 595, 596, 597, 598, 599, 600, 601, 602, 603, 604, 605, 606, 607, 588, 589, 590] (by decide +kernel) (by decide +kernel)) (goodIn_sub (fun _ h => List.mem_append_right _ h) (by decide +kernel))) (goodIn_sub (fun _ h => List.mem_append_left _ (List.mem_append_left _ (List.mem_append_right _ h))) (by decide +kernel))
set_option maxRecDepth 20000 in
theorem gL_law_L_next : GoodIn wsL_law (va_wsS RL 120 yL_next wsL_next) := goodIn_app (goodIn_of _ (by decide +kernel)) ggL_law_L_next
set_option maxRecDepth 20000 in
theorem ggL_law_X3_next : GoodIn wsL_law wsX3_next := goodIn_r _ [292, 194, 150, 61, 293, 294, 68, 110, 111, 112, 5, 113, 114, 237, 238, 239, 240, 75, 295, 296, 297, 298, 69, 58, 63, 72, 62, 71, 57, 299, 300, 301, 302, 60, 303, 304, 305, 306, 74, 564, 565, 566, 567, 568, 569, 570, 571, 572, 573, 574, 575, 576, 577, 578, 579, 580, 581, 582, 583, 584, 585, 586, 587] (by decide +kernel) (by decide +kernel)
set_option maxRecDepth 20000 in
theorem gL_law_X3_next : GoodIn wsL_law (wsV RL 123 RX3 yX3_next wsX3_next) := goodIn_app (goodIn_of _ (by decide +kernel)) ggL_law_X3_next
set_option maxRecDepth 20000 in
theorem ggL_law_L_pledge : GoodIn wsL_law wsL_pledge := goodIn_ca (goodIn_ca (goodIn_ca (goodIn_r _ [309, 80, 81, 135, 310, 311, 312, 2, 313, 314, 175, 126, 178, 179, 180, 181, 86, 87, 17, 16, 94, 95, 96, 97, 98, 315, 316, 317, 23, 318, 44, 45, 141, 142, 143, 144, 145, 90, 91, 92, 93, 14, 319, 320, 321, 322, 323, 265, 38, 277, 278, 279, 280, 37, 281, 282, 283, 284, 36, 285, 286, 287, 288, 41, 591, 592, 593, 594, 595, 596, 597, 598, 599, 600, 601, 602, 603, 604, 605, 606, 607, 588, 589, 590, 559, 560, 561, 562, 563] (by decide +kernel) (by decide +kernel)) (goodIn_sub (fun _ h => List.mem_append_left _ (List.mem_append_left _ (List.mem_append_right _ h))) (by decide +kernel))) (goodIn_sub (fun _ h => List.mem_append_left _ (List.mem_append_right _ h)) (by decide +kernel))) (goodIn_sub (fun _ h => List.mem_append_right _ h) (by decide +kernel))
set_option maxRecDepth 20000 in
theorem gL_law_L_pledge : GoodIn wsL_law (va_wsS RL 124 yL_pledge wsL_pledge) := goodIn_app (goodIn_of _ (by decide +kernel)) ggL_law_L_pledge
set_option maxRecDepth 20000 in
theorem ggL_law_X3_pledge : GoodIn wsL_law wsX3_pledge := goodIn_r _ [327, 328, 63, 64, 57, 62, 329, 294, 65, 195, 196, 197, 5, 198, 150, 107, 108, 109, 110, 111, 112, 113, 114, 299, 300, 301, 302, 61, 60, 303, 304, 305, 306, 74, 564, 565, 566, 567, 568, 569, 570, 571, 572, 573, 574, 575, 576, 577, 578, 579, 580, 581, 582, 583, 584, 585, 586, 587] (by decide +kernel) (by decide +kernel)
set_option maxRecDepth 20000 in
theorem gL_law_X3_pledge : GoodIn wsL_law (wsV RL 126 RX3 yX3_pledge wsX3_pledge) := goodIn_app (goodIn_of _ (by decide +kernel)) ggL_law_X3_pledge
set_option maxRecDepth 20000 in
theorem ggL_law_L_sell : GoodIn wsL_law wsL_sell := goodIn_ca (goodIn_ca (goodIn_ca (goodIn_r _ [332, 80, 81, 135, 333, 334, 335, 2, 336, 314, 174, 175, 126, 178, 179, 180, 181, 86, 87, 17, 16, 94, 95, 96, 97, 98, 141, 142, 143, 144, 145, 90, 91, 92, 93, 14, 337, 338, 339, 23, 340, 341, 342, 283, 343, 38, 281, 282, 284, 44, 45, 344, 316, 317, 318, 277, 278, 279, 280, 37, 36, 285, 286, 287, 288, 41, 345, 346, 347, 348, 266, 229, 230, 231, 39, 591, 592, 593, 594, 595, 596, 597, 598, 599, 600, 601, 602, 603, 604, 605, 606, 607, 588, 589, 590, 559, 560, 561, 562, 563] (by decide +kernel) (by decide +kernel)) (goodIn_sub (fun _ h => List.mem_append_left _ (List.mem_append_left _ (List.mem_append_right _ h))) (by decide +kernel))) (goodIn_sub (fun _ h => List.mem_append_left _ (List.mem_append_right _ h)) (by decide +kernel))) (goodIn_sub (fun _ h => List.mem_append_right _ h) (by decide +kernel))
set_option maxRecDepth 20000 in
theorem gL_law_L_sell : GoodIn wsL_law (va_wsS RL 127 yL_sell wsL_sell) := goodIn_app (goodIn_of _ (by decide +kernel)) ggL_law_L_sell
set_option maxRecDepth 20000 in
theorem ggL_law_X3_sell : GoodIn wsL_law wsX3_sell := goodIn_r _ [352, 328, 63, 57, 62, 64, 65, 195, 196, 197, 5, 198, 150, 107, 108, 109, 110, 111, 112, 113, 114, 299, 300, 301, 302, 61, 60, 303, 304, 305, 306, 74, 237, 238, 239, 240, 75, 564, 565, 566, 567, 568, 569, 570, 571, 572, 573, 574, 575, 576, 577, 578, 579, 580, 581, 582, 583, 584, 585, 586, 587] (by decide +kernel) (by decide +kernel)
set_option maxRecDepth 20000 in
theorem gL_law_X3_sell : GoodIn wsL_law (wsV RL 129 RX3 yX3_sell wsX3_sell) := goodIn_app (goodIn_of _ (by decide +kernel)) ggL_law_X3_sell
set_option maxRecDepth 20000 in
theorem ggL_law_L_repay : GoodIn wsL_law wsL_repay := goodIn_ca (goodIn_ca (goodIn_ca (goodIn_r _ [355, 80, 81, 135, 356, 357, 358, 2, 359, 222, 360, 361, 178, 179, 180, 181, 86, 87, 17, 16, 94, 95, 96, 97, 98, 141, 142, 143, 144, 145, 362, 363, 364, 23, 365, 36, 285, 286, 287, 288, 37, 41, 591, 592, 593, 594, 595, 596, 597, 598, 599, 600, 601, 602, 603, 604, 605, 606, 607, 559, 560, 561, 562, 563] (by decide +kernel) (by decide +kernel)) (goodIn_sub (fun _ h => List.mem_append_left _ (List.mem_append_left _ (List.mem_append_right _ h))) (by decide +kernel))) (goodIn_sub (fun _ h => List.mem_append_left _ (List.mem_append_right _ h)) (by decide +kernel))) (goodIn_sub (fun _ h => List.mem_append_right _ h) (by decide +kernel))
set_option maxRecDepth 20000 in
theorem gL_law_L_repay : GoodIn wsL_law (va_wsS RL 130 yL_repay wsL_repay) := goodIn_app (goodIn_of _ (by decide +kernel)) ggL_law_L_repay
set_option maxRecDepth 20000 in
theorem ggL_law_X3_repay : GoodIn wsL_law wsX3_repay := goodIn_r _ [369, 236, 61, 60, 195, 196, 197, 5, 198, 150, 107, 108, 109, 110, 111, 112, 113, 114, 303, 304, 305, 306, 74, 564, 565, 566, 567, 568, 569, 570, 571, 572, 573, 574, 575, 576, 577, 578, 579, 580, 581, 582, 583, 584, 585, 586, 587] (by decide +kernel) (by decide +kernel)
set_option maxRecDepth 20000 in
theorem gL_law_X3_repay : GoodIn wsL_law (wsV RL 132 RX3 yX3_repay wsX3_repay) := goodIn_app (goodIn_of _ (by decide +kernel)) ggL_law_X3_repay
set_option maxRecDepth 20000 in
theorem ggL_law_L_close : GoodIn wsL_law wsL_close := goodIn_ca (goodIn_r _ [372, 135, 373, 374, 375, 2, 376, 19, 18, 17, 16, 141, 142, 143, 144, 145, 377, 378, 379, 23, 380, 40, 37, 36, 281, 282, 283, 284, 381, 382, 383, 384, 43, 42, 385, 363, 364, 365, 285, 286, 287, 288, 41, 386, 387, 388, 389, 360, 390, 391, 392, 393, 50, 394, 183, 184, 185, 47, 395, 396, 397, 398, 399, 264, 400, 401, 402, 403, 140, 404, 405, 406, 407, 408, 409, 410, 411, 412, 48, 49, 51, 559, 560, 561, 562, 563, 591, 592, 593, 594, 595, 596, 597, 598, 599, 600, 601, 602, 603, 604, 605, 606, 607] (by decide +kernel) (by decide +kernel)) (goodIn_sub (fun _ h => List.mem_append_right _ h) (by decide +kernel))
set_option maxRecDepth 20000 in
theorem gL_law_L_close : GoodIn wsL_law (va_wsS RL 133 yL_close wsL_close) := goodIn_app (goodIn_of _ (by decide +kernel)) ggL_law_L_close
set_option maxRecDepth 20000 in
theorem ggL_law_X3_close : GoodIn wsL_law wsX3_close := goodIn_r _ [416, 194, 417, 150, 73, 68, 72, 66, 61, 110, 111, 112, 5, 113, 114, 418, 419, 420, 421, 67, 60, 303, 304, 305, 306, 74, 422, 423, 424, 425, 426, 427, 428, 429, 59, 151, 152, 153, 154, 69, 70, 71, 564, 565, 566, 567, 568, 569, 570, 571, 572, 573, 574, 575, 576, 577, 578, 579, 580, 581, 582, 583, 584, 585, 586, 587] (by decide +kernel) (by decide +kernel)
set_option maxRecDepth 20000 in
theorem gL_law_X3_close : GoodIn wsL_law (wsV RL 135 RX3 yX3_close wsX3_close) := goodIn_app (goodIn_of _ (by decide +kernel)) ggL_law_X3_close
set_option maxRecDepth 20000 in
theorem ggL_law_X2_season : GoodIn wsL_law wsX2_season := goodIn_r _ [433, 18, 559, 560, 561, 562, 563] (by decide +kernel) (by decide +kernel)
set_option maxRecDepth 20000 in
theorem gL_law_X2_season : GoodIn wsL_law (wsV RL 136 RX2 yX2_season wsX2_season) := goodIn_app (goodIn_of _ (by decide +kernel)) ggL_law_X2_season
set_option maxRecDepth 20000 in
theorem ggL_law_X3_season : GoodIn wsL_law wsX3_season := goodIn_r _ [437, 417, 163, 164, 165, 5, 166, 114, 564, 565, 566, 567, 568, 569, 570, 571, 572, 573, 574, 575, 576, 577, 578, 579, 580, 581, 582, 583, 584, 585, 586, 587] (by decide +kernel) (by decide +kernel)
set_option maxRecDepth 20000 in
theorem gL_law_X3_season : GoodIn wsL_law (wsV RL 139 RX3 yX3_season wsX3_season) := goodIn_app (goodIn_of _ (by decide +kernel)) ggL_law_X3_season
set_option maxRecDepth 20000 in
theorem ggL_law_X2_stage : GoodIn wsL_law wsX2_stage := goodIn_r _ [441, 19, 559, 560, 561, 562, 563] (by decide +kernel) (by decide +kernel)
set_option maxRecDepth 20000 in
theorem gL_law_X2_stage : GoodIn wsL_law (wsV RL 140 RX2 yX2_stage wsX2_stage) := goodIn_app (goodIn_of _ (by decide +kernel)) ggL_law_X2_stage
set_option maxRecDepth 20000 in
theorem ggL_law_X3_stage : GoodIn wsL_law wsX3_stage := goodIn_r _ [445, 194, 163, 164, 165, 5, 166, 114, 564, 565, 566, 567, 568, 569, 570, 571, 572, 573, 574, 575, 576, 577, 578, 579, 580, 581, 582, 583, 584, 585, 586, 587] (by decide +kernel) (by decide +kernel)
set_option maxRecDepth 20000 in
theorem gL_law_X3_stage : GoodIn wsL_law (wsV RL 143 RX3 yX3_stage wsX3_stage) := goodIn_app (goodIn_of _ (by decide +kernel)) ggL_law_X3_stage
set_option maxRecDepth 20000 in
theorem ggL_law_L_limit : GoodIn wsL_law wsL_limit := goodIn_ca (goodIn_r _ [448, 80, 449, 450, 451, 2, 452, 178, 179, 180, 181, 86, 87, 17, 16, 224, 225, 226, 227, 176, 19, 177, 182, 183, 184, 23, 185, 47, 90, 91, 92, 93, 14, 186, 187, 188, 21, 189, 29, 559, 560, 561, 562, 563, 591, 592, 593, 594, 595, 596, 597, 598, 599, 600, 601, 602, 603, 604, 605, 606, 607, 588, 589, 590] (by decide +kernel) (by decide +kernel)) (goodIn_sub (fun _ h => List.mem_append_left _ (List.mem_append_left _ (List.mem_append_right _ h))) (by decide +kernel))
set_option maxRecDepth 20000 in
theorem gL_law_L_limit : GoodIn wsL_law (va_wsS RL 144 yL_limit wsL_limit) := goodIn_app (goodIn_of _ (by decide +kernel)) ggL_law_L_limit
set_option maxRecDepth 20000 in
theorem ggL_law_X3_limit : GoodIn wsL_law wsX3_limit := goodIn_r _ [456, 457, 458, 459, 5, 460, 195, 196, 197, 198, 150, 107, 108, 109, 110, 111, 112, 113, 114, 199, 200, 201, 202, 194, 68, 56, 69, 564, 565, 566, 567, 568, 569, 570, 571, 572, 573, 574, 575, 576, 577, 578, 579, 580, 581, 582, 583, 584, 585, 586, 587] (by decide +kernel) (by decide +kernel)
set_option maxRecDepth 20000 in
theorem gL_law_X3_limit : GoodIn wsL_law (wsV RL 146 RX3 yX3_limit wsX3_limit) := goodIn_app (goodIn_of _ (by decide +kernel)) ggL_law_X3_limit
set_option maxRecDepth 20000 in
theorem ggL_law_L_debt : GoodIn wsL_law wsL_debt := goodIn_ca (goodIn_r _ [463, 80, 464, 465, 466, 2, 467, 360, 178, 179, 180, 181, 86, 87, 17, 16, 591, 592, 593, 594, 595, 596, 597, 598, 599, 600, 601, 602, 603, 604, 605, 606, 607, 559, 560, 561, 562, 563] (by decide +kernel) (by decide +kernel)) (goodIn_sub (fun _ h => List.mem_append_left _ (List.mem_append_left _ (List.mem_append_right _ h))) (by decide +kernel))
set_option maxRecDepth 20000 in
theorem gL_law_L_debt : GoodIn wsL_law (va_wsS RL 147 yL_debt wsL_debt) := goodIn_app (goodIn_of _ (by decide +kernel)) ggL_law_L_debt
set_option maxRecDepth 20000 in
theorem ggL_law_X3_debt : GoodIn wsL_law wsX3_debt := goodIn_r _ [471, 61, 457, 458, 459, 5, 460, 195, 196, 197, 198, 150, 107, 108, 109, 110, 111, 112, 113, 114, 564, 565, 566, 567, 568, 569, 570, 571, 572, 573, 574, 575, 576, 577, 578, 579, 580, 581, 582, 583, 584, 585, 586, 587] (by decide +kernel) (by decide +kernel)
set_option maxRecDepth 20000 in
theorem gL_law_X3_debt : GoodIn wsL_law (wsV RL 149 RX3 yX3_debt wsX3_debt) := goodIn_app (goodIn_of _ (by decide +kernel)) ggL_law_X3_debt
set_option maxRecDepth 20000 in
theorem ggL_law_L_owes : GoodIn wsL_law wsL_owes := goodIn_ca (goodIn_r _ [474, 80, 475, 476, 477, 2, 478, 360, 479, 178, 179, 180, 181, 86, 87, 17, 16, 480, 481, 482, 23, 483, 43, 42, 591, 592, 593, 594, 595, 596, 597, 598, 599, 600, 601, 602, 603, 604, 605, 606, 607, 559, 560, 561, 562, 563] (by decide +kernel) (by decide +kernel)) (goodIn_sub (fun _ h => List.mem_append_left _ (List.mem_append_left _ (List.mem_append_right _ h))) (by decide +kernel))
set_option maxRecDepth 20000 in
theorem gL_law_L_owes : GoodIn wsL_law (va_wsS RL 150 yL_owes wsL_owes) := goodIn_app (goodIn_of _ (by decide +kernel)) ggL_law_L_owes
set_option maxRecDepth 20000 in
theorem ggL_law_X3_owes : GoodIn wsL_law wsX3_owes := goodIn_r _ [487, 61, 65, 66, 67, 457, 458, 459, 5, 460, 195, 196, 197, 198, 150, 107, 108, 109, 110, 111, 112, 113, 114, 564, 565, 566, 567, 568, 569, 570, 571, 572, 573, 574, 575, 576, 577, 578, 579, 580, 581, 582, 583, 584, 585, 586, 587] (by decide +kernel) (by decide +kernel)
set_option maxRecDepth 20000 in
theorem gL_law_X3_owes : GoodIn wsL_law (wsV RL 152 RX3 yX3_owes wsX3_owes) := goodIn_app (goodIn_of _ (by decide +kernel)) ggL_law_X3_owes
set_option maxRecDepth 20000 in
theorem ggL_law_L_instalments : GoodIn wsL_law wsL_instalments := goodIn_ca (goodIn_r _ [490, 80, 491, 492, 493, 2, 494, 495, 178, 179, 180, 181, 86, 87, 17, 16, 591, 592, 593, 594, 595, 596, 597, 598, 599, 600, 601, 602, 603, 604, 605, 606, 607, 559, 560, 561, 562, 563] (by decide +kernel) (by decide +kernel)) (goodIn_sub (fun _ h => List.mem_append_left _ (List.mem_append_left _ (List.mem_append_right _ h))) (by decide +kernel))
set_option maxRecDepth 20000 in
theorem gL_law_L_instalments : GoodIn wsL_law (va_wsS RL 153 yL_instalments wsL_instalments) := goodIn_app (goodIn_of _ (by decide +kernel)) ggL_law_L_instalments
set_option maxRecDepth 20000 in
theorem ggL_law_X3_instalments : GoodIn wsL_law wsX3_instalments := goodIn_r _ [499, 66, 457, 458, 459, 5, 460, 195, 196, 197, 198, 150, 107, 108, 109, 110, 111, 112, 113, 114, 564, 565, 566, 567, 568, 569, 570, 571, 572, 573, 574, 575, 576, 577, 578, 579, 580, 581, 582, 583, 584, 585, 586, 587] (by decide +kernel) (by decide +kernel)
set_option maxRecDepth 20000 in
theorem gL_law_X3_instalments : GoodIn wsL_law (wsV RL 155 RX3 yX3_instalments wsX3_instalments) := goodIn_app (goodIn_of _ (by decide +kernel)) ggL_law_X3_instalments
set_option maxRecDepth 20000 in
theorem ggL_law_L_purse : GoodIn wsL_law wsL_purse := goodIn_ca (goodIn_r _ [502, 80, 503, 504, 505, 2, 506, 361, 178, 179, 180, 181, 86, 87, 17, 16, 591, 592, 593, 594, 595, 596, 597, 598, 599, 600, 601, 602, 603, 604, 605, 606, 607, 559, 560, 561, 562, 563] (by decide +kernel) (by decide +kernel)) (goodIn_sub (fun _ h => List.mem_append_left _ (List.mem_append_left _ (List.mem_append_right _ h))) (by decide +kernel))
set_option maxRecDepth 20000 in
theorem gL_law_L_purse : GoodIn wsL_law (va_wsS RL 156 yL_purse wsL_purse) := goodIn_app (goodIn_of _ (by decide +kernel)) ggL_law_L_purse
set_option maxRecDepth 20000 in
theorem ggL_law_X3_purse : GoodIn wsL_law wsX3_purse := goodIn_r _ [510, 60, 457, 458, 459, 5, 460, 195, 196, 197, 198, 150, 107, 108, 109, 110, 111, 112, 113, 114, 564, 565, 566, 567, 568, 569, 570, 571, 572, 573, 574, 575, 576, 577, 578, 579, 580, 581, 582, 583, 584, 585, 586, 587] (by decide +kernel) (by decide +kernel)
set_option maxRecDepth 20000 in
theorem gL_law_X3_purse : GoodIn wsL_law (wsV RL 158 RX3 yX3_purse wsX3_purse) := goodIn_app (goodIn_of _ (by decide +kernel)) ggL_law_X3_purse
set_option maxRecDepth 20000 in
theorem ggL_law_L_grain : GoodIn wsL_law wsL_grain := goodIn_ca (goodIn_r _ [513, 80, 514, 515, 516, 2, 517, 518, 174, 178, 179, 180, 181, 86, 87, 17, 16, 591, 592, 593, 594, 595, 596, 597, 598, 599, 600, 601, 602, 603, 604, 605, 606, 607, 559, 560, 561, 562, 563] (by decide +kernel) (by decide +kernel)) (goodIn_sub (fun _ h => List.mem_append_left _ (List.mem_append_left _ (List.mem_append_right _ h))) (by decide +kernel))
set_option maxRecDepth 20000 in
theorem gL_law_L_grain : GoodIn wsL_law (va_wsS RL 159 yL_grain wsL_grain) := goodIn_app (goodIn_of _ (by decide +kernel)) ggL_law_L_grain
set_option maxRecDepth 20000 in
theorem ggL_law_X3_grain : GoodIn wsL_law wsX3_grain := goodIn_r _ [522, 64, 63, 457, 458, 459, 5, 460, 195, 196, 197, 198, 150, 107, 108, 109, 110, 111, 112, 113, 114, 564, 565, 566, 567, 568, 569, 570, 571, 572, 573, 574, 575, 576, 577, 578, 579, 580, 581, 582, 583, 584, 585, 586, 587] (by decide +kernel) (by decide +kernel)
set_option maxRecDepth 20000 in
theorem gL_law_X3_grain : GoodIn wsL_law (wsV RL 162 RX3 yX3_grain wsX3_grain) := goodIn_app (goodIn_of _ (by decide +kernel)) ggL_law_X3_grain
set_option maxRecDepth 20000 in
theorem ggL_law_L_called : GoodIn wsL_law wsL_called := goodIn_ca (goodIn_r _ [525, 80, 526, 527, 528, 2, 529, 530, 178, 179, 180, 181, 86, 87, 17, 16, 591, 592, 593, 594, 595, 596, 597, 598, 599, 600, 601, 602, 603, 604, 605, 606, 607, 559, 560, 561, 562, 563] (by decide +kernel) (by decide +kernel)) (goodIn_sub (fun _ h => List.mem_append_left _ (List.mem_append_left _ (List.mem_append_right _ h))) (by decide +kernel))
set_option maxRecDepth 20000 in
theorem gL_law_L_called : GoodIn wsL_law (va_wsS RL 163 yL_called wsL_called) := goodIn_app (goodIn_of _ (by decide +kernel)) ggL_law_L_called
set_option maxRecDepth 20000 in
theorem ggL_law_X3_called : GoodIn wsL_law wsX3_called := goodIn_r _ [534, 73, 457, 458, 459, 5, 460, 195, 196, 197, 198, 150, 107, 108, 109, 110, 111, 112, 113, 114, 564, 565, 566, 567, 568, 569, 570, 571, 572, 573, 574, 575, 576, 577, 578, 579, 580, 581, 582, 583, 584, 585, 586, 587] (by decide +kernel) (by decide +kernel)
set_option maxRecDepth 20000 in
theorem gL_law_X3_called : GoodIn wsL_law (wsV RL 165 RX3 yX3_called wsX3_called) := goodIn_app (goodIn_of _ (by decide +kernel)) ggL_law_X3_called
set_option maxRecDepth 20000 in
theorem ggL_law_L_repaid : GoodIn wsL_law wsL_repaid := goodIn_ca (goodIn_ca (goodIn_r _ [537, 80, 81, 538, 539, 540, 2, 541, 542, 178, 179, 180, 181, 86, 87, 17, 16, 94, 95, 96, 97, 98, 591, 592, 593, 594, 595, 596, 597, 598, 599, 600, 601, 602, 603, 604, 605, 606, 607, 559, 560, 561, 562, 563] (by decide +kernel) (by decide +kernel)) (goodIn_sub (fun _ h => List.mem_append_left _ (List.mem_append_left _ (List.mem_append_right _ h))) (by decide +kernel))) (goodIn_sub (fun _ h => List.mem_append_left _ (List.mem_append_right _ h)) (by decide +kernel))
set_option maxRecDepth 20000 in
theorem gL_law_L_repaid : GoodIn wsL_law (va_wsS RL 166 yL_repaid wsL_repaid) := goodIn_app (goodIn_of _ (by decide +kernel)) ggL_law_L_repaid
set_option maxRecDepth 20000 in
theorem ggL_law_X3_repaid : GoodIn wsL_law wsX3_repaid := goodIn_r _ [546, 74, 195, 196, 197, 5, 198, 150, 107, 108, 109, 110, 111, 112, 113, 114, 564, 565, 566, 567, 568, 569, 570, 571, 572, 573, 574, 575, 576, 577, 578, 579, 580, 581, 582, 583, 584, 585, 586, 587] (by decide +kernel) (by decide +kernel)
set_option maxRecDepth 20000 in
theorem gL_law_X3_repaid : GoodIn wsL_law (wsV RL 168 RX3 yX3_repaid wsX3_repaid) := goodIn_app (goodIn_of _ (by decide +kernel)) ggL_law_X3_repaid
set_option maxRecDepth 20000 in
theorem ggL_law_L_charged : GoodIn wsL_law wsL_charged := goodIn_ca (goodIn_r _ [549, 80, 550, 551, 552, 2, 553, 554, 178, 179, 180, 181, 86, 87, 17, 16, 591, 592, 593, 594, 595, 596, 597, 598, 599, 600, 601, 602, 603, 604, 605, 606, 607, 559, 560, 561, 562, 563] (by decide +kernel) (by decide +kernel)) (goodIn_sub (fun _ h => List.mem_append_left _ (List.mem_append_left _ (List.mem_append_right _ h))) (by decide +kernel))
set_option maxRecDepth 20000 in
theorem gL_law_L_charged : GoodIn wsL_law (va_wsS RL 169 yL_charged wsL_charged) := goodIn_app (goodIn_of _ (by decide +kernel)) ggL_law_L_charged
set_option maxRecDepth 20000 in
theorem ggL_law_X3_charged : GoodIn wsL_law wsX3_charged := goodIn_r _ [558, 75, 457, 458, 459, 5, 460, 195, 196, 197, 198, 150, 107, 108, 109, 110, 111, 112, 113, 114, 564, 565, 566, 567, 568, 569, 570, 571, 572, 573, 574, 575, 576, 577, 578, 579, 580, 581, 582, 583, 584, 585, 586, 587] (by decide +kernel) (by decide +kernel)
set_option maxRecDepth 20000 in
theorem gL_law_X3_charged : GoodIn wsL_law (wsV RL 171 RX3 yX3_charged wsX3_charged) := goodIn_app (goodIn_of _ (by decide +kernel)) ggL_law_X3_charged
end
section
theorem dL_law_0 : decode cL_law 0 = .ok (.new 8, 3) := by decide +kernel
theorem dL_law_3 : decode cL_law 3 = .ok (.dup, 1) := by decide +kernel
theorem dL_law_4 : decode cL_law 4 = .ok (.invokespecial 83, 3) := by decide +kernel
theorem dL_law_7 : decode cL_law 7 = .ok (.astore_n 1, 1) := by decide +kernel
theorem dL_law_8 : decode cL_law 8 = .ok (.new 84, 3) := by decide +kernel
theorem dL_law_11 : decode cL_law 11 = .ok (.dup, 1) := by decide +kernel
theorem dL_law_12 : decode cL_law 12 = .ok (.invokespecial 86, 3) := by decide +kernel
theorem dL_law_15 : decode cL_law 15 = .ok (.astore_n 2, 1) := by decide +kernel
theorem dL_law_16 : decode cL_law 16 = .ok (.iconst 1, 1) := by decide +kernel
theorem dL_law_17 : decode cL_law 17 = .ok (.newarray .long, 2) := by decide +kernel
theorem dL_law_19 : decode cL_law 19 = .ok (.astore_n 3, 1) := by decide +kernel
theorem dL_law_20 : decode cL_law 20 = .ok (.iconst 0, 1) := by decide +kernel
theorem dL_law_21 : decode cL_law 21 = .ok (.istore 4, 2) := by decide +kernel
theorem dL_law_23 : decode cL_law 23 = .ok (.iload 4, 2) := by decide +kernel
theorem dL_law_25 : decode cL_law 25 = .ok (.aload_n 0, 1) := by decide +kernel
theorem dL_law_26 : decode cL_law 26 = .ok (.arraylength, 1) := by decide +kernel
theorem dL_law_27 : decode cL_law 27 = .ok (.iconst 4, 1) := by decide +kernel
theorem dL_law_28 : decode cL_law 28 = .ok (.isub, 1) := by decide +kernel
theorem dL_law_29 : decode cL_law 29 = .ok (.if_icmp .gt 1500, 3) := by decide +kernel
theorem dL_law_32 : decode cL_law 32 = .ok (.aload_n 0, 1) := by decide +kernel
theorem dL_law_33 : decode cL_law 33 = .ok (.iload 4, 2) := by decide +kernel
theorem dL_law_35 : decode cL_law 35 = .ok (.iaload, 1) := by decide +kernel
theorem dL_law_36 : decode cL_law 36 = .ok (.bipush 31, 2) := by decide +kernel
theorem dL_law_38 : decode cL_law 38 = .ok (.iand, 1) := by decide +kernel
theorem dL_law_39 : decode cL_law 39 = .ok (.tableswitch 1484 0 23 #[109, 189, 269, 325, 338, 418, 486, 554, 622, 666, 734, 802, 870, 914, 927, 940, 996, 1052, 1108, 1164, 1220, 1304, 1360, 1428], 109) := by decide +kernel
theorem dL_law_148 : decode cL_law 148 = .ok (.aload_n 1, 1) := by decide +kernel
theorem dL_law_149 : decode cL_law 149 = .ok (.aload_n 0, 1) := by decide +kernel
theorem dL_law_150 : decode cL_law 150 = .ok (.iload 4, 2) := by decide +kernel
theorem dL_law_152 : decode cL_law 152 = .ok (.iconst 1, 1) := by decide +kernel
theorem dL_law_153 : decode cL_law 153 = .ok (.iadd, 1) := by decide +kernel
theorem dL_law_154 : decode cL_law 154 = .ok (.iaload, 1) := by decide +kernel
theorem dL_law_155 : decode cL_law 155 = .ok (.aload_n 0, 1) := by decide +kernel
theorem dL_law_156 : decode cL_law 156 = .ok (.iload 4, 2) := by decide +kernel
theorem dL_law_158 : decode cL_law 158 = .ok (.iconst 2, 1) := by decide +kernel
theorem dL_law_159 : decode cL_law 159 = .ok (.iadd, 1) := by decide +kernel
theorem dL_law_160 : decode cL_law 160 = .ok (.iaload, 1) := by decide +kernel
theorem dL_law_161 : decode cL_law 161 = .ok (.aload_n 0, 1) := by decide +kernel
theorem dL_law_162 : decode cL_law 162 = .ok (.iload 4, 2) := by decide +kernel
theorem dL_law_164 : decode cL_law 164 = .ok (.iconst 3, 1) := by decide +kernel
theorem dL_law_165 : decode cL_law 165 = .ok (.iadd, 1) := by decide +kernel
theorem dL_law_166 : decode cL_law 166 = .ok (.iaload, 1) := by decide +kernel
theorem dL_law_167 : decode cL_law 167 = .ok (.aload_n 3, 1) := by decide +kernel
theorem dL_law_168 : decode cL_law 168 = .ok (.invokestatic 87, 3) := by decide +kernel
theorem dL_law_171 : decode cL_law 171 = .ok (.istore 5, 2) := by decide +kernel
theorem dL_law_173 : decode cL_law 173 = .ok (.aload_n 2, 1) := by decide +kernel
theorem dL_law_174 : decode cL_law 174 = .ok (.aload_n 0, 1) := by decide +kernel
theorem dL_law_175 : decode cL_law 175 = .ok (.iload 4, 2) := by decide +kernel
theorem dL_law_177 : decode cL_law 177 = .ok (.iconst 1, 1) := by decide +kernel
theorem dL_law_178 : decode cL_law 178 = .ok (.iadd, 1) := by decide +kernel
theorem dL_law_179 : decode cL_law 179 = .ok (.iaload, 1) := by decide +kernel
theorem dL_law_180 : decode cL_law 180 = .ok (.aload_n 0, 1) := by decide +kernel
theorem dL_law_181 : decode cL_law 181 = .ok (.iload 4, 2) := by decide +kernel
theorem dL_law_183 : decode cL_law 183 = .ok (.iconst 2, 1) := by decide +kernel
theorem dL_law_184 : decode cL_law 184 = .ok (.iadd, 1) := by decide +kernel
theorem dL_law_185 : decode cL_law 185 = .ok (.iaload, 1) := by decide +kernel
theorem dL_law_186 : decode cL_law 186 = .ok (.aload_n 0, 1) := by decide +kernel
theorem dL_law_187 : decode cL_law 187 = .ok (.iload 4, 2) := by decide +kernel
theorem dL_law_189 : decode cL_law 189 = .ok (.iconst 3, 1) := by decide +kernel
theorem dL_law_190 : decode cL_law 190 = .ok (.iadd, 1) := by decide +kernel
theorem dL_law_191 : decode cL_law 191 = .ok (.iaload, 1) := by decide +kernel
theorem dL_law_192 : decode cL_law 192 = .ok (.invokevirtual 92, 3) := by decide +kernel
theorem dL_law_195 : decode cL_law 195 = .ok (.istore 6, 2) := by decide +kernel
theorem dL_law_197 : decode cL_law 197 = .ok (.aload_n 2, 1) := by decide +kernel
theorem dL_law_198 : decode cL_law 198 = .ok (.invokevirtual 93, 3) := by decide +kernel
theorem dL_law_201 : decode cL_law 201 = .ok (.iload 5, 2) := by decide +kernel
theorem dL_law_203 : decode cL_law 203 = .ok (.if_icmp .eq 5, 3) := by decide +kernel
theorem dL_law_206 : decode cL_law 206 = .ok (.iconst 0, 1) := by decide +kernel
theorem dL_law_207 : decode cL_law 207 = .ok (.ireturn, 1) := by decide +kernel
theorem dL_law_208 : decode cL_law 208 = .ok (.iload 5, 2) := by decide +kernel
theorem dL_law_210 : decode cL_law 210 = .ok (.ifCond .ne 15, 3) := by decide +kernel
theorem dL_law_213 : decode cL_law 213 = .ok (.aload_n 3, 1) := by decide +kernel
theorem dL_law_214 : decode cL_law 214 = .ok (.iconst 0, 1) := by decide +kernel
theorem dL_law_215 : decode cL_law 215 = .ok (.laload, 1) := by decide +kernel
theorem dL_law_216 : decode cL_law 216 = .ok (.iload 6, 2) := by decide +kernel
theorem dL_law_218 : decode cL_law 218 = .ok (.i2l, 1) := by decide +kernel
theorem dL_law_219 : decode cL_law 219 = .ok (.lcmp, 1) := by decide +kernel
theorem dL_law_220 : decode cL_law 220 = .ok (.ifCond .eq 5, 3) := by decide +kernel
theorem dL_law_223 : decode cL_law 223 = .ok (.iconst 0, 1) := by decide +kernel
theorem dL_law_224 : decode cL_law 224 = .ok (.ireturn, 1) := by decide +kernel
theorem dL_law_225 : decode cL_law 225 = .ok (.goto 1298, 3) := by decide +kernel
theorem dL_law_228 : decode cL_law 228 = .ok (.aload_n 1, 1) := by decide +kernel
theorem dL_law_229 : decode cL_law 229 = .ok (.aload_n 0, 1) := by decide +kernel
theorem dL_law_230 : decode cL_law 230 = .ok (.iload 4, 2) := by decide +kernel
theorem dL_law_232 : decode cL_law 232 = .ok (.iconst 1, 1) := by decide +kernel
theorem dL_law_233 : decode cL_law 233 = .ok (.iadd, 1) := by decide +kernel
theorem dL_law_234 : decode cL_law 234 = .ok (.iaload, 1) := by decide +kernel
theorem dL_law_235 : decode cL_law 235 = .ok (.aload_n 0, 1) := by decide +kernel
theorem dL_law_236 : decode cL_law 236 = .ok (.iload 4, 2) := by decide +kernel
theorem dL_law_238 : decode cL_law 238 = .ok (.iconst 2, 1) := by decide +kernel
theorem dL_law_239 : decode cL_law 239 = .ok (.iadd, 1) := by decide +kernel
theorem dL_law_240 : decode cL_law 240 = .ok (.iaload, 1) := by decide +kernel
theorem dL_law_241 : decode cL_law 241 = .ok (.aload_n 0, 1) := by decide +kernel
theorem dL_law_242 : decode cL_law 242 = .ok (.iload 4, 2) := by decide +kernel
theorem dL_law_244 : decode cL_law 244 = .ok (.iconst 3, 1) := by decide +kernel
theorem dL_law_245 : decode cL_law 245 = .ok (.iadd, 1) := by decide +kernel
theorem dL_law_246 : decode cL_law 246 = .ok (.iaload, 1) := by decide +kernel
theorem dL_law_247 : decode cL_law 247 = .ok (.aload_n 3, 1) := by decide +kernel
theorem dL_law_248 : decode cL_law 248 = .ok (.invokestatic 96, 3) := by decide +kernel
theorem dL_law_251 : decode cL_law 251 = .ok (.istore 5, 2) := by decide +kernel
theorem dL_law_253 : decode cL_law 253 = .ok (.aload_n 2, 1) := by decide +kernel
theorem dL_law_254 : decode cL_law 254 = .ok (.aload_n 0, 1) := by decide +kernel
theorem dL_law_255 : decode cL_law 255 = .ok (.iload 4, 2) := by decide +kernel
theorem dL_law_257 : decode cL_law 257 = .ok (.iconst 1, 1) := by decide +kernel
theorem dL_law_258 : decode cL_law 258 = .ok (.iadd, 1) := by decide +kernel
theorem dL_law_259 : decode cL_law 259 = .ok (.iaload, 1) := by decide +kernel
theorem dL_law_260 : decode cL_law 260 = .ok (.aload_n 0, 1) := by decide +kernel
theorem dL_law_261 : decode cL_law 261 = .ok (.iload 4, 2) := by decide +kernel
theorem dL_law_263 : decode cL_law 263 = .ok (.iconst 2, 1) := by decide +kernel
theorem dL_law_264 : decode cL_law 264 = .ok (.iadd, 1) := by decide +kernel
theorem dL_law_265 : decode cL_law 265 = .ok (.iaload, 1) := by decide +kernel
theorem dL_law_266 : decode cL_law 266 = .ok (.aload_n 0, 1) := by decide +kernel
theorem dL_law_267 : decode cL_law 267 = .ok (.iload 4, 2) := by decide +kernel
theorem dL_law_269 : decode cL_law 269 = .ok (.iconst 3, 1) := by decide +kernel
theorem dL_law_270 : decode cL_law 270 = .ok (.iadd, 1) := by decide +kernel
theorem dL_law_271 : decode cL_law 271 = .ok (.iaload, 1) := by decide +kernel
theorem dL_law_272 : decode cL_law 272 = .ok (.invokevirtual 98, 3) := by decide +kernel
theorem dL_law_275 : decode cL_law 275 = .ok (.istore 6, 2) := by decide +kernel
theorem dL_law_277 : decode cL_law 277 = .ok (.aload_n 2, 1) := by decide +kernel
theorem dL_law_278 : decode cL_law 278 = .ok (.invokevirtual 93, 3) := by decide +kernel
theorem dL_law_281 : decode cL_law 281 = .ok (.iload 5, 2) := by decide +kernel
theorem dL_law_283 : decode cL_law 283 = .ok (.if_icmp .eq 5, 3) := by decide +kernel
theorem dL_law_286 : decode cL_law 286 = .ok (.iconst 0, 1) := by decide +kernel
theorem dL_law_287 : decode cL_law 287 = .ok (.ireturn, 1) := by decide +kernel
theorem dL_law_288 : decode cL_law 288 = .ok (.iload 5, 2) := by decide +kernel
theorem dL_law_290 : decode cL_law 290 = .ok (.ifCond .ne 15, 3) := by decide +kernel
theorem dL_law_293 : decode cL_law 293 = .ok (.aload_n 3, 1) := by decide +kernel
theorem dL_law_294 : decode cL_law 294 = .ok (.iconst 0, 1) := by decide +kernel
theorem dL_law_295 : decode cL_law 295 = .ok (.laload, 1) := by decide +kernel
theorem dL_law_296 : decode cL_law 296 = .ok (.iload 6, 2) := by decide +kernel
theorem dL_law_298 : decode cL_law 298 = .ok (.i2l, 1) := by decide +kernel
theorem dL_law_299 : decode cL_law 299 = .ok (.lcmp, 1) := by decide +kernel
theorem dL_law_300 : decode cL_law 300 = .ok (.ifCond .eq 5, 3) := by decide +kernel
theorem dL_law_303 : decode cL_law 303 = .ok (.iconst 0, 1) := by decide +kernel
theorem dL_law_304 : decode cL_law 304 = .ok (.ireturn, 1) := by decide +kernel
theorem dL_law_305 : decode cL_law 305 = .ok (.goto 1218, 3) := by decide +kernel
theorem dL_law_308 : decode cL_law 308 = .ok (.aload_n 1, 1) := by decide +kernel
theorem dL_law_309 : decode cL_law 309 = .ok (.aload_n 0, 1) := by decide +kernel
theorem dL_law_310 : decode cL_law 310 = .ok (.iload 4, 2) := by decide +kernel
theorem dL_law_312 : decode cL_law 312 = .ok (.iconst 1, 1) := by decide +kernel
theorem dL_law_313 : decode cL_law 313 = .ok (.iadd, 1) := by decide +kernel
theorem dL_law_314 : decode cL_law 314 = .ok (.iaload, 1) := by decide +kernel
theorem dL_law_315 : decode cL_law 315 = .ok (.aload_n 3, 1) := by decide +kernel
theorem dL_law_316 : decode cL_law 316 = .ok (.invokestatic 99, 3) := by decide +kernel
theorem dL_law_319 : decode cL_law 319 = .ok (.istore 5, 2) := by decide +kernel
theorem dL_law_321 : decode cL_law 321 = .ok (.aload_n 2, 1) := by decide +kernel
theorem dL_law_322 : decode cL_law 322 = .ok (.aload_n 0, 1) := by decide +kernel
theorem dL_law_323 : decode cL_law 323 = .ok (.iload 4, 2) := by decide +kernel
theorem dL_law_325 : decode cL_law 325 = .ok (.iconst 1, 1) := by decide +kernel
theorem dL_law_326 : decode cL_law 326 = .ok (.iadd, 1) := by decide +kernel
theorem dL_law_327 : decode cL_law 327 = .ok (.iaload, 1) := by decide +kernel
theorem dL_law_328 : decode cL_law 328 = .ok (.invokevirtual 102, 3) := by decide +kernel
theorem dL_law_331 : decode cL_law 331 = .ok (.istore 6, 2) := by decide +kernel
theorem dL_law_333 : decode cL_law 333 = .ok (.aload_n 2, 1) := by decide +kernel
theorem dL_law_334 : decode cL_law 334 = .ok (.invokevirtual 93, 3) := by decide +kernel
theorem dL_law_337 : decode cL_law 337 = .ok (.iload 5, 2) := by decide +kernel
theorem dL_law_339 : decode cL_law 339 = .ok (.if_icmp .eq 5, 3) := by decide +kernel
theorem dL_law_342 : decode cL_law 342 = .ok (.iconst 0, 1) := by decide +kernel
theorem dL_law_343 : decode cL_law 343 = .ok (.ireturn, 1) := by decide +kernel
theorem dL_law_344 : decode cL_law 344 = .ok (.iload 5, 2) := by decide +kernel
theorem dL_law_346 : decode cL_law 346 = .ok (.ifCond .ne 15, 3) := by decide +kernel
theorem dL_law_349 : decode cL_law 349 = .ok (.aload_n 3, 1) := by decide +kernel
theorem dL_law_350 : decode cL_law 350 = .ok (.iconst 0, 1) := by decide +kernel
theorem dL_law_351 : decode cL_law 351 = .ok (.laload, 1) := by decide +kernel
theorem dL_law_352 : decode cL_law 352 = .ok (.iload 6, 2) := by decide +kernel
theorem dL_law_354 : decode cL_law 354 = .ok (.i2l, 1) := by decide +kernel
theorem dL_law_355 : decode cL_law 355 = .ok (.lcmp, 1) := by decide +kernel
theorem dL_law_356 : decode cL_law 356 = .ok (.ifCond .eq 5, 3) := by decide +kernel
theorem dL_law_359 : decode cL_law 359 = .ok (.iconst 0, 1) := by decide +kernel
theorem dL_law_360 : decode cL_law 360 = .ok (.ireturn, 1) := by decide +kernel
theorem dL_law_361 : decode cL_law 361 = .ok (.goto 1162, 3) := by decide +kernel
theorem dL_law_364 : decode cL_law 364 = .ok (.aload_n 1, 1) := by decide +kernel
theorem dL_law_365 : decode cL_law 365 = .ok (.invokevirtual 103, 3) := by decide +kernel
theorem dL_law_368 : decode cL_law 368 = .ok (.aload_n 2, 1) := by decide +kernel
theorem dL_law_369 : decode cL_law 369 = .ok (.invokevirtual 106, 3) := by decide +kernel
theorem dL_law_372 : decode cL_law 372 = .ok (.if_icmp .eq 1151, 3) := by decide +kernel
theorem dL_law_375 : decode cL_law 375 = .ok (.iconst 0, 1) := by decide +kernel
theorem dL_law_376 : decode cL_law 376 = .ok (.ireturn, 1) := by decide +kernel
theorem dL_law_377 : decode cL_law 377 = .ok (.aload_n 1, 1) := by decide +kernel
theorem dL_law_378 : decode cL_law 378 = .ok (.aload_n 0, 1) := by decide +kernel
theorem dL_law_379 : decode cL_law 379 = .ok (.iload 4, 2) := by decide +kernel
theorem dL_law_381 : decode cL_law 381 = .ok (.iconst 1, 1) := by decide +kernel
theorem dL_law_382 : decode cL_law 382 = .ok (.iadd, 1) := by decide +kernel
theorem dL_law_383 : decode cL_law 383 = .ok (.iaload, 1) := by decide +kernel
theorem dL_law_384 : decode cL_law 384 = .ok (.aload_n 0, 1) := by decide +kernel
theorem dL_law_385 : decode cL_law 385 = .ok (.iload 4, 2) := by decide +kernel
theorem dL_law_387 : decode cL_law 387 = .ok (.iconst 2, 1) := by decide +kernel
theorem dL_law_388 : decode cL_law 388 = .ok (.iadd, 1) := by decide +kernel
theorem dL_law_389 : decode cL_law 389 = .ok (.iaload, 1) := by decide +kernel
theorem dL_law_390 : decode cL_law 390 = .ok (.aload_n 0, 1) := by decide +kernel
theorem dL_law_391 : decode cL_law 391 = .ok (.iload 4, 2) := by decide +kernel
theorem dL_law_393 : decode cL_law 393 = .ok (.iconst 3, 1) := by decide +kernel
theorem dL_law_394 : decode cL_law 394 = .ok (.iadd, 1) := by decide +kernel
theorem dL_law_395 : decode cL_law 395 = .ok (.iaload, 1) := by decide +kernel
theorem dL_law_396 : decode cL_law 396 = .ok (.aload_n 3, 1) := by decide +kernel
theorem dL_law_397 : decode cL_law 397 = .ok (.invokestatic 107, 3) := by decide +kernel
theorem dL_law_400 : decode cL_law 400 = .ok (.istore 5, 2) := by decide +kernel
theorem dL_law_402 : decode cL_law 402 = .ok (.aload_n 2, 1) := by decide +kernel
theorem dL_law_403 : decode cL_law 403 = .ok (.aload_n 0, 1) := by decide +kernel
theorem dL_law_404 : decode cL_law 404 = .ok (.iload 4, 2) := by decide +kernel
theorem dL_law_406 : decode cL_law 406 = .ok (.iconst 1, 1) := by decide +kernel
theorem dL_law_407 : decode cL_law 407 = .ok (.iadd, 1) := by decide +kernel
theorem dL_law_408 : decode cL_law 408 = .ok (.iaload, 1) := by decide +kernel
theorem dL_law_409 : decode cL_law 409 = .ok (.aload_n 0, 1) := by decide +kernel
theorem dL_law_410 : decode cL_law 410 = .ok (.iload 4, 2) := by decide +kernel
theorem dL_law_412 : decode cL_law 412 = .ok (.iconst 2, 1) := by decide +kernel
theorem dL_law_413 : decode cL_law 413 = .ok (.iadd, 1) := by decide +kernel
theorem dL_law_414 : decode cL_law 414 = .ok (.iaload, 1) := by decide +kernel
theorem dL_law_415 : decode cL_law 415 = .ok (.aload_n 0, 1) := by decide +kernel
theorem dL_law_416 : decode cL_law 416 = .ok (.iload 4, 2) := by decide +kernel
theorem dL_law_418 : decode cL_law 418 = .ok (.iconst 3, 1) := by decide +kernel
theorem dL_law_419 : decode cL_law 419 = .ok (.iadd, 1) := by decide +kernel
theorem dL_law_420 : decode cL_law 420 = .ok (.iaload, 1) := by decide +kernel
theorem dL_law_421 : decode cL_law 421 = .ok (.invokevirtual 109, 3) := by decide +kernel
theorem dL_law_424 : decode cL_law 424 = .ok (.istore 6, 2) := by decide +kernel
theorem dL_law_426 : decode cL_law 426 = .ok (.aload_n 2, 1) := by decide +kernel
theorem dL_law_427 : decode cL_law 427 = .ok (.invokevirtual 93, 3) := by decide +kernel
theorem dL_law_430 : decode cL_law 430 = .ok (.iload 5, 2) := by decide +kernel
theorem dL_law_432 : decode cL_law 432 = .ok (.if_icmp .eq 5, 3) := by decide +kernel
theorem dL_law_435 : decode cL_law 435 = .ok (.iconst 0, 1) := by decide +kernel
theorem dL_law_436 : decode cL_law 436 = .ok (.ireturn, 1) := by decide +kernel
theorem dL_law_437 : decode cL_law 437 = .ok (.iload 5, 2) := by decide +kernel
theorem dL_law_439 : decode cL_law 439 = .ok (.ifCond .ne 15, 3) := by decide +kernel
theorem dL_law_442 : decode cL_law 442 = .ok (.aload_n 3, 1) := by decide +kernel
theorem dL_law_443 : decode cL_law 443 = .ok (.iconst 0, 1) := by decide +kernel
theorem dL_law_444 : decode cL_law 444 = .ok (.laload, 1) := by decide +kernel
theorem dL_law_445 : decode cL_law 445 = .ok (.iload 6, 2) := by decide +kernel
theorem dL_law_447 : decode cL_law 447 = .ok (.i2l, 1) := by decide +kernel
theorem dL_law_448 : decode cL_law 448 = .ok (.lcmp, 1) := by decide +kernel
theorem dL_law_449 : decode cL_law 449 = .ok (.ifCond .eq 5, 3) := by decide +kernel
theorem dL_law_452 : decode cL_law 452 = .ok (.iconst 0, 1) := by decide +kernel
end
section
theorem dL_law_453 : decode cL_law 453 = .ok (.ireturn, 1) := by decide +kernel
theorem dL_law_454 : decode cL_law 454 = .ok (.goto 1069, 3) := by decide +kernel
theorem dL_law_457 : decode cL_law 457 = .ok (.aload_n 1, 1) := by decide +kernel
theorem dL_law_458 : decode cL_law 458 = .ok (.aload_n 0, 1) := by decide +kernel
theorem dL_law_459 : decode cL_law 459 = .ok (.iload 4, 2) := by decide +kernel
theorem dL_law_461 : decode cL_law 461 = .ok (.iconst 1, 1) := by decide +kernel
theorem dL_law_462 : decode cL_law 462 = .ok (.iadd, 1) := by decide +kernel
theorem dL_law_463 : decode cL_law 463 = .ok (.iaload, 1) := by decide +kernel
theorem dL_law_464 : decode cL_law 464 = .ok (.aload_n 0, 1) := by decide +kernel
theorem dL_law_465 : decode cL_law 465 = .ok (.iload 4, 2) := by decide +kernel
theorem dL_law_467 : decode cL_law 467 = .ok (.iconst 2, 1) := by decide +kernel
theorem dL_law_468 : decode cL_law 468 = .ok (.iadd, 1) := by decide +kernel
theorem dL_law_469 : decode cL_law 469 = .ok (.iaload, 1) := by decide +kernel
theorem dL_law_470 : decode cL_law 470 = .ok (.aload_n 3, 1) := by decide +kernel
theorem dL_law_471 : decode cL_law 471 = .ok (.invokestatic 110, 3) := by decide +kernel
theorem dL_law_474 : decode cL_law 474 = .ok (.istore 5, 2) := by decide +kernel
theorem dL_law_476 : decode cL_law 476 = .ok (.aload_n 2, 1) := by decide +kernel
theorem dL_law_477 : decode cL_law 477 = .ok (.aload_n 0, 1) := by decide +kernel
theorem dL_law_478 : decode cL_law 478 = .ok (.iload 4, 2) := by decide +kernel
theorem dL_law_480 : decode cL_law 480 = .ok (.iconst 1, 1) := by decide +kernel
theorem dL_law_481 : decode cL_law 481 = .ok (.iadd, 1) := by decide +kernel
theorem dL_law_482 : decode cL_law 482 = .ok (.iaload, 1) := by decide +kernel
theorem dL_law_483 : decode cL_law 483 = .ok (.aload_n 0, 1) := by decide +kernel
theorem dL_law_484 : decode cL_law 484 = .ok (.iload 4, 2) := by decide +kernel
theorem dL_law_486 : decode cL_law 486 = .ok (.iconst 2, 1) := by decide +kernel
theorem dL_law_487 : decode cL_law 487 = .ok (.iadd, 1) := by decide +kernel
theorem dL_law_488 : decode cL_law 488 = .ok (.iaload, 1) := by decide +kernel
theorem dL_law_489 : decode cL_law 489 = .ok (.invokevirtual 113, 3) := by decide +kernel
theorem dL_law_492 : decode cL_law 492 = .ok (.istore 6, 2) := by decide +kernel
theorem dL_law_494 : decode cL_law 494 = .ok (.aload_n 2, 1) := by decide +kernel
theorem dL_law_495 : decode cL_law 495 = .ok (.invokevirtual 93, 3) := by decide +kernel
theorem dL_law_498 : decode cL_law 498 = .ok (.iload 5, 2) := by decide +kernel
theorem dL_law_500 : decode cL_law 500 = .ok (.if_icmp .eq 5, 3) := by decide +kernel
theorem dL_law_503 : decode cL_law 503 = .ok (.iconst 0, 1) := by decide +kernel
theorem dL_law_504 : decode cL_law 504 = .ok (.ireturn, 1) := by decide +kernel
theorem dL_law_505 : decode cL_law 505 = .ok (.iload 5, 2) := by decide +kernel
theorem dL_law_507 : decode cL_law 507 = .ok (.ifCond .ne 15, 3) := by decide +kernel
theorem dL_law_510 : decode cL_law 510 = .ok (.aload_n 3, 1) := by decide +kernel
theorem dL_law_511 : decode cL_law 511 = .ok (.iconst 0, 1) := by decide +kernel
theorem dL_law_512 : decode cL_law 512 = .ok (.laload, 1) := by decide +kernel
theorem dL_law_513 : decode cL_law 513 = .ok (.iload 6, 2) := by decide +kernel
theorem dL_law_515 : decode cL_law 515 = .ok (.i2l, 1) := by decide +kernel
theorem dL_law_516 : decode cL_law 516 = .ok (.lcmp, 1) := by decide +kernel
theorem dL_law_517 : decode cL_law 517 = .ok (.ifCond .eq 5, 3) := by decide +kernel
theorem dL_law_520 : decode cL_law 520 = .ok (.iconst 0, 1) := by decide +kernel
theorem dL_law_521 : decode cL_law 521 = .ok (.ireturn, 1) := by decide +kernel
theorem dL_law_522 : decode cL_law 522 = .ok (.goto 1001, 3) := by decide +kernel
theorem dL_law_525 : decode cL_law 525 = .ok (.aload_n 1, 1) := by decide +kernel
theorem dL_law_526 : decode cL_law 526 = .ok (.aload_n 0, 1) := by decide +kernel
theorem dL_law_527 : decode cL_law 527 = .ok (.iload 4, 2) := by decide +kernel
theorem dL_law_529 : decode cL_law 529 = .ok (.iconst 1, 1) := by decide +kernel
theorem dL_law_530 : decode cL_law 530 = .ok (.iadd, 1) := by decide +kernel
theorem dL_law_531 : decode cL_law 531 = .ok (.iaload, 1) := by decide +kernel
theorem dL_law_532 : decode cL_law 532 = .ok (.aload_n 0, 1) := by decide +kernel
theorem dL_law_533 : decode cL_law 533 = .ok (.iload 4, 2) := by decide +kernel
theorem dL_law_535 : decode cL_law 535 = .ok (.iconst 2, 1) := by decide +kernel
theorem dL_law_536 : decode cL_law 536 = .ok (.iadd, 1) := by decide +kernel
theorem dL_law_537 : decode cL_law 537 = .ok (.iaload, 1) := by decide +kernel
theorem dL_law_538 : decode cL_law 538 = .ok (.aload_n 3, 1) := by decide +kernel
theorem dL_law_539 : decode cL_law 539 = .ok (.invokestatic 114, 3) := by decide +kernel
theorem dL_law_542 : decode cL_law 542 = .ok (.istore 5, 2) := by decide +kernel
theorem dL_law_544 : decode cL_law 544 = .ok (.aload_n 2, 1) := by decide +kernel
theorem dL_law_545 : decode cL_law 545 = .ok (.aload_n 0, 1) := by decide +kernel
theorem dL_law_546 : decode cL_law 546 = .ok (.iload 4, 2) := by decide +kernel
theorem dL_law_548 : decode cL_law 548 = .ok (.iconst 1, 1) := by decide +kernel
theorem dL_law_549 : decode cL_law 549 = .ok (.iadd, 1) := by decide +kernel
theorem dL_law_550 : decode cL_law 550 = .ok (.iaload, 1) := by decide +kernel
theorem dL_law_551 : decode cL_law 551 = .ok (.aload_n 0, 1) := by decide +kernel
theorem dL_law_552 : decode cL_law 552 = .ok (.iload 4, 2) := by decide +kernel
theorem dL_law_554 : decode cL_law 554 = .ok (.iconst 2, 1) := by decide +kernel
theorem dL_law_555 : decode cL_law 555 = .ok (.iadd, 1) := by decide +kernel
theorem dL_law_556 : decode cL_law 556 = .ok (.iaload, 1) := by decide +kernel
theorem dL_law_557 : decode cL_law 557 = .ok (.invokevirtual 116, 3) := by decide +kernel
theorem dL_law_560 : decode cL_law 560 = .ok (.istore 6, 2) := by decide +kernel
theorem dL_law_562 : decode cL_law 562 = .ok (.aload_n 2, 1) := by decide +kernel
theorem dL_law_563 : decode cL_law 563 = .ok (.invokevirtual 93, 3) := by decide +kernel
theorem dL_law_566 : decode cL_law 566 = .ok (.iload 5, 2) := by decide +kernel
theorem dL_law_568 : decode cL_law 568 = .ok (.if_icmp .eq 5, 3) := by decide +kernel
theorem dL_law_571 : decode cL_law 571 = .ok (.iconst 0, 1) := by decide +kernel
theorem dL_law_572 : decode cL_law 572 = .ok (.ireturn, 1) := by decide +kernel
theorem dL_law_573 : decode cL_law 573 = .ok (.iload 5, 2) := by decide +kernel
theorem dL_law_575 : decode cL_law 575 = .ok (.ifCond .ne 15, 3) := by decide +kernel
theorem dL_law_578 : decode cL_law 578 = .ok (.aload_n 3, 1) := by decide +kernel
theorem dL_law_579 : decode cL_law 579 = .ok (.iconst 0, 1) := by decide +kernel
theorem dL_law_580 : decode cL_law 580 = .ok (.laload, 1) := by decide +kernel
theorem dL_law_581 : decode cL_law 581 = .ok (.iload 6, 2) := by decide +kernel
theorem dL_law_583 : decode cL_law 583 = .ok (.i2l, 1) := by decide +kernel
theorem dL_law_584 : decode cL_law 584 = .ok (.lcmp, 1) := by decide +kernel
theorem dL_law_585 : decode cL_law 585 = .ok (.ifCond .eq 5, 3) := by decide +kernel
theorem dL_law_588 : decode cL_law 588 = .ok (.iconst 0, 1) := by decide +kernel
theorem dL_law_589 : decode cL_law 589 = .ok (.ireturn, 1) := by decide +kernel
theorem dL_law_590 : decode cL_law 590 = .ok (.goto 933, 3) := by decide +kernel
theorem dL_law_593 : decode cL_law 593 = .ok (.aload_n 1, 1) := by decide +kernel
theorem dL_law_594 : decode cL_law 594 = .ok (.aload_n 0, 1) := by decide +kernel
theorem dL_law_595 : decode cL_law 595 = .ok (.iload 4, 2) := by decide +kernel
theorem dL_law_597 : decode cL_law 597 = .ok (.iconst 1, 1) := by decide +kernel
theorem dL_law_598 : decode cL_law 598 = .ok (.iadd, 1) := by decide +kernel
theorem dL_law_599 : decode cL_law 599 = .ok (.iaload, 1) := by decide +kernel
theorem dL_law_600 : decode cL_law 600 = .ok (.aload_n 0, 1) := by decide +kernel
theorem dL_law_601 : decode cL_law 601 = .ok (.iload 4, 2) := by decide +kernel
theorem dL_law_603 : decode cL_law 603 = .ok (.iconst 2, 1) := by decide +kernel
theorem dL_law_604 : decode cL_law 604 = .ok (.iadd, 1) := by decide +kernel
theorem dL_law_605 : decode cL_law 605 = .ok (.iaload, 1) := by decide +kernel
theorem dL_law_606 : decode cL_law 606 = .ok (.aload_n 3, 1) := by decide +kernel
theorem dL_law_607 : decode cL_law 607 = .ok (.invokestatic 117, 3) := by decide +kernel
theorem dL_law_610 : decode cL_law 610 = .ok (.istore 5, 2) := by decide +kernel
theorem dL_law_612 : decode cL_law 612 = .ok (.aload_n 2, 1) := by decide +kernel
theorem dL_law_613 : decode cL_law 613 = .ok (.aload_n 0, 1) := by decide +kernel
theorem dL_law_614 : decode cL_law 614 = .ok (.iload 4, 2) := by decide +kernel
theorem dL_law_616 : decode cL_law 616 = .ok (.iconst 1, 1) := by decide +kernel
theorem dL_law_617 : decode cL_law 617 = .ok (.iadd, 1) := by decide +kernel
theorem dL_law_618 : decode cL_law 618 = .ok (.iaload, 1) := by decide +kernel
theorem dL_law_619 : decode cL_law 619 = .ok (.aload_n 0, 1) := by decide +kernel
theorem dL_law_620 : decode cL_law 620 = .ok (.iload 4, 2) := by decide +kernel
theorem dL_law_622 : decode cL_law 622 = .ok (.iconst 2, 1) := by decide +kernel
theorem dL_law_623 : decode cL_law 623 = .ok (.iadd, 1) := by decide +kernel
theorem dL_law_624 : decode cL_law 624 = .ok (.iaload, 1) := by decide +kernel
theorem dL_law_625 : decode cL_law 625 = .ok (.invokevirtual 119, 3) := by decide +kernel
theorem dL_law_628 : decode cL_law 628 = .ok (.istore 6, 2) := by decide +kernel
theorem dL_law_630 : decode cL_law 630 = .ok (.aload_n 2, 1) := by decide +kernel
theorem dL_law_631 : decode cL_law 631 = .ok (.invokevirtual 93, 3) := by decide +kernel
theorem dL_law_634 : decode cL_law 634 = .ok (.iload 5, 2) := by decide +kernel
theorem dL_law_636 : decode cL_law 636 = .ok (.if_icmp .eq 5, 3) := by decide +kernel
theorem dL_law_639 : decode cL_law 639 = .ok (.iconst 0, 1) := by decide +kernel
theorem dL_law_640 : decode cL_law 640 = .ok (.ireturn, 1) := by decide +kernel
theorem dL_law_641 : decode cL_law 641 = .ok (.iload 5, 2) := by decide +kernel
theorem dL_law_643 : decode cL_law 643 = .ok (.ifCond .ne 15, 3) := by decide +kernel
theorem dL_law_646 : decode cL_law 646 = .ok (.aload_n 3, 1) := by decide +kernel
theorem dL_law_647 : decode cL_law 647 = .ok (.iconst 0, 1) := by decide +kernel
theorem dL_law_648 : decode cL_law 648 = .ok (.laload, 1) := by decide +kernel
theorem dL_law_649 : decode cL_law 649 = .ok (.iload 6, 2) := by decide +kernel
theorem dL_law_651 : decode cL_law 651 = .ok (.i2l, 1) := by decide +kernel
theorem dL_law_652 : decode cL_law 652 = .ok (.lcmp, 1) := by decide +kernel
theorem dL_law_653 : decode cL_law 653 = .ok (.ifCond .eq 5, 3) := by decide +kernel
theorem dL_law_656 : decode cL_law 656 = .ok (.iconst 0, 1) := by decide +kernel
theorem dL_law_657 : decode cL_law 657 = .ok (.ireturn, 1) := by decide +kernel
theorem dL_law_658 : decode cL_law 658 = .ok (.goto 865, 3) := by decide +kernel
theorem dL_law_661 : decode cL_law 661 = .ok (.aload_n 1, 1) := by decide +kernel
theorem dL_law_662 : decode cL_law 662 = .ok (.aload_n 3, 1) := by decide +kernel
theorem dL_law_663 : decode cL_law 663 = .ok (.invokestatic 120, 3) := by decide +kernel
theorem dL_law_666 : decode cL_law 666 = .ok (.istore 5, 2) := by decide +kernel
theorem dL_law_668 : decode cL_law 668 = .ok (.aload_n 2, 1) := by decide +kernel
theorem dL_law_669 : decode cL_law 669 = .ok (.invokevirtual 123, 3) := by decide +kernel
theorem dL_law_672 : decode cL_law 672 = .ok (.istore 6, 2) := by decide +kernel
theorem dL_law_674 : decode cL_law 674 = .ok (.aload_n 2, 1) := by decide +kernel
theorem dL_law_675 : decode cL_law 675 = .ok (.invokevirtual 93, 3) := by decide +kernel
theorem dL_law_678 : decode cL_law 678 = .ok (.iload 5, 2) := by decide +kernel
theorem dL_law_680 : decode cL_law 680 = .ok (.if_icmp .eq 5, 3) := by decide +kernel
theorem dL_law_683 : decode cL_law 683 = .ok (.iconst 0, 1) := by decide +kernel
theorem dL_law_684 : decode cL_law 684 = .ok (.ireturn, 1) := by decide +kernel
theorem dL_law_685 : decode cL_law 685 = .ok (.iload 5, 2) := by decide +kernel
theorem dL_law_687 : decode cL_law 687 = .ok (.ifCond .ne 15, 3) := by decide +kernel
theorem dL_law_690 : decode cL_law 690 = .ok (.aload_n 3, 1) := by decide +kernel
theorem dL_law_691 : decode cL_law 691 = .ok (.iconst 0, 1) := by decide +kernel
theorem dL_law_692 : decode cL_law 692 = .ok (.laload, 1) := by decide +kernel
theorem dL_law_693 : decode cL_law 693 = .ok (.iload 6, 2) := by decide +kernel
theorem dL_law_695 : decode cL_law 695 = .ok (.i2l, 1) := by decide +kernel
theorem dL_law_696 : decode cL_law 696 = .ok (.lcmp, 1) := by decide +kernel
theorem dL_law_697 : decode cL_law 697 = .ok (.ifCond .eq 5, 3) := by decide +kernel
theorem dL_law_700 : decode cL_law 700 = .ok (.iconst 0, 1) := by decide +kernel
theorem dL_law_701 : decode cL_law 701 = .ok (.ireturn, 1) := by decide +kernel
theorem dL_law_702 : decode cL_law 702 = .ok (.goto 821, 3) := by decide +kernel
theorem dL_law_705 : decode cL_law 705 = .ok (.aload_n 1, 1) := by decide +kernel
theorem dL_law_706 : decode cL_law 706 = .ok (.aload_n 0, 1) := by decide +kernel
theorem dL_law_707 : decode cL_law 707 = .ok (.iload 4, 2) := by decide +kernel
theorem dL_law_709 : decode cL_law 709 = .ok (.iconst 1, 1) := by decide +kernel
theorem dL_law_710 : decode cL_law 710 = .ok (.iadd, 1) := by decide +kernel
theorem dL_law_711 : decode cL_law 711 = .ok (.iaload, 1) := by decide +kernel
theorem dL_law_712 : decode cL_law 712 = .ok (.aload_n 0, 1) := by decide +kernel
theorem dL_law_713 : decode cL_law 713 = .ok (.iload 4, 2) := by decide +kernel
theorem dL_law_715 : decode cL_law 715 = .ok (.iconst 2, 1) := by decide +kernel
theorem dL_law_716 : decode cL_law 716 = .ok (.iadd, 1) := by decide +kernel
theorem dL_law_717 : decode cL_law 717 = .ok (.iaload, 1) := by decide +kernel
theorem dL_law_718 : decode cL_law 718 = .ok (.aload_n 3, 1) := by decide +kernel
theorem dL_law_719 : decode cL_law 719 = .ok (.invokestatic 124, 3) := by decide +kernel
theorem dL_law_722 : decode cL_law 722 = .ok (.istore 5, 2) := by decide +kernel
theorem dL_law_724 : decode cL_law 724 = .ok (.aload_n 2, 1) := by decide +kernel
theorem dL_law_725 : decode cL_law 725 = .ok (.aload_n 0, 1) := by decide +kernel
theorem dL_law_726 : decode cL_law 726 = .ok (.iload 4, 2) := by decide +kernel
theorem dL_law_728 : decode cL_law 728 = .ok (.iconst 1, 1) := by decide +kernel
theorem dL_law_729 : decode cL_law 729 = .ok (.iadd, 1) := by decide +kernel
theorem dL_law_730 : decode cL_law 730 = .ok (.iaload, 1) := by decide +kernel
theorem dL_law_731 : decode cL_law 731 = .ok (.aload_n 0, 1) := by decide +kernel
theorem dL_law_732 : decode cL_law 732 = .ok (.iload 4, 2) := by decide +kernel
theorem dL_law_734 : decode cL_law 734 = .ok (.iconst 2, 1) := by decide +kernel
theorem dL_law_735 : decode cL_law 735 = .ok (.iadd, 1) := by decide +kernel
theorem dL_law_736 : decode cL_law 736 = .ok (.iaload, 1) := by decide +kernel
theorem dL_law_737 : decode cL_law 737 = .ok (.invokevirtual 126, 3) := by decide +kernel
theorem dL_law_740 : decode cL_law 740 = .ok (.istore 6, 2) := by decide +kernel
theorem dL_law_742 : decode cL_law 742 = .ok (.aload_n 2, 1) := by decide +kernel
theorem dL_law_743 : decode cL_law 743 = .ok (.invokevirtual 93, 3) := by decide +kernel
theorem dL_law_746 : decode cL_law 746 = .ok (.iload 5, 2) := by decide +kernel
theorem dL_law_748 : decode cL_law 748 = .ok (.if_icmp .eq 5, 3) := by decide +kernel
theorem dL_law_751 : decode cL_law 751 = .ok (.iconst 0, 1) := by decide +kernel
theorem dL_law_752 : decode cL_law 752 = .ok (.ireturn, 1) := by decide +kernel
theorem dL_law_753 : decode cL_law 753 = .ok (.iload 5, 2) := by decide +kernel
theorem dL_law_755 : decode cL_law 755 = .ok (.ifCond .ne 15, 3) := by decide +kernel
theorem dL_law_758 : decode cL_law 758 = .ok (.aload_n 3, 1) := by decide +kernel
theorem dL_law_759 : decode cL_law 759 = .ok (.iconst 0, 1) := by decide +kernel
theorem dL_law_760 : decode cL_law 760 = .ok (.laload, 1) := by decide +kernel
theorem dL_law_761 : decode cL_law 761 = .ok (.iload 6, 2) := by decide +kernel
theorem dL_law_763 : decode cL_law 763 = .ok (.i2l, 1) := by decide +kernel
theorem dL_law_764 : decode cL_law 764 = .ok (.lcmp, 1) := by decide +kernel
theorem dL_law_765 : decode cL_law 765 = .ok (.ifCond .eq 5, 3) := by decide +kernel
theorem dL_law_768 : decode cL_law 768 = .ok (.iconst 0, 1) := by decide +kernel
theorem dL_law_769 : decode cL_law 769 = .ok (.ireturn, 1) := by decide +kernel
theorem dL_law_770 : decode cL_law 770 = .ok (.goto 753, 3) := by decide +kernel
theorem dL_law_773 : decode cL_law 773 = .ok (.aload_n 1, 1) := by decide +kernel
theorem dL_law_774 : decode cL_law 774 = .ok (.aload_n 0, 1) := by decide +kernel
theorem dL_law_775 : decode cL_law 775 = .ok (.iload 4, 2) := by decide +kernel
theorem dL_law_777 : decode cL_law 777 = .ok (.iconst 1, 1) := by decide +kernel
theorem dL_law_778 : decode cL_law 778 = .ok (.iadd, 1) := by decide +kernel
theorem dL_law_779 : decode cL_law 779 = .ok (.iaload, 1) := by decide +kernel
theorem dL_law_780 : decode cL_law 780 = .ok (.aload_n 0, 1) := by decide +kernel
theorem dL_law_781 : decode cL_law 781 = .ok (.iload 4, 2) := by decide +kernel
theorem dL_law_783 : decode cL_law 783 = .ok (.iconst 2, 1) := by decide +kernel
theorem dL_law_784 : decode cL_law 784 = .ok (.iadd, 1) := by decide +kernel
theorem dL_law_785 : decode cL_law 785 = .ok (.iaload, 1) := by decide +kernel
theorem dL_law_786 : decode cL_law 786 = .ok (.aload_n 3, 1) := by decide +kernel
theorem dL_law_787 : decode cL_law 787 = .ok (.invokestatic 127, 3) := by decide +kernel
theorem dL_law_790 : decode cL_law 790 = .ok (.istore 5, 2) := by decide +kernel
theorem dL_law_792 : decode cL_law 792 = .ok (.aload_n 2, 1) := by decide +kernel
theorem dL_law_793 : decode cL_law 793 = .ok (.aload_n 0, 1) := by decide +kernel
theorem dL_law_794 : decode cL_law 794 = .ok (.iload 4, 2) := by decide +kernel
theorem dL_law_796 : decode cL_law 796 = .ok (.iconst 1, 1) := by decide +kernel
theorem dL_law_797 : decode cL_law 797 = .ok (.iadd, 1) := by decide +kernel
theorem dL_law_798 : decode cL_law 798 = .ok (.iaload, 1) := by decide +kernel
theorem dL_law_799 : decode cL_law 799 = .ok (.aload_n 0, 1) := by decide +kernel
theorem dL_law_800 : decode cL_law 800 = .ok (.iload 4, 2) := by decide +kernel
theorem dL_law_802 : decode cL_law 802 = .ok (.iconst 2, 1) := by decide +kernel
end
section
theorem dL_law_803 : decode cL_law 803 = .ok (.iadd, 1) := by decide +kernel
theorem dL_law_804 : decode cL_law 804 = .ok (.iaload, 1) := by decide +kernel
theorem dL_law_805 : decode cL_law 805 = .ok (.invokevirtual 129, 3) := by decide +kernel
theorem dL_law_808 : decode cL_law 808 = .ok (.istore 6, 2) := by decide +kernel
theorem dL_law_810 : decode cL_law 810 = .ok (.aload_n 2, 1) := by decide +kernel
theorem dL_law_811 : decode cL_law 811 = .ok (.invokevirtual 93, 3) := by decide +kernel
theorem dL_law_814 : decode cL_law 814 = .ok (.iload 5, 2) := by decide +kernel
theorem dL_law_816 : decode cL_law 816 = .ok (.if_icmp .eq 5, 3) := by decide +kernel
theorem dL_law_819 : decode cL_law 819 = .ok (.iconst 0, 1) := by decide +kernel
theorem dL_law_820 : decode cL_law 820 = .ok (.ireturn, 1) := by decide +kernel
theorem dL_law_821 : decode cL_law 821 = .ok (.iload 5, 2) := by decide +kernel
theorem dL_law_823 : decode cL_law 823 = .ok (.ifCond .ne 15, 3) := by decide +kernel
theorem dL_law_826 : decode cL_law 826 = .ok (.aload_n 3, 1) := by decide +kernel
theorem dL_law_827 : decode cL_law 827 = .ok (.iconst 0, 1) := by decide +kernel
theorem dL_law_828 : decode cL_law 828 = .ok (.laload, 1) := by decide +kernel
theorem dL_law_829 : decode cL_law 829 = .ok (.iload 6, 2) := by decide +kernel
theorem dL_law_831 : decode cL_law 831 = .ok (.i2l, 1) := by decide +kernel
theorem dL_law_832 : decode cL_law 832 = .ok (.lcmp, 1) := by decide +kernel
theorem dL_law_833 : decode cL_law 833 = .ok (.ifCond .eq 5, 3) := by decide +kernel
theorem dL_law_836 : decode cL_law 836 = .ok (.iconst 0, 1) := by decide +kernel
theorem dL_law_837 : decode cL_law 837 = .ok (.ireturn, 1) := by decide +kernel
theorem dL_law_838 : decode cL_law 838 = .ok (.goto 685, 3) := by decide +kernel
theorem dL_law_841 : decode cL_law 841 = .ok (.aload_n 1, 1) := by decide +kernel
theorem dL_law_842 : decode cL_law 842 = .ok (.aload_n 0, 1) := by decide +kernel
theorem dL_law_843 : decode cL_law 843 = .ok (.iload 4, 2) := by decide +kernel
theorem dL_law_845 : decode cL_law 845 = .ok (.iconst 1, 1) := by decide +kernel
theorem dL_law_846 : decode cL_law 846 = .ok (.iadd, 1) := by decide +kernel
theorem dL_law_847 : decode cL_law 847 = .ok (.iaload, 1) := by decide +kernel
theorem dL_law_848 : decode cL_law 848 = .ok (.aload_n 0, 1) := by decide +kernel
theorem dL_law_849 : decode cL_law 849 = .ok (.iload 4, 2) := by decide +kernel
theorem dL_law_851 : decode cL_law 851 = .ok (.iconst 2, 1) := by decide +kernel
theorem dL_law_852 : decode cL_law 852 = .ok (.iadd, 1) := by decide +kernel
theorem dL_law_853 : decode cL_law 853 = .ok (.iaload, 1) := by decide +kernel
theorem dL_law_854 : decode cL_law 854 = .ok (.aload_n 3, 1) := by decide +kernel
theorem dL_law_855 : decode cL_law 855 = .ok (.invokestatic 130, 3) := by decide +kernel
theorem dL_law_858 : decode cL_law 858 = .ok (.istore 5, 2) := by decide +kernel
theorem dL_law_860 : decode cL_law 860 = .ok (.aload_n 2, 1) := by decide +kernel
theorem dL_law_861 : decode cL_law 861 = .ok (.aload_n 0, 1) := by decide +kernel
theorem dL_law_862 : decode cL_law 862 = .ok (.iload 4, 2) := by decide +kernel
theorem dL_law_864 : decode cL_law 864 = .ok (.iconst 1, 1) := by decide +kernel
theorem dL_law_865 : decode cL_law 865 = .ok (.iadd, 1) := by decide +kernel
theorem dL_law_866 : decode cL_law 866 = .ok (.iaload, 1) := by decide +kernel
theorem dL_law_867 : decode cL_law 867 = .ok (.aload_n 0, 1) := by decide +kernel
theorem dL_law_868 : decode cL_law 868 = .ok (.iload 4, 2) := by decide +kernel
theorem dL_law_870 : decode cL_law 870 = .ok (.iconst 2, 1) := by decide +kernel
theorem dL_law_871 : decode cL_law 871 = .ok (.iadd, 1) := by decide +kernel
theorem dL_law_872 : decode cL_law 872 = .ok (.iaload, 1) := by decide +kernel
theorem dL_law_873 : decode cL_law 873 = .ok (.invokevirtual 132, 3) := by decide +kernel
theorem dL_law_876 : decode cL_law 876 = .ok (.istore 6, 2) := by decide +kernel
theorem dL_law_878 : decode cL_law 878 = .ok (.aload_n 2, 1) := by decide +kernel
theorem dL_law_879 : decode cL_law 879 = .ok (.invokevirtual 93, 3) := by decide +kernel
theorem dL_law_882 : decode cL_law 882 = .ok (.iload 5, 2) := by decide +kernel
theorem dL_law_884 : decode cL_law 884 = .ok (.if_icmp .eq 5, 3) := by decide +kernel
theorem dL_law_887 : decode cL_law 887 = .ok (.iconst 0, 1) := by decide +kernel
theorem dL_law_888 : decode cL_law 888 = .ok (.ireturn, 1) := by decide +kernel
theorem dL_law_889 : decode cL_law 889 = .ok (.iload 5, 2) := by decide +kernel
theorem dL_law_891 : decode cL_law 891 = .ok (.ifCond .ne 15, 3) := by decide +kernel
theorem dL_law_894 : decode cL_law 894 = .ok (.aload_n 3, 1) := by decide +kernel
theorem dL_law_895 : decode cL_law 895 = .ok (.iconst 0, 1) := by decide +kernel
theorem dL_law_896 : decode cL_law 896 = .ok (.laload, 1) := by decide +kernel
theorem dL_law_897 : decode cL_law 897 = .ok (.iload 6, 2) := by decide +kernel
theorem dL_law_899 : decode cL_law 899 = .ok (.i2l, 1) := by decide +kernel
theorem dL_law_900 : decode cL_law 900 = .ok (.lcmp, 1) := by decide +kernel
theorem dL_law_901 : decode cL_law 901 = .ok (.ifCond .eq 5, 3) := by decide +kernel
theorem dL_law_904 : decode cL_law 904 = .ok (.iconst 0, 1) := by decide +kernel
theorem dL_law_905 : decode cL_law 905 = .ok (.ireturn, 1) := by decide +kernel
theorem dL_law_906 : decode cL_law 906 = .ok (.goto 617, 3) := by decide +kernel
theorem dL_law_909 : decode cL_law 909 = .ok (.aload_n 1, 1) := by decide +kernel
theorem dL_law_910 : decode cL_law 910 = .ok (.aload_n 3, 1) := by decide +kernel
theorem dL_law_911 : decode cL_law 911 = .ok (.invokestatic 133, 3) := by decide +kernel
theorem dL_law_914 : decode cL_law 914 = .ok (.istore 5, 2) := by decide +kernel
theorem dL_law_916 : decode cL_law 916 = .ok (.aload_n 2, 1) := by decide +kernel
theorem dL_law_917 : decode cL_law 917 = .ok (.invokevirtual 135, 3) := by decide +kernel
theorem dL_law_920 : decode cL_law 920 = .ok (.istore 6, 2) := by decide +kernel
theorem dL_law_922 : decode cL_law 922 = .ok (.aload_n 2, 1) := by decide +kernel
theorem dL_law_923 : decode cL_law 923 = .ok (.invokevirtual 93, 3) := by decide +kernel
theorem dL_law_926 : decode cL_law 926 = .ok (.iload 5, 2) := by decide +kernel
theorem dL_law_928 : decode cL_law 928 = .ok (.if_icmp .eq 5, 3) := by decide +kernel
theorem dL_law_931 : decode cL_law 931 = .ok (.iconst 0, 1) := by decide +kernel
theorem dL_law_932 : decode cL_law 932 = .ok (.ireturn, 1) := by decide +kernel
theorem dL_law_933 : decode cL_law 933 = .ok (.iload 5, 2) := by decide +kernel
theorem dL_law_935 : decode cL_law 935 = .ok (.ifCond .ne 15, 3) := by decide +kernel
theorem dL_law_938 : decode cL_law 938 = .ok (.aload_n 3, 1) := by decide +kernel
theorem dL_law_939 : decode cL_law 939 = .ok (.iconst 0, 1) := by decide +kernel
theorem dL_law_940 : decode cL_law 940 = .ok (.laload, 1) := by decide +kernel
theorem dL_law_941 : decode cL_law 941 = .ok (.iload 6, 2) := by decide +kernel
theorem dL_law_943 : decode cL_law 943 = .ok (.i2l, 1) := by decide +kernel
theorem dL_law_944 : decode cL_law 944 = .ok (.lcmp, 1) := by decide +kernel
theorem dL_law_945 : decode cL_law 945 = .ok (.ifCond .eq 5, 3) := by decide +kernel
theorem dL_law_948 : decode cL_law 948 = .ok (.iconst 0, 1) := by decide +kernel
theorem dL_law_949 : decode cL_law 949 = .ok (.ireturn, 1) := by decide +kernel
theorem dL_law_950 : decode cL_law 950 = .ok (.goto 573, 3) := by decide +kernel
theorem dL_law_953 : decode cL_law 953 = .ok (.aload_n 1, 1) := by decide +kernel
theorem dL_law_954 : decode cL_law 954 = .ok (.invokevirtual 136, 3) := by decide +kernel
theorem dL_law_957 : decode cL_law 957 = .ok (.aload_n 2, 1) := by decide +kernel
theorem dL_law_958 : decode cL_law 958 = .ok (.invokevirtual 139, 3) := by decide +kernel
theorem dL_law_961 : decode cL_law 961 = .ok (.if_icmp .eq 562, 3) := by decide +kernel
theorem dL_law_964 : decode cL_law 964 = .ok (.iconst 0, 1) := by decide +kernel
theorem dL_law_965 : decode cL_law 965 = .ok (.ireturn, 1) := by decide +kernel
theorem dL_law_966 : decode cL_law 966 = .ok (.aload_n 1, 1) := by decide +kernel
theorem dL_law_967 : decode cL_law 967 = .ok (.invokevirtual 140, 3) := by decide +kernel
theorem dL_law_970 : decode cL_law 970 = .ok (.aload_n 2, 1) := by decide +kernel
theorem dL_law_971 : decode cL_law 971 = .ok (.invokevirtual 143, 3) := by decide +kernel
theorem dL_law_974 : decode cL_law 974 = .ok (.if_icmp .eq 549, 3) := by decide +kernel
theorem dL_law_977 : decode cL_law 977 = .ok (.iconst 0, 1) := by decide +kernel
theorem dL_law_978 : decode cL_law 978 = .ok (.ireturn, 1) := by decide +kernel
theorem dL_law_979 : decode cL_law 979 = .ok (.aload_n 1, 1) := by decide +kernel
theorem dL_law_980 : decode cL_law 980 = .ok (.aload_n 0, 1) := by decide +kernel
theorem dL_law_981 : decode cL_law 981 = .ok (.iload 4, 2) := by decide +kernel
theorem dL_law_983 : decode cL_law 983 = .ok (.iconst 1, 1) := by decide +kernel
theorem dL_law_984 : decode cL_law 984 = .ok (.iadd, 1) := by decide +kernel
theorem dL_law_985 : decode cL_law 985 = .ok (.iaload, 1) := by decide +kernel
theorem dL_law_986 : decode cL_law 986 = .ok (.aload_n 3, 1) := by decide +kernel
theorem dL_law_987 : decode cL_law 987 = .ok (.invokestatic 144, 3) := by decide +kernel
theorem dL_law_990 : decode cL_law 990 = .ok (.istore 5, 2) := by decide +kernel
theorem dL_law_992 : decode cL_law 992 = .ok (.aload_n 2, 1) := by decide +kernel
theorem dL_law_993 : decode cL_law 993 = .ok (.aload_n 0, 1) := by decide +kernel
theorem dL_law_994 : decode cL_law 994 = .ok (.iload 4, 2) := by decide +kernel
theorem dL_law_996 : decode cL_law 996 = .ok (.iconst 1, 1) := by decide +kernel
theorem dL_law_997 : decode cL_law 997 = .ok (.iadd, 1) := by decide +kernel
theorem dL_law_998 : decode cL_law 998 = .ok (.iaload, 1) := by decide +kernel
theorem dL_law_999 : decode cL_law 999 = .ok (.invokevirtual 146, 3) := by decide +kernel
theorem dL_law_1002 : decode cL_law 1002 = .ok (.istore 6, 2) := by decide +kernel
theorem dL_law_1004 : decode cL_law 1004 = .ok (.aload_n 2, 1) := by decide +kernel
theorem dL_law_1005 : decode cL_law 1005 = .ok (.invokevirtual 93, 3) := by decide +kernel
theorem dL_law_1008 : decode cL_law 1008 = .ok (.iload 5, 2) := by decide +kernel
theorem dL_law_1010 : decode cL_law 1010 = .ok (.if_icmp .eq 5, 3) := by decide +kernel
theorem dL_law_1013 : decode cL_law 1013 = .ok (.iconst 0, 1) := by decide +kernel
theorem dL_law_1014 : decode cL_law 1014 = .ok (.ireturn, 1) := by decide +kernel
theorem dL_law_1015 : decode cL_law 1015 = .ok (.iload 5, 2) := by decide +kernel
theorem dL_law_1017 : decode cL_law 1017 = .ok (.ifCond .ne 15, 3) := by decide +kernel
theorem dL_law_1020 : decode cL_law 1020 = .ok (.aload_n 3, 1) := by decide +kernel
theorem dL_law_1021 : decode cL_law 1021 = .ok (.iconst 0, 1) := by decide +kernel
theorem dL_law_1022 : decode cL_law 1022 = .ok (.laload, 1) := by decide +kernel
theorem dL_law_1023 : decode cL_law 1023 = .ok (.iload 6, 2) := by decide +kernel
theorem dL_law_1025 : decode cL_law 1025 = .ok (.i2l, 1) := by decide +kernel
theorem dL_law_1026 : decode cL_law 1026 = .ok (.lcmp, 1) := by decide +kernel
theorem dL_law_1027 : decode cL_law 1027 = .ok (.ifCond .eq 5, 3) := by decide +kernel
theorem dL_law_1030 : decode cL_law 1030 = .ok (.iconst 0, 1) := by decide +kernel
theorem dL_law_1031 : decode cL_law 1031 = .ok (.ireturn, 1) := by decide +kernel
theorem dL_law_1032 : decode cL_law 1032 = .ok (.goto 491, 3) := by decide +kernel
theorem dL_law_1035 : decode cL_law 1035 = .ok (.aload_n 1, 1) := by decide +kernel
theorem dL_law_1036 : decode cL_law 1036 = .ok (.aload_n 0, 1) := by decide +kernel
theorem dL_law_1037 : decode cL_law 1037 = .ok (.iload 4, 2) := by decide +kernel
theorem dL_law_1039 : decode cL_law 1039 = .ok (.iconst 1, 1) := by decide +kernel
theorem dL_law_1040 : decode cL_law 1040 = .ok (.iadd, 1) := by decide +kernel
theorem dL_law_1041 : decode cL_law 1041 = .ok (.iaload, 1) := by decide +kernel
theorem dL_law_1042 : decode cL_law 1042 = .ok (.aload_n 3, 1) := by decide +kernel
theorem dL_law_1043 : decode cL_law 1043 = .ok (.invokestatic 147, 3) := by decide +kernel
theorem dL_law_1046 : decode cL_law 1046 = .ok (.istore 5, 2) := by decide +kernel
theorem dL_law_1048 : decode cL_law 1048 = .ok (.aload_n 2, 1) := by decide +kernel
theorem dL_law_1049 : decode cL_law 1049 = .ok (.aload_n 0, 1) := by decide +kernel
theorem dL_law_1050 : decode cL_law 1050 = .ok (.iload 4, 2) := by decide +kernel
theorem dL_law_1052 : decode cL_law 1052 = .ok (.iconst 1, 1) := by decide +kernel
theorem dL_law_1053 : decode cL_law 1053 = .ok (.iadd, 1) := by decide +kernel
theorem dL_law_1054 : decode cL_law 1054 = .ok (.iaload, 1) := by decide +kernel
theorem dL_law_1055 : decode cL_law 1055 = .ok (.invokevirtual 149, 3) := by decide +kernel
theorem dL_law_1058 : decode cL_law 1058 = .ok (.istore 6, 2) := by decide +kernel
theorem dL_law_1060 : decode cL_law 1060 = .ok (.aload_n 2, 1) := by decide +kernel
theorem dL_law_1061 : decode cL_law 1061 = .ok (.invokevirtual 93, 3) := by decide +kernel
theorem dL_law_1064 : decode cL_law 1064 = .ok (.iload 5, 2) := by decide +kernel
theorem dL_law_1066 : decode cL_law 1066 = .ok (.if_icmp .eq 5, 3) := by decide +kernel
theorem dL_law_1069 : decode cL_law 1069 = .ok (.iconst 0, 1) := by decide +kernel
theorem dL_law_1070 : decode cL_law 1070 = .ok (.ireturn, 1) := by decide +kernel
theorem dL_law_1071 : decode cL_law 1071 = .ok (.iload 5, 2) := by decide +kernel
theorem dL_law_1073 : decode cL_law 1073 = .ok (.ifCond .ne 15, 3) := by decide +kernel
theorem dL_law_1076 : decode cL_law 1076 = .ok (.aload_n 3, 1) := by decide +kernel
theorem dL_law_1077 : decode cL_law 1077 = .ok (.iconst 0, 1) := by decide +kernel
theorem dL_law_1078 : decode cL_law 1078 = .ok (.laload, 1) := by decide +kernel
theorem dL_law_1079 : decode cL_law 1079 = .ok (.iload 6, 2) := by decide +kernel
theorem dL_law_1081 : decode cL_law 1081 = .ok (.i2l, 1) := by decide +kernel
theorem dL_law_1082 : decode cL_law 1082 = .ok (.lcmp, 1) := by decide +kernel
theorem dL_law_1083 : decode cL_law 1083 = .ok (.ifCond .eq 5, 3) := by decide +kernel
theorem dL_law_1086 : decode cL_law 1086 = .ok (.iconst 0, 1) := by decide +kernel
theorem dL_law_1087 : decode cL_law 1087 = .ok (.ireturn, 1) := by decide +kernel
theorem dL_law_1088 : decode cL_law 1088 = .ok (.goto 435, 3) := by decide +kernel
theorem dL_law_1091 : decode cL_law 1091 = .ok (.aload_n 1, 1) := by decide +kernel
theorem dL_law_1092 : decode cL_law 1092 = .ok (.aload_n 0, 1) := by decide +kernel
theorem dL_law_1093 : decode cL_law 1093 = .ok (.iload 4, 2) := by decide +kernel
theorem dL_law_1095 : decode cL_law 1095 = .ok (.iconst 1, 1) := by decide +kernel
theorem dL_law_1096 : decode cL_law 1096 = .ok (.iadd, 1) := by decide +kernel
theorem dL_law_1097 : decode cL_law 1097 = .ok (.iaload, 1) := by decide +kernel
theorem dL_law_1098 : decode cL_law 1098 = .ok (.aload_n 3, 1) := by decide +kernel
theorem dL_law_1099 : decode cL_law 1099 = .ok (.invokestatic 150, 3) := by decide +kernel
theorem dL_law_1102 : decode cL_law 1102 = .ok (.istore 5, 2) := by decide +kernel
theorem dL_law_1104 : decode cL_law 1104 = .ok (.aload_n 2, 1) := by decide +kernel
theorem dL_law_1105 : decode cL_law 1105 = .ok (.aload_n 0, 1) := by decide +kernel
theorem dL_law_1106 : decode cL_law 1106 = .ok (.iload 4, 2) := by decide +kernel
theorem dL_law_1108 : decode cL_law 1108 = .ok (.iconst 1, 1) := by decide +kernel
theorem dL_law_1109 : decode cL_law 1109 = .ok (.iadd, 1) := by decide +kernel
theorem dL_law_1110 : decode cL_law 1110 = .ok (.iaload, 1) := by decide +kernel
theorem dL_law_1111 : decode cL_law 1111 = .ok (.invokevirtual 152, 3) := by decide +kernel
theorem dL_law_1114 : decode cL_law 1114 = .ok (.istore 6, 2) := by decide +kernel
theorem dL_law_1116 : decode cL_law 1116 = .ok (.aload_n 2, 1) := by decide +kernel
theorem dL_law_1117 : decode cL_law 1117 = .ok (.invokevirtual 93, 3) := by decide +kernel
theorem dL_law_1120 : decode cL_law 1120 = .ok (.iload 5, 2) := by decide +kernel
theorem dL_law_1122 : decode cL_law 1122 = .ok (.if_icmp .eq 5, 3) := by decide +kernel
theorem dL_law_1125 : decode cL_law 1125 = .ok (.iconst 0, 1) := by decide +kernel
theorem dL_law_1126 : decode cL_law 1126 = .ok (.ireturn, 1) := by decide +kernel
theorem dL_law_1127 : decode cL_law 1127 = .ok (.iload 5, 2) := by decide +kernel
theorem dL_law_1129 : decode cL_law 1129 = .ok (.ifCond .ne 15, 3) := by decide +kernel
theorem dL_law_1132 : decode cL_law 1132 = .ok (.aload_n 3, 1) := by decide +kernel
theorem dL_law_1133 : decode cL_law 1133 = .ok (.iconst 0, 1) := by decide +kernel
theorem dL_law_1134 : decode cL_law 1134 = .ok (.laload, 1) := by decide +kernel
theorem dL_law_1135 : decode cL_law 1135 = .ok (.iload 6, 2) := by decide +kernel
theorem dL_law_1137 : decode cL_law 1137 = .ok (.i2l, 1) := by decide +kernel
theorem dL_law_1138 : decode cL_law 1138 = .ok (.lcmp, 1) := by decide +kernel
theorem dL_law_1139 : decode cL_law 1139 = .ok (.ifCond .eq 5, 3) := by decide +kernel
theorem dL_law_1142 : decode cL_law 1142 = .ok (.iconst 0, 1) := by decide +kernel
theorem dL_law_1143 : decode cL_law 1143 = .ok (.ireturn, 1) := by decide +kernel
theorem dL_law_1144 : decode cL_law 1144 = .ok (.goto 379, 3) := by decide +kernel
theorem dL_law_1147 : decode cL_law 1147 = .ok (.aload_n 1, 1) := by decide +kernel
theorem dL_law_1148 : decode cL_law 1148 = .ok (.aload_n 0, 1) := by decide +kernel
theorem dL_law_1149 : decode cL_law 1149 = .ok (.iload 4, 2) := by decide +kernel
theorem dL_law_1151 : decode cL_law 1151 = .ok (.iconst 1, 1) := by decide +kernel
theorem dL_law_1152 : decode cL_law 1152 = .ok (.iadd, 1) := by decide +kernel
theorem dL_law_1153 : decode cL_law 1153 = .ok (.iaload, 1) := by decide +kernel
theorem dL_law_1154 : decode cL_law 1154 = .ok (.aload_n 3, 1) := by decide +kernel
theorem dL_law_1155 : decode cL_law 1155 = .ok (.invokestatic 153, 3) := by decide +kernel
theorem dL_law_1158 : decode cL_law 1158 = .ok (.istore 5, 2) := by decide +kernel
theorem dL_law_1160 : decode cL_law 1160 = .ok (.aload_n 2, 1) := by decide +kernel
theorem dL_law_1161 : decode cL_law 1161 = .ok (.aload_n 0, 1) := by decide +kernel
theorem dL_law_1162 : decode cL_law 1162 = .ok (.iload 4, 2) := by decide +kernel
theorem dL_law_1164 : decode cL_law 1164 = .ok (.iconst 1, 1) := by decide +kernel
theorem dL_law_1165 : decode cL_law 1165 = .ok (.iadd, 1) := by decide +kernel
theorem dL_law_1166 : decode cL_law 1166 = .ok (.iaload, 1) := by decide +kernel
theorem dL_law_1167 : decode cL_law 1167 = .ok (.invokevirtual 155, 3) := by decide +kernel
theorem dL_law_1170 : decode cL_law 1170 = .ok (.istore 6, 2) := by decide +kernel
theorem dL_law_1172 : decode cL_law 1172 = .ok (.aload_n 2, 1) := by decide +kernel
theorem dL_law_1173 : decode cL_law 1173 = .ok (.invokevirtual 93, 3) := by decide +kernel
end
section
theorem dL_law_1176 : decode cL_law 1176 = .ok (.iload 5, 2) := by decide +kernel
theorem dL_law_1178 : decode cL_law 1178 = .ok (.if_icmp .eq 5, 3) := by decide +kernel
theorem dL_law_1181 : decode cL_law 1181 = .ok (.iconst 0, 1) := by decide +kernel
theorem dL_law_1182 : decode cL_law 1182 = .ok (.ireturn, 1) := by decide +kernel
theorem dL_law_1183 : decode cL_law 1183 = .ok (.iload 5, 2) := by decide +kernel
theorem dL_law_1185 : decode cL_law 1185 = .ok (.ifCond .ne 15, 3) := by decide +kernel
theorem dL_law_1188 : decode cL_law 1188 = .ok (.aload_n 3, 1) := by decide +kernel
theorem dL_law_1189 : decode cL_law 1189 = .ok (.iconst 0, 1) := by decide +kernel
theorem dL_law_1190 : decode cL_law 1190 = .ok (.laload, 1) := by decide +kernel
theorem dL_law_1191 : decode cL_law 1191 = .ok (.iload 6, 2) := by decide +kernel
theorem dL_law_1193 : decode cL_law 1193 = .ok (.i2l, 1) := by decide +kernel
theorem dL_law_1194 : decode cL_law 1194 = .ok (.lcmp, 1) := by decide +kernel
theorem dL_law_1195 : decode cL_law 1195 = .ok (.ifCond .eq 5, 3) := by decide +kernel
theorem dL_law_1198 : decode cL_law 1198 = .ok (.iconst 0, 1) := by decide +kernel
theorem dL_law_1199 : decode cL_law 1199 = .ok (.ireturn, 1) := by decide +kernel
theorem dL_law_1200 : decode cL_law 1200 = .ok (.goto 323, 3) := by decide +kernel
theorem dL_law_1203 : decode cL_law 1203 = .ok (.aload_n 1, 1) := by decide +kernel
theorem dL_law_1204 : decode cL_law 1204 = .ok (.aload_n 0, 1) := by decide +kernel
theorem dL_law_1205 : decode cL_law 1205 = .ok (.iload 4, 2) := by decide +kernel
theorem dL_law_1207 : decode cL_law 1207 = .ok (.iconst 1, 1) := by decide +kernel
theorem dL_law_1208 : decode cL_law 1208 = .ok (.iadd, 1) := by decide +kernel
theorem dL_law_1209 : decode cL_law 1209 = .ok (.iaload, 1) := by decide +kernel
theorem dL_law_1210 : decode cL_law 1210 = .ok (.aload_n 3, 1) := by decide +kernel
theorem dL_law_1211 : decode cL_law 1211 = .ok (.invokestatic 156, 3) := by decide +kernel
theorem dL_law_1214 : decode cL_law 1214 = .ok (.istore 5, 2) := by decide +kernel
theorem dL_law_1216 : decode cL_law 1216 = .ok (.aload_n 2, 1) := by decide +kernel
theorem dL_law_1217 : decode cL_law 1217 = .ok (.aload_n 0, 1) := by decide +kernel
theorem dL_law_1218 : decode cL_law 1218 = .ok (.iload 4, 2) := by decide +kernel
theorem dL_law_1220 : decode cL_law 1220 = .ok (.iconst 1, 1) := by decide +kernel
theorem dL_law_1221 : decode cL_law 1221 = .ok (.iadd, 1) := by decide +kernel
theorem dL_law_1222 : decode cL_law 1222 = .ok (.iaload, 1) := by decide +kernel
theorem dL_law_1223 : decode cL_law 1223 = .ok (.invokevirtual 158, 3) := by decide +kernel
theorem dL_law_1226 : decode cL_law 1226 = .ok (.istore 6, 2) := by decide +kernel
theorem dL_law_1228 : decode cL_law 1228 = .ok (.aload_n 2, 1) := by decide +kernel
theorem dL_law_1229 : decode cL_law 1229 = .ok (.invokevirtual 93, 3) := by decide +kernel
theorem dL_law_1232 : decode cL_law 1232 = .ok (.iload 5, 2) := by decide +kernel
theorem dL_law_1234 : decode cL_law 1234 = .ok (.if_icmp .eq 5, 3) := by decide +kernel
theorem dL_law_1237 : decode cL_law 1237 = .ok (.iconst 0, 1) := by decide +kernel
theorem dL_law_1238 : decode cL_law 1238 = .ok (.ireturn, 1) := by decide +kernel
theorem dL_law_1239 : decode cL_law 1239 = .ok (.iload 5, 2) := by decide +kernel
theorem dL_law_1241 : decode cL_law 1241 = .ok (.ifCond .ne 15, 3) := by decide +kernel
theorem dL_law_1244 : decode cL_law 1244 = .ok (.aload_n 3, 1) := by decide +kernel
theorem dL_law_1245 : decode cL_law 1245 = .ok (.iconst 0, 1) := by decide +kernel
theorem dL_law_1246 : decode cL_law 1246 = .ok (.laload, 1) := by decide +kernel
theorem dL_law_1247 : decode cL_law 1247 = .ok (.iload 6, 2) := by decide +kernel
theorem dL_law_1249 : decode cL_law 1249 = .ok (.i2l, 1) := by decide +kernel
theorem dL_law_1250 : decode cL_law 1250 = .ok (.lcmp, 1) := by decide +kernel
theorem dL_law_1251 : decode cL_law 1251 = .ok (.ifCond .eq 5, 3) := by decide +kernel
theorem dL_law_1254 : decode cL_law 1254 = .ok (.iconst 0, 1) := by decide +kernel
theorem dL_law_1255 : decode cL_law 1255 = .ok (.ireturn, 1) := by decide +kernel
theorem dL_law_1256 : decode cL_law 1256 = .ok (.goto 267, 3) := by decide +kernel
theorem dL_law_1259 : decode cL_law 1259 = .ok (.aload_n 1, 1) := by decide +kernel
theorem dL_law_1260 : decode cL_law 1260 = .ok (.aload_n 0, 1) := by decide +kernel
theorem dL_law_1261 : decode cL_law 1261 = .ok (.iload 4, 2) := by decide +kernel
theorem dL_law_1263 : decode cL_law 1263 = .ok (.iconst 1, 1) := by decide +kernel
theorem dL_law_1264 : decode cL_law 1264 = .ok (.iadd, 1) := by decide +kernel
theorem dL_law_1265 : decode cL_law 1265 = .ok (.iaload, 1) := by decide +kernel
theorem dL_law_1266 : decode cL_law 1266 = .ok (.aload_n 0, 1) := by decide +kernel
theorem dL_law_1267 : decode cL_law 1267 = .ok (.iload 4, 2) := by decide +kernel
theorem dL_law_1269 : decode cL_law 1269 = .ok (.iconst 2, 1) := by decide +kernel
theorem dL_law_1270 : decode cL_law 1270 = .ok (.iadd, 1) := by decide +kernel
theorem dL_law_1271 : decode cL_law 1271 = .ok (.iaload, 1) := by decide +kernel
theorem dL_law_1272 : decode cL_law 1272 = .ok (.ifCond .eq 7, 3) := by decide +kernel
theorem dL_law_1275 : decode cL_law 1275 = .ok (.iconst 1, 1) := by decide +kernel
theorem dL_law_1276 : decode cL_law 1276 = .ok (.goto 4, 3) := by decide +kernel
theorem dL_law_1279 : decode cL_law 1279 = .ok (.iconst 0, 1) := by decide +kernel
theorem dL_law_1280 : decode cL_law 1280 = .ok (.aload_n 3, 1) := by decide +kernel
theorem dL_law_1281 : decode cL_law 1281 = .ok (.invokestatic 159, 3) := by decide +kernel
theorem dL_law_1284 : decode cL_law 1284 = .ok (.istore 5, 2) := by decide +kernel
theorem dL_law_1286 : decode cL_law 1286 = .ok (.aload_n 2, 1) := by decide +kernel
theorem dL_law_1287 : decode cL_law 1287 = .ok (.aload_n 0, 1) := by decide +kernel
theorem dL_law_1288 : decode cL_law 1288 = .ok (.iload 4, 2) := by decide +kernel
theorem dL_law_1290 : decode cL_law 1290 = .ok (.iconst 1, 1) := by decide +kernel
theorem dL_law_1291 : decode cL_law 1291 = .ok (.iadd, 1) := by decide +kernel
theorem dL_law_1292 : decode cL_law 1292 = .ok (.iaload, 1) := by decide +kernel
theorem dL_law_1293 : decode cL_law 1293 = .ok (.aload_n 0, 1) := by decide +kernel
theorem dL_law_1294 : decode cL_law 1294 = .ok (.iload 4, 2) := by decide +kernel
theorem dL_law_1296 : decode cL_law 1296 = .ok (.iconst 2, 1) := by decide +kernel
theorem dL_law_1297 : decode cL_law 1297 = .ok (.iadd, 1) := by decide +kernel
theorem dL_law_1298 : decode cL_law 1298 = .ok (.iaload, 1) := by decide +kernel
theorem dL_law_1299 : decode cL_law 1299 = .ok (.ifCond .eq 7, 3) := by decide +kernel
theorem dL_law_1302 : decode cL_law 1302 = .ok (.iconst 1, 1) := by decide +kernel
theorem dL_law_1303 : decode cL_law 1303 = .ok (.goto 4, 3) := by decide +kernel
theorem dL_law_1306 : decode cL_law 1306 = .ok (.iconst 0, 1) := by decide +kernel
theorem dL_law_1307 : decode cL_law 1307 = .ok (.invokevirtual 162, 3) := by decide +kernel
theorem dL_law_1310 : decode cL_law 1310 = .ok (.istore 6, 2) := by decide +kernel
theorem dL_law_1312 : decode cL_law 1312 = .ok (.aload_n 2, 1) := by decide +kernel
theorem dL_law_1313 : decode cL_law 1313 = .ok (.invokevirtual 93, 3) := by decide +kernel
theorem dL_law_1316 : decode cL_law 1316 = .ok (.iload 5, 2) := by decide +kernel
theorem dL_law_1318 : decode cL_law 1318 = .ok (.if_icmp .eq 5, 3) := by decide +kernel
theorem dL_law_1321 : decode cL_law 1321 = .ok (.iconst 0, 1) := by decide +kernel
theorem dL_law_1322 : decode cL_law 1322 = .ok (.ireturn, 1) := by decide +kernel
theorem dL_law_1323 : decode cL_law 1323 = .ok (.iload 5, 2) := by decide +kernel
theorem dL_law_1325 : decode cL_law 1325 = .ok (.ifCond .ne 15, 3) := by decide +kernel
theorem dL_law_1328 : decode cL_law 1328 = .ok (.aload_n 3, 1) := by decide +kernel
theorem dL_law_1329 : decode cL_law 1329 = .ok (.iconst 0, 1) := by decide +kernel
theorem dL_law_1330 : decode cL_law 1330 = .ok (.laload, 1) := by decide +kernel
theorem dL_law_1331 : decode cL_law 1331 = .ok (.iload 6, 2) := by decide +kernel
theorem dL_law_1333 : decode cL_law 1333 = .ok (.i2l, 1) := by decide +kernel
theorem dL_law_1334 : decode cL_law 1334 = .ok (.lcmp, 1) := by decide +kernel
theorem dL_law_1335 : decode cL_law 1335 = .ok (.ifCond .eq 5, 3) := by decide +kernel
theorem dL_law_1338 : decode cL_law 1338 = .ok (.iconst 0, 1) := by decide +kernel
theorem dL_law_1339 : decode cL_law 1339 = .ok (.ireturn, 1) := by decide +kernel
theorem dL_law_1340 : decode cL_law 1340 = .ok (.goto 183, 3) := by decide +kernel
theorem dL_law_1343 : decode cL_law 1343 = .ok (.aload_n 1, 1) := by decide +kernel
theorem dL_law_1344 : decode cL_law 1344 = .ok (.aload_n 0, 1) := by decide +kernel
theorem dL_law_1345 : decode cL_law 1345 = .ok (.iload 4, 2) := by decide +kernel
theorem dL_law_1347 : decode cL_law 1347 = .ok (.iconst 1, 1) := by decide +kernel
theorem dL_law_1348 : decode cL_law 1348 = .ok (.iadd, 1) := by decide +kernel
theorem dL_law_1349 : decode cL_law 1349 = .ok (.iaload, 1) := by decide +kernel
theorem dL_law_1350 : decode cL_law 1350 = .ok (.aload_n 3, 1) := by decide +kernel
theorem dL_law_1351 : decode cL_law 1351 = .ok (.invokestatic 163, 3) := by decide +kernel
theorem dL_law_1354 : decode cL_law 1354 = .ok (.istore 5, 2) := by decide +kernel
theorem dL_law_1356 : decode cL_law 1356 = .ok (.aload_n 2, 1) := by decide +kernel
theorem dL_law_1357 : decode cL_law 1357 = .ok (.aload_n 0, 1) := by decide +kernel
theorem dL_law_1358 : decode cL_law 1358 = .ok (.iload 4, 2) := by decide +kernel
theorem dL_law_1360 : decode cL_law 1360 = .ok (.iconst 1, 1) := by decide +kernel
theorem dL_law_1361 : decode cL_law 1361 = .ok (.iadd, 1) := by decide +kernel
theorem dL_law_1362 : decode cL_law 1362 = .ok (.iaload, 1) := by decide +kernel
theorem dL_law_1363 : decode cL_law 1363 = .ok (.invokevirtual 165, 3) := by decide +kernel
theorem dL_law_1366 : decode cL_law 1366 = .ok (.istore 6, 2) := by decide +kernel
theorem dL_law_1368 : decode cL_law 1368 = .ok (.aload_n 2, 1) := by decide +kernel
theorem dL_law_1369 : decode cL_law 1369 = .ok (.invokevirtual 93, 3) := by decide +kernel
theorem dL_law_1372 : decode cL_law 1372 = .ok (.iload 5, 2) := by decide +kernel
theorem dL_law_1374 : decode cL_law 1374 = .ok (.if_icmp .eq 5, 3) := by decide +kernel
theorem dL_law_1377 : decode cL_law 1377 = .ok (.iconst 0, 1) := by decide +kernel
theorem dL_law_1378 : decode cL_law 1378 = .ok (.ireturn, 1) := by decide +kernel
theorem dL_law_1379 : decode cL_law 1379 = .ok (.iload 5, 2) := by decide +kernel
theorem dL_law_1381 : decode cL_law 1381 = .ok (.ifCond .ne 15, 3) := by decide +kernel
theorem dL_law_1384 : decode cL_law 1384 = .ok (.aload_n 3, 1) := by decide +kernel
theorem dL_law_1385 : decode cL_law 1385 = .ok (.iconst 0, 1) := by decide +kernel
theorem dL_law_1386 : decode cL_law 1386 = .ok (.laload, 1) := by decide +kernel
theorem dL_law_1387 : decode cL_law 1387 = .ok (.iload 6, 2) := by decide +kernel
theorem dL_law_1389 : decode cL_law 1389 = .ok (.i2l, 1) := by decide +kernel
theorem dL_law_1390 : decode cL_law 1390 = .ok (.lcmp, 1) := by decide +kernel
theorem dL_law_1391 : decode cL_law 1391 = .ok (.ifCond .eq 5, 3) := by decide +kernel
theorem dL_law_1394 : decode cL_law 1394 = .ok (.iconst 0, 1) := by decide +kernel
theorem dL_law_1395 : decode cL_law 1395 = .ok (.ireturn, 1) := by decide +kernel
theorem dL_law_1396 : decode cL_law 1396 = .ok (.goto 127, 3) := by decide +kernel
theorem dL_law_1399 : decode cL_law 1399 = .ok (.aload_n 1, 1) := by decide +kernel
theorem dL_law_1400 : decode cL_law 1400 = .ok (.aload_n 0, 1) := by decide +kernel
theorem dL_law_1401 : decode cL_law 1401 = .ok (.iload 4, 2) := by decide +kernel
theorem dL_law_1403 : decode cL_law 1403 = .ok (.iconst 1, 1) := by decide +kernel
theorem dL_law_1404 : decode cL_law 1404 = .ok (.iadd, 1) := by decide +kernel
theorem dL_law_1405 : decode cL_law 1405 = .ok (.iaload, 1) := by decide +kernel
theorem dL_law_1406 : decode cL_law 1406 = .ok (.aload_n 0, 1) := by decide +kernel
theorem dL_law_1407 : decode cL_law 1407 = .ok (.iload 4, 2) := by decide +kernel
theorem dL_law_1409 : decode cL_law 1409 = .ok (.iconst 2, 1) := by decide +kernel
theorem dL_law_1410 : decode cL_law 1410 = .ok (.iadd, 1) := by decide +kernel
theorem dL_law_1411 : decode cL_law 1411 = .ok (.iaload, 1) := by decide +kernel
theorem dL_law_1412 : decode cL_law 1412 = .ok (.aload_n 3, 1) := by decide +kernel
theorem dL_law_1413 : decode cL_law 1413 = .ok (.invokestatic 166, 3) := by decide +kernel
theorem dL_law_1416 : decode cL_law 1416 = .ok (.istore 5, 2) := by decide +kernel
theorem dL_law_1418 : decode cL_law 1418 = .ok (.aload_n 2, 1) := by decide +kernel
theorem dL_law_1419 : decode cL_law 1419 = .ok (.aload_n 0, 1) := by decide +kernel
theorem dL_law_1420 : decode cL_law 1420 = .ok (.iload 4, 2) := by decide +kernel
theorem dL_law_1422 : decode cL_law 1422 = .ok (.iconst 1, 1) := by decide +kernel
theorem dL_law_1423 : decode cL_law 1423 = .ok (.iadd, 1) := by decide +kernel
theorem dL_law_1424 : decode cL_law 1424 = .ok (.iaload, 1) := by decide +kernel
theorem dL_law_1425 : decode cL_law 1425 = .ok (.aload_n 0, 1) := by decide +kernel
theorem dL_law_1426 : decode cL_law 1426 = .ok (.iload 4, 2) := by decide +kernel
theorem dL_law_1428 : decode cL_law 1428 = .ok (.iconst 2, 1) := by decide +kernel
theorem dL_law_1429 : decode cL_law 1429 = .ok (.iadd, 1) := by decide +kernel
theorem dL_law_1430 : decode cL_law 1430 = .ok (.iaload, 1) := by decide +kernel
theorem dL_law_1431 : decode cL_law 1431 = .ok (.invokevirtual 168, 3) := by decide +kernel
theorem dL_law_1434 : decode cL_law 1434 = .ok (.istore 6, 2) := by decide +kernel
theorem dL_law_1436 : decode cL_law 1436 = .ok (.aload_n 2, 1) := by decide +kernel
theorem dL_law_1437 : decode cL_law 1437 = .ok (.invokevirtual 93, 3) := by decide +kernel
theorem dL_law_1440 : decode cL_law 1440 = .ok (.iload 5, 2) := by decide +kernel
theorem dL_law_1442 : decode cL_law 1442 = .ok (.if_icmp .eq 5, 3) := by decide +kernel
theorem dL_law_1445 : decode cL_law 1445 = .ok (.iconst 0, 1) := by decide +kernel
theorem dL_law_1446 : decode cL_law 1446 = .ok (.ireturn, 1) := by decide +kernel
theorem dL_law_1447 : decode cL_law 1447 = .ok (.iload 5, 2) := by decide +kernel
theorem dL_law_1449 : decode cL_law 1449 = .ok (.ifCond .ne 15, 3) := by decide +kernel
theorem dL_law_1452 : decode cL_law 1452 = .ok (.aload_n 3, 1) := by decide +kernel
theorem dL_law_1453 : decode cL_law 1453 = .ok (.iconst 0, 1) := by decide +kernel
theorem dL_law_1454 : decode cL_law 1454 = .ok (.laload, 1) := by decide +kernel
theorem dL_law_1455 : decode cL_law 1455 = .ok (.iload 6, 2) := by decide +kernel
theorem dL_law_1457 : decode cL_law 1457 = .ok (.i2l, 1) := by decide +kernel
theorem dL_law_1458 : decode cL_law 1458 = .ok (.lcmp, 1) := by decide +kernel
theorem dL_law_1459 : decode cL_law 1459 = .ok (.ifCond .eq 5, 3) := by decide +kernel
theorem dL_law_1462 : decode cL_law 1462 = .ok (.iconst 0, 1) := by decide +kernel
theorem dL_law_1463 : decode cL_law 1463 = .ok (.ireturn, 1) := by decide +kernel
theorem dL_law_1464 : decode cL_law 1464 = .ok (.goto 59, 3) := by decide +kernel
theorem dL_law_1467 : decode cL_law 1467 = .ok (.aload_n 1, 1) := by decide +kernel
theorem dL_law_1468 : decode cL_law 1468 = .ok (.aload_n 0, 1) := by decide +kernel
theorem dL_law_1469 : decode cL_law 1469 = .ok (.iload 4, 2) := by decide +kernel
theorem dL_law_1471 : decode cL_law 1471 = .ok (.iconst 1, 1) := by decide +kernel
theorem dL_law_1472 : decode cL_law 1472 = .ok (.iadd, 1) := by decide +kernel
theorem dL_law_1473 : decode cL_law 1473 = .ok (.iaload, 1) := by decide +kernel
theorem dL_law_1474 : decode cL_law 1474 = .ok (.aload_n 3, 1) := by decide +kernel
theorem dL_law_1475 : decode cL_law 1475 = .ok (.invokestatic 169, 3) := by decide +kernel
theorem dL_law_1478 : decode cL_law 1478 = .ok (.istore 5, 2) := by decide +kernel
theorem dL_law_1480 : decode cL_law 1480 = .ok (.aload_n 2, 1) := by decide +kernel
theorem dL_law_1481 : decode cL_law 1481 = .ok (.aload_n 0, 1) := by decide +kernel
theorem dL_law_1482 : decode cL_law 1482 = .ok (.iload 4, 2) := by decide +kernel
theorem dL_law_1484 : decode cL_law 1484 = .ok (.iconst 1, 1) := by decide +kernel
theorem dL_law_1485 : decode cL_law 1485 = .ok (.iadd, 1) := by decide +kernel
theorem dL_law_1486 : decode cL_law 1486 = .ok (.iaload, 1) := by decide +kernel
theorem dL_law_1487 : decode cL_law 1487 = .ok (.invokevirtual 171, 3) := by decide +kernel
theorem dL_law_1490 : decode cL_law 1490 = .ok (.istore 6, 2) := by decide +kernel
theorem dL_law_1492 : decode cL_law 1492 = .ok (.aload_n 2, 1) := by decide +kernel
theorem dL_law_1493 : decode cL_law 1493 = .ok (.invokevirtual 93, 3) := by decide +kernel
theorem dL_law_1496 : decode cL_law 1496 = .ok (.iload 5, 2) := by decide +kernel
theorem dL_law_1498 : decode cL_law 1498 = .ok (.if_icmp .eq 5, 3) := by decide +kernel
theorem dL_law_1501 : decode cL_law 1501 = .ok (.iconst 0, 1) := by decide +kernel
theorem dL_law_1502 : decode cL_law 1502 = .ok (.ireturn, 1) := by decide +kernel
theorem dL_law_1503 : decode cL_law 1503 = .ok (.iload 5, 2) := by decide +kernel
theorem dL_law_1505 : decode cL_law 1505 = .ok (.ifCond .ne 15, 3) := by decide +kernel
theorem dL_law_1508 : decode cL_law 1508 = .ok (.aload_n 3, 1) := by decide +kernel
theorem dL_law_1509 : decode cL_law 1509 = .ok (.iconst 0, 1) := by decide +kernel
theorem dL_law_1510 : decode cL_law 1510 = .ok (.laload, 1) := by decide +kernel
theorem dL_law_1511 : decode cL_law 1511 = .ok (.iload 6, 2) := by decide +kernel
theorem dL_law_1513 : decode cL_law 1513 = .ok (.i2l, 1) := by decide +kernel
theorem dL_law_1514 : decode cL_law 1514 = .ok (.lcmp, 1) := by decide +kernel
theorem dL_law_1515 : decode cL_law 1515 = .ok (.ifCond .eq 5, 3) := by decide +kernel
theorem dL_law_1518 : decode cL_law 1518 = .ok (.iconst 0, 1) := by decide +kernel
theorem dL_law_1519 : decode cL_law 1519 = .ok (.ireturn, 1) := by decide +kernel
theorem dL_law_1520 : decode cL_law 1520 = .ok (.goto 3, 3) := by decide +kernel
theorem dL_law_1523 : decode cL_law 1523 = .ok (.iinc 4 4, 3) := by decide +kernel
theorem dL_law_1526 : decode cL_law 1526 = .ok (.goto (-1503), 3) := by decide +kernel
theorem dL_law_1529 : decode cL_law 1529 = .ok (.iconst 1, 1) := by decide +kernel
theorem dL_law_1530 : decode cL_law 1530 = .ok (.ireturn, 1) := by decide +kernel
end
section
/-! numbers: ints and longs as images of whole numbers -/
def iI (x : Int) : Int32 := Int32.ofInt x
def iL (x : Int) : Int64 := Int64.ofInt x
abbrev nB (x : Int) : Prop := -2147483648 ≤ x ∧ x ≤ 2147483647
abbrev lB (x : Int) : Prop := -9223372036854775808 ≤ x ∧ x ≤ 9223372036854775807
theorem iI_add (a b : Int) : iI a + iI b = iI (a + b) := (Int32.ofInt_add a b).symm
theorem iI_sub (a b : Int) : iI a - iI b = iI (a - b) := (Int32.ofInt_sub a b).symm
theorem iI_mul (a b : Int) : iI a * iI b = iI (a * b) := (Int32.ofInt_mul a b).symm
theorem iL_add (a b : Int) : iL a + iL b = iL (a + b) := (Int64.ofInt_add a b).symm
theorem iL_sub (a b : Int) : iL a - iL b = iL (a - b) := (Int64.ofInt_sub a b).symm
theorem iL_mul (a b : Int) : iL a * iL b = iL (a * b) := (Int64.ofInt_mul a b).symm
theorem iI_T {x : Int} (h : nB x) : (iI x).toInt = x := Int32.toInt_ofInt_of_le (by have := h.1; omega) (by have := h.2; omega)
theorem iL_T {x : Int} (h : lB x) : (iL x).toInt = x := Int64.toInt_ofInt_of_le (by have := h.1; omega) (by have := h.2; omega)
theorem nB_lB {x : Int} (h : nB x) : lB x := ⟨by have := h.1; omega, by have := h.2; omega⟩
theorem iI_of (x : Int32) : ∃ n : Int, nB n ∧ x = iI n := ⟨x.toInt, ⟨by have := x.le_toInt; omega, by have := x.toInt_lt; omega⟩, (Int32.ofInt_toInt x).symm⟩
theorem iI_le {a b : Int} (ha : nB a) (hb : nB b) : iI a ≤ iI b ↔ a ≤ b := by rw [Int32.le_iff_toInt_le, iI_T ha, iI_T hb]
theorem iI_lt {a b : Int} (ha : nB a) (hb : nB b) : iI a < iI b ↔ a < b := by rw [Int32.lt_iff_toInt_lt, iI_T ha, iI_T hb]
theorem iI_eq {a b : Int} (ha : nB a) (hb : nB b) : iI a = iI b ↔ a = b := by rw [← Int32.toInt_inj, iI_T ha, iI_T hb]
theorem iL_le {a b : Int} (ha : lB a) (hb : lB b) : iL a ≤ iL b ↔ a ≤ b := by rw [Int64.le_iff_toInt_le, iL_T ha, iL_T hb]
theorem iL_lt {a b : Int} (ha : lB a) (hb : lB b) : iL a < iL b ↔ a < b := by rw [Int64.lt_iff_toInt_lt, iL_T ha, iL_T hb]
theorem iL_eq {a b : Int} (ha : lB a) (hb : lB b) : iL a = iL b ↔ a = b := by rw [← Int64.toInt_inj, iL_T ha, iL_T hb]
theorem nB0 : nB 0 := by decide
theorem iI_z : (0 : Int32) = iI 0 := rfl
theorem iI_L {x : Int} (h : nB x) : (iI x).toInt64 = iL x := by
  rw [← Int64.toInt_inj, Int32.toInt_toInt64, iI_T h, iL_T (nB_lB h)]
theorem iL_I (x : Int) : (iL x).toInt32 = iI x := Int64.toInt32_ofInt
theorem iI_ne {d : Int} (h : nB d) (k : Int) (hk : nB k) (hne : d ≠ k) : ¬ iI d = iI k := fun e => hne ((iI_eq h hk).mp e)
theorem div_nB {a d : Int} (ha : 0 ≤ a) (ha' : nB a) (hd : 0 < d) : nB (a / d) := by
  have h1 : 0 ≤ a / d := Int.ediv_nonneg ha (Int.le_of_lt hd)
  have h2 : a / d ≤ a := Int.ediv_le_self d ha
  exact ⟨by omega, by have := ha'.2; omega⟩
theorem div_lB {a d : Int} (ha : 0 ≤ a) (ha' : lB a) (hd : 0 < d) : lB (a / d) := by
  have h1 : 0 ≤ a / d := Int.ediv_nonneg ha (Int.le_of_lt hd)
  have h2 : a / d ≤ a := Int.ediv_le_self d ha
  exact ⟨by omega, by have := ha'.2; omega⟩
theorem iI_div {a d : Int} (ha : 0 ≤ a) (ha' : nB a) (hd : 0 < d) (hd' : nB d) : iI a / iI d = iI (a / d) := by
  rw [← Int32.toInt_inj, Int32.toInt_div_of_ne_right _ _ (iI_ne hd' (-1) (by decide) (by omega)), iI_T ha', iI_T hd', iI_T (div_nB ha ha' hd)]
  exact Int.tdiv_eq_ediv_of_nonneg ha
theorem iL_ne {d : Int} (h : lB d) (k : Int) (hk : lB k) (hne : d ≠ k) : ¬ iL d = iL k := fun e => hne ((iL_eq h hk).mp e)
theorem iL_div {a d : Int} (ha : 0 ≤ a) (ha' : lB a) (hd : 0 < d) (hd' : lB d) : iL a / iL d = iL (a / d) := by
  rw [← Int64.toInt_inj, Int64.toInt_div_of_ne_right _ _ (iL_ne hd' (-1) (by decide) (by omega)), iL_T ha', iL_T hd', iL_T (div_lB ha ha' hd)]
  exact Int.tdiv_eq_ediv_of_nonneg ha
theorem iI_cl {x : Int} (h : nB x) : (iI x).toNatClampNeg = x.toNat := by
  show (iI x).toInt.toNat = _
  rw [iI_T h]
theorem iI_in {x : Int} {n : Nat} (h0 : 0 ≤ x) (h1 : x < n) (hn : n ≤ 2147483648) : vp_in (iI x) n := vp_in_iff.mpr (by
  rw [iI_T ⟨by omega, by omega⟩]
  exact ⟨h0, h1⟩)
/-- a state: rows of whole numbers -/
abbrev Sg : Type := Nat → Nat → Int
def up (σ : Sg) (a b : Nat) (v : Int) : Sg := fun x y => if y = b then (if x = a then v else σ x y) else σ x y
theorem up_s (σ : Sg) (a b : Nat) (v : Int) : up σ a b v a b = v := by simp [up]
theorem up_b {σ : Sg} {a b : Nat} {v : Int} {x y : Nat} (h : y ≠ b) : up σ a b v x y = σ x y := by simp [up, h]
theorem up_a {σ : Sg} {a b : Nat} {v : Int} {x y : Nat} (h : x ≠ a) : up σ a b v x y = σ x y := by simp [up, h]
section KB
variable {p : Program} {l : Launch} {e : Env} {R : Room} {s : State} {m : MethodId} {args : Array Value} {below : List Frame} {meth : Method} {c : Code} {H : Heap} {locs : List Loc} {cells slots : Nat} {Q : State → Prop} {cc : ByteArray} {pc : Nat} {ls : Array Slot} {rest : List Value}
theorem k_iconst (hx : p.tables.exec = Jvm.exec) (hb : c.code = cc) {n : Int} (hd : decode cc pc = .ok (.iconst n, 1)) (kk : W p l e R s m args below meth c H locs cells slots Q (F0 m (pc + 1) ls (.int (iI n) :: rest))) : W p l e R s m args below meth c H locs cells slots Q (F0 m pc ls rest) := lv_iconst hx hb hd rfl kk
theorem k_bipush (hx : p.tables.exec = Jvm.exec) (hb : c.code = cc) {n : Int} (hd : decode cc pc = .ok (.bipush n, 2)) (hn : (Int8.ofInt n).toInt32 = iI n) (kk : W p l e R s m args below meth c H locs cells slots Q (F0 m (pc + 2) ls (.int (iI n) :: rest))) : W p l e R s m args below meth c H locs cells slots Q (F0 m pc ls rest) := lv_bipush hx hb hd hn kk
theorem k_sipush (hx : p.tables.exec = Jvm.exec) (hb : c.code = cc) {n : Int} (hd : decode cc pc = .ok (.sipush n, 3)) (hn : (Int16.ofInt n).toInt32 = iI n) (kk : W p l e R s m args below meth c H locs cells slots Q (F0 m (pc + 3) ls (.int (iI n) :: rest))) : W p l e R s m args below meth c H locs cells slots Q (F0 m pc ls rest) := lv_sipush hx hb hd hn kk
theorem k_lconst (hx : p.tables.exec = Jvm.exec) (hb : c.code = cc) {n : Fin 2} (hd : decode cc pc = .ok (.lconst n, 1)) {v : Int} (hv : Int64.ofNat (n : Nat) = iL v) (kk : W p l e R s m args below meth c H locs cells slots Q (F0 m (pc + 1) ls (.long (iL v) :: rest))) : W p l e R s m args below meth c H locs cells slots Q (F0 m pc ls rest) := lv_lconst hx hb hd hv kk
theorem k_ldc (hx : p.tables.exec = Jvm.exec) (hb : c.code = cc) {own : String} {index : Nat} {v : Int32} (n : Int) (hown : s.vm.findClass own = some m.cls) (hc : (Jvm.Cond.constant own index v).before args s = true) (hv : v = iI n) (hd : decode cc pc = .ok (.ldc index, 2)) (kk : W p l e R s m args below meth c H locs cells slots Q (F0 m (pc + 2) ls (.int (iI n) :: rest))) : W p l e R s m args below meth c H locs cells slots Q (F0 m pc ls rest) := lv_ldc hx hb hown hc hd (by rw [hv]; exact kk)
theorem k_ldc2 (hx : p.tables.exec = Jvm.exec) (hb : c.code = cc) {own : String} {index : Nat} {v : Int64} (n : Int) (hown : s.vm.findClass own = some m.cls) (hc : (Jvm.Cond.constantLong own index v).before args s = true) (hv : v = iL n) (hd : decode cc pc = .ok (.ldc2_w index, 3)) (kk : W p l e R s m args below meth c H locs cells slots Q (F0 m (pc + 3) ls (.long (iL n) :: rest))) : W p l e R s m args below meth c H locs cells slots Q (F0 m pc ls rest) := lv_ldc2 hx hb hown hc hd (by rw [hv]; exact kk)
theorem k_iadd (hx : p.tables.exec = Jvm.exec) (hb : c.code = cc) {x y : Int} (hd : decode cc pc = .ok (.iadd, 1)) (kk : W p l e R s m args below meth c H locs cells slots Q (F0 m (pc + 1) ls (.int (iI (x + y)) :: rest))) : W p l e R s m args below meth c H locs cells slots Q (F0 m pc ls (.int (iI y) :: .int (iI x) :: rest)) := lv_iadd hx hb hd (by rw [iI_add]; exact kk)
theorem k_isub (hx : p.tables.exec = Jvm.exec) (hb : c.code = cc) {x y : Int} (hd : decode cc pc = .ok (.isub, 1)) (kk : W p l e R s m args below meth c H locs cells slots Q (F0 m (pc + 1) ls (.int (iI (x - y)) :: rest))) : W p l e R s m args below meth c H locs cells slots Q (F0 m pc ls (.int (iI y) :: .int (iI x) :: rest)) := lv_isub hx hb hd (by rw [iI_sub]; exact kk)
theorem k_imul (hx : p.tables.exec = Jvm.exec) (hb : c.code = cc) {x y : Int} (hd : decode cc pc = .ok (.imul, 1)) (kk : W p l e R s m args below meth c H locs cells slots Q (F0 m (pc + 1) ls (.int (iI (x * y)) :: rest))) : W p l e R s m args below meth c H locs cells slots Q (F0 m pc ls (.int (iI y) :: .int (iI x) :: rest)) := lv_imul hx hb hd (by rw [iI_mul]; exact kk)
theorem k_idiv (hx : p.tables.exec = Jvm.exec) (hb : c.code = cc) {x y : Int} (hd : decode cc pc = .ok (.idiv, 1)) (h0 : 0 ≤ x) (hxn : nB x) (hy : 0 < y) (hyn : nB y) (kk : W p l e R s m args below meth c H locs cells slots Q (F0 m (pc + 1) ls (.int (iI (x / y)) :: rest))) : W p l e R s m args below meth c H locs cells slots Q (F0 m pc ls (.int (iI y) :: .int (iI x) :: rest)) := lv_idiv hx hb hd (by rw [iI_z]; exact iI_ne hyn 0 nB0 (by omega)) (by rw [iI_div h0 hxn hy hyn]; exact kk)
theorem k_ladd (hx : p.tables.exec = Jvm.exec) (hb : c.code = cc) {x y : Int} (hd : decode cc pc = .ok (.ladd, 1)) (kk : W p l e R s m args below meth c H locs cells slots Q (F0 m (pc + 1) ls (.long (iL (x + y)) :: rest))) : W p l e R s m args below meth c H locs cells slots Q (F0 m pc ls (.long (iL y) :: .long (iL x) :: rest)) := lv_ladd hx hb hd (by rw [iL_add]; exact kk)
theorem k_lsub (hx : p.tables.exec = Jvm.exec) (hb : c.code = cc) {x y : Int} (hd : decode cc pc = .ok (.lsub, 1)) (kk : W p l e R s m args below meth c H locs cells slots Q (F0 m (pc + 1) ls (.long (iL (x - y)) :: rest))) : W p l e R s m args below meth c H locs cells slots Q (F0 m pc ls (.long (iL y) :: .long (iL x) :: rest)) := lv_lsub hx hb hd (by rw [iL_sub]; exact kk)
theorem k_lmul (hx : p.tables.exec = Jvm.exec) (hb : c.code = cc) {x y : Int} (hd : decode cc pc = .ok (.lmul, 1)) (kk : W p l e R s m args below meth c H locs cells slots Q (F0 m (pc + 1) ls (.long (iL (x * y)) :: rest))) : W p l e R s m args below meth c H locs cells slots Q (F0 m pc ls (.long (iL y) :: .long (iL x) :: rest)) := lv_lmul hx hb hd (by rw [iL_mul]; exact kk)
theorem k_ldiv (hx : p.tables.exec = Jvm.exec) (hb : c.code = cc) {x y : Int} (hd : decode cc pc = .ok (.ldiv, 1)) (h0 : 0 ≤ x) (hxn : lB x) (hy : 0 < y) (hyn : lB y) (kk : W p l e R s m args below meth c H locs cells slots Q (F0 m (pc + 1) ls (.long (iL (x / y)) :: rest))) : W p l e R s m args below meth c H locs cells slots Q (F0 m pc ls (.long (iL y) :: .long (iL x) :: rest)) := lv_ldiv hx hb hd (by rw [show (0 : Int64) = iL 0 from rfl]; exact iL_ne hyn 0 (by decide) (by omega)) (by rw [iL_div h0 hxn hy hyn]; exact kk)
theorem k_i2l (hx : p.tables.exec = Jvm.exec) (hb : c.code = cc) {x : Int} (hd : decode cc pc = .ok (.i2l, 1)) (h : nB x) (kk : W p l e R s m args below meth c H locs cells slots Q (F0 m (pc + 1) ls (.long (iL x) :: rest))) : W p l e R s m args below meth c H locs cells slots Q (F0 m pc ls (.int (iI x) :: rest)) := lv_i2l hx hb hd (iI_L h) kk
theorem k_l2i (hx : p.tables.exec = Jvm.exec) (hb : c.code = cc) {x : Int} (hd : decode cc pc = .ok (.l2i, 1)) (kk : W p l e R s m args below meth c H locs cells slots Q (F0 m (pc + 1) ls (.int (iI x) :: rest))) : W p l e R s m args below meth c H locs cells slots Q (F0 m pc ls (.long (iL x) :: rest)) := lv_l2i hx hb hd (iL_I x) kk
theorem k_icmp_eq (hx : p.tables.exec = Jvm.exec) (hb : c.code = cc) {x y off : Int} {tgt : Nat} (hd : decode cc pc = .ok (.if_icmp .eq off, 3)) (ht : (pc : Int) + off = (tgt : Int)) (hA : nB x) (hB : nB y) (kt : x = y → W p l e R s m args below meth c H locs cells slots Q (F0 m tgt ls rest)) (kf : ¬ x = y → W p l e R s m args below meth c H locs cells slots Q (F0 m (pc + 3) ls rest)) : W p l e R s m args below meth c H locs cells slots Q (F0 m pc ls (.int (iI y) :: .int (iI x) :: rest)) := lv_icmp_eq hx hb hd ht (fun h => kt ((iI_eq hA hB).mp h)) (fun h => kf (fun h' => h ((iI_eq hA hB).mpr h')))
theorem k_icmp_ne (hx : p.tables.exec = Jvm.exec) (hb : c.code = cc) {x y off : Int} {tgt : Nat} (hd : decode cc pc = .ok (.if_icmp .ne off, 3)) (ht : (pc : Int) + off = (tgt : Int)) (hA : nB x) (hB : nB y) (kt : ¬ x = y → W p l e R s m args below meth c H locs cells slots Q (F0 m tgt ls rest)) (kf : x = y → W p l e R s m args below meth c H locs cells slots Q (F0 m (pc + 3) ls rest)) : W p l e R s m args below meth c H locs cells slots Q (F0 m pc ls (.int (iI y) :: .int (iI x) :: rest)) := lv_icmp_ne hx hb hd ht (fun h => kt (fun h' => h ((iI_eq hA hB).mpr h'))) (fun h => kf ((iI_eq hA hB).mp h))
theorem k_icmp_ge (hx : p.tables.exec = Jvm.exec) (hb : c.code = cc) {x y off : Int} {tgt : Nat} (hd : decode cc pc = .ok (.if_icmp .ge off, 3)) (ht : (pc : Int) + off = (tgt : Int)) (hA : nB x) (hB : nB y) (kt : y ≤ x → W p l e R s m args below meth c H locs cells slots Q (F0 m tgt ls rest)) (kf : x < y → W p l e R s m args below meth c H locs cells slots Q (F0 m (pc + 3) ls rest)) : W p l e R s m args below meth c H locs cells slots Q (F0 m pc ls (.int (iI y) :: .int (iI x) :: rest)) := lv_icmp_ge hx hb hd ht (fun h => kt ((iI_le hB hA).mp h)) (fun h => kf (by rw [iI_le hB hA] at h; omega))
theorem k_icmp_lt (hx : p.tables.exec = Jvm.exec) (hb : c.code = cc) {x y off : Int} {tgt : Nat} (hd : decode cc pc = .ok (.if_icmp .lt off, 3)) (ht : (pc : Int) + off = (tgt : Int)) (hA : nB x) (hB : nB y) (kt : x < y → W p l e R s m args below meth c H locs cells slots Q (F0 m tgt ls rest)) (kf : y ≤ x → W p l e R s m args below meth c H locs cells slots Q (F0 m (pc + 3) ls rest)) : W p l e R s m args below meth c H locs cells slots Q (F0 m pc ls (.int (iI y) :: .int (iI x) :: rest)) := lv_icmp_lt hx hb hd ht (fun h => kt ((iI_lt hA hB).mp h)) (fun h => kf (by rw [iI_lt hA hB] at h; omega))
theorem k_icmp_gt (hx : p.tables.exec = Jvm.exec) (hb : c.code = cc) {x y off : Int} {tgt : Nat} (hd : decode cc pc = .ok (.if_icmp .gt off, 3)) (ht : (pc : Int) + off = (tgt : Int)) (hA : nB x) (hB : nB y) (kt : y < x → W p l e R s m args below meth c H locs cells slots Q (F0 m tgt ls rest)) (kf : x ≤ y → W p l e R s m args below meth c H locs cells slots Q (F0 m (pc + 3) ls rest)) : W p l e R s m args below meth c H locs cells slots Q (F0 m pc ls (.int (iI y) :: .int (iI x) :: rest)) := lv_icmp_gt hx hb hd ht (fun h => kt ((iI_lt hB hA).mp h)) (fun h => kf (by rw [iI_lt hB hA] at h; omega))
theorem k_icmp_le (hx : p.tables.exec = Jvm.exec) (hb : c.code = cc) {x y off : Int} {tgt : Nat} (hd : decode cc pc = .ok (.if_icmp .le off, 3)) (ht : (pc : Int) + off = (tgt : Int)) (hA : nB x) (hB : nB y) (kt : x ≤ y → W p l e R s m args below meth c H locs cells slots Q (F0 m tgt ls rest)) (kf : y < x → W p l e R s m args below meth c H locs cells slots Q (F0 m (pc + 3) ls rest)) : W p l e R s m args below meth c H locs cells slots Q (F0 m pc ls (.int (iI y) :: .int (iI x) :: rest)) := lv_icmp_le hx hb hd ht (fun h => kt ((iI_le hA hB).mp h)) (fun h => kf (by rw [iI_le hA hB] at h; omega))
theorem k_if_eq (hx : p.tables.exec = Jvm.exec) (hb : c.code = cc) {x off : Int} {tgt : Nat} (hd : decode cc pc = .ok (.ifCond .eq off, 3)) (ht : (pc : Int) + off = (tgt : Int)) (hA : nB x) (kt : x = 0 → W p l e R s m args below meth c H locs cells slots Q (F0 m tgt ls rest)) (kf : ¬ x = 0 → W p l e R s m args below meth c H locs cells slots Q (F0 m (pc + 3) ls rest)) : W p l e R s m args below meth c H locs cells slots Q (F0 m pc ls (.int (iI x) :: rest)) := lv_if_eq hx hb hd ht (fun h => kt ((iI_eq hA nB0).mp h)) (fun h => kf (fun h' => h ((iI_eq hA nB0).mpr h')))
theorem k_if_ne (hx : p.tables.exec = Jvm.exec) (hb : c.code = cc) {x off : Int} {tgt : Nat} (hd : decode cc pc = .ok (.ifCond .ne off, 3)) (ht : (pc : Int) + off = (tgt : Int)) (hA : nB x) (kt : ¬ x = 0 → W p l e R s m args below meth c H locs cells slots Q (F0 m tgt ls rest)) (kf : x = 0 → W p l e R s m args below meth c H locs cells slots Q (F0 m (pc + 3) ls rest)) : W p l e R s m args below meth c H locs cells slots Q (F0 m pc ls (.int (iI x) :: rest)) := lv_if_ne hx hb hd ht (fun h => kt (fun h' => h ((iI_eq hA nB0).mpr h'))) (fun h => kf ((iI_eq hA nB0).mp h))
theorem k_if_ge (hx : p.tables.exec = Jvm.exec) (hb : c.code = cc) {x off : Int} {tgt : Nat} (hd : decode cc pc = .ok (.ifCond .ge off, 3)) (ht : (pc : Int) + off = (tgt : Int)) (hA : nB x) (kt : 0 ≤ x → W p l e R s m args below meth c H locs cells slots Q (F0 m tgt ls rest)) (kf : x < 0 → W p l e R s m args below meth c H locs cells slots Q (F0 m (pc + 3) ls rest)) : W p l e R s m args below meth c H locs cells slots Q (F0 m pc ls (.int (iI x) :: rest)) := lv_if_ge hx hb hd ht (fun h => kt ((iI_le nB0 hA).mp h)) (fun h => kf (by rw [iI_z, iI_le nB0 hA] at h; omega))
theorem k_if_lt (hx : p.tables.exec = Jvm.exec) (hb : c.code = cc) {x off : Int} {tgt : Nat} (hd : decode cc pc = .ok (.ifCond .lt off, 3)) (ht : (pc : Int) + off = (tgt : Int)) (hA : nB x) (kt : x < 0 → W p l e R s m args below meth c H locs cells slots Q (F0 m tgt ls rest)) (kf : 0 ≤ x → W p l e R s m args below meth c H locs cells slots Q (F0 m (pc + 3) ls rest)) : W p l e R s m args below meth c H locs cells slots Q (F0 m pc ls (.int (iI x) :: rest)) := lv_if_lt hx hb hd ht (fun h => kt ((iI_lt hA nB0).mp h)) (fun h => kf (by rw [iI_z, iI_lt hA nB0] at h; omega))
theorem k_if_gt (hx : p.tables.exec = Jvm.exec) (hb : c.code = cc) {x off : Int} {tgt : Nat} (hd : decode cc pc = .ok (.ifCond .gt off, 3)) (ht : (pc : Int) + off = (tgt : Int)) (hA : nB x) (kt : 0 < x → W p l e R s m args below meth c H locs cells slots Q (F0 m tgt ls rest)) (kf : x ≤ 0 → W p l e R s m args below meth c H locs cells slots Q (F0 m (pc + 3) ls rest)) : W p l e R s m args below meth c H locs cells slots Q (F0 m pc ls (.int (iI x) :: rest)) := lv_if_gt hx hb hd ht (fun h => kt ((iI_lt nB0 hA).mp h)) (fun h => kf (by rw [iI_z, iI_lt nB0 hA] at h; omega))
theorem k_if_le (hx : p.tables.exec = Jvm.exec) (hb : c.code = cc) {x off : Int} {tgt : Nat} (hd : decode cc pc = .ok (.ifCond .le off, 3)) (ht : (pc : Int) + off = (tgt : Int)) (hA : nB x) (kt : x ≤ 0 → W p l e R s m args below meth c H locs cells slots Q (F0 m tgt ls rest)) (kf : 0 < x → W p l e R s m args below meth c H locs cells slots Q (F0 m (pc + 3) ls rest)) : W p l e R s m args below meth c H locs cells slots Q (F0 m pc ls (.int (iI x) :: rest)) := lv_if_le hx hb hd ht (fun h => kt ((iI_le hA nB0).mp h)) (fun h => kf (by rw [iI_z, iI_le hA nB0] at h; omega))
/-- lcmp and the branch behind it -/
theorem k_lcmp_ne (hx : p.tables.exec = Jvm.exec) (hb : c.code = cc) {x y off : Int} {tgt : Nat} (hd : decode cc pc = .ok (.lcmp, 1)) (hd2 : decode cc (pc + 1) = .ok (.ifCond .ne off, 3)) (ht : ((pc + 1 : Nat) : Int) + off = (tgt : Int)) (hA : lB x) (hB : lB y) (kt : ¬ x = y → W p l e R s m args below meth c H locs cells slots Q (F0 m tgt ls rest)) (kf : x = y → W p l e R s m args below meth c H locs cells slots Q (F0 m (pc + 4) ls rest)) : W p l e R s m args below meth c H locs cells slots Q (F0 m pc ls (.long (iL y) :: .long (iL x) :: rest)) :=
  W.lcmp hx hb hd (lv_if_ne hx hb hd2 ht (fun h => kt (fun h' => h ((lg_cmp_eq _ _).mpr ((iL_eq hA hB).mpr h')))) (fun h => kf ((iL_eq hA hB).mp ((lg_cmp_eq _ _).mp h))))
theorem k_lcmp_gt (hx : p.tables.exec = Jvm.exec) (hb : c.code = cc) {x y off : Int} {tgt : Nat} (hd : decode cc pc = .ok (.lcmp, 1)) (hd2 : decode cc (pc + 1) = .ok (.ifCond .gt off, 3)) (ht : ((pc + 1 : Nat) : Int) + off = (tgt : Int)) (hA : lB x) (hB : lB y) (kt : y < x → W p l e R s m args below meth c H locs cells slots Q (F0 m tgt ls rest)) (kf : x ≤ y → W p l e R s m args below meth c H locs cells slots Q (F0 m (pc + 4) ls rest)) : W p l e R s m args below meth c H locs cells slots Q (F0 m pc ls (.long (iL y) :: .long (iL x) :: rest)) :=
  W.lcmp hx hb hd (lv_if_gt hx hb hd2 ht (fun h => kt ((iL_lt hB hA).mp ((lg_cmp_gt _ _).mp h))) (fun h => kf (by rw [lg_cmp_gt, iL_lt hB hA] at h; omega)))
end KB
end
section
/-! the class's world: cells 0 the lender, 1 its crops' row, 2 its farmers' row, 3+c a crop, 6+c its needs, 9+i a farmer, 17+i what was repaid, 25+i the instalments.
The state's row j is what the cell j holds, slot by slot -/
abbrev cHl (ad : Nat → Nat) (σ : Sg) : List Value := [.ref (ad 1), .ref (ad 2), .int (iI (σ 0 2)), .int (iI (σ 0 3)), .int (iI (σ 0 4))]
abbrev cCr (ad : Nat → Nat) (σ : Sg) (c : Nat) : List Value := [.ref (ad (6 + c)), .int (iI (σ (3 + c) 1)), .int (iI (σ (3 + c) 2))]
abbrev cFa (ad : Nat → Nat) (σ : Sg) (i : Nat) : List Value := [.int (iI (σ (9 + i) 0)), .long (iL (σ (9 + i) 1)), .long (iL (σ (9 + i) 2)), .long (iL (σ (9 + i) 3)), .long (iL (σ (9 + i) 4)), .long (iL (σ (9 + i) 5)), .ref (ad (17 + i)), .ref (ad (25 + i)), .int (iI (σ (9 + i) 8)), .int (iI (σ (9 + i) 9)), .int (iI (σ (9 + i) 10)), .int (iI (σ (9 + i) 11)), .int (iI (σ (9 + i) 12)), .int (iI (σ (9 + i) 13)), .int (iI (σ (9 + i) 14)), .int (iI (σ (9 + i) 15)), .int (iI (σ (9 + i) 16))]
abbrev cNd (cy : Nat → ClassId) (σ : Sg) (c : Nat) : va_E := .inl (cy 0, 4, .inl (fun q => iI (σ (6 + c) q)))
abbrev cRp (cy : Nat → ClassId) (σ : Sg) (i : Nat) : va_E := .inl (cy 1, 5, .inr (.inl (fun q => iL (σ (17 + i) q))))
abbrev cIn (cy : Nat → ClassId) (σ : Sg) (i : Nat) : va_E := .inl (cy 1, 3, .inr (.inl (fun q => iL (σ (25 + i) q))))
abbrev cCs (ad : Nat → Nat) (cy : Nat → ClassId) : va_E := .inl (cy 2, 3, .inr (.inr (.inr (.inr (fun q => some (ad (3 + q)))))))
abbrev cFs (ad : Nat → Nat) (cy : Nat → ClassId) : va_E := .inl (cy 3, 8, .inr (.inr (.inr (.inr (fun q => some (ad (9 + q)))))))
def cE (ad : Nat → Nat) (cy : Nat → ClassId) (σ : Sg) (j : Nat) : va_E :=
  if j = 0 then .inr (2, cHl ad σ)
  else if j = 1 then cCs ad cy
  else if j = 2 then cFs ad cy
  else if j < 6 then .inr (0, cCr ad σ (j - 3))
  else if j < 9 then cNd cy σ (j - 6)
  else if j < 17 then .inr (1, cFa ad σ (j - 9))
  else if j < 25 then cRp cy σ (j - 17)
  else cIn cy σ (j - 25)
def cW (ad : Nat → Nat) (cy : Nat → ClassId) (σ : Sg) : va_W := (List.range 33).map (fun j => (ad j, cE ad cy σ j))
abbrev cT (cy : Nat → ClassId) : List (ClassId × FieldType) := [(cy 0, .int), (cy 1, .long), (cy 2, .object RX0), (cy 3, .object RX1)]
def cA (ad : Nat → Nat) (sz : Nat) : Nat → Prop := fun q => (∃ j, j < 33 ∧ q = ad j) ∨ sz ≤ q
def cI (ad : Nat → Nat) : Prop := ∀ i j, i < 33 → j < 33 → ad i = ad j → i = j
theorem cW_at {ad : Nat → Nat} {cy : Nat → ClassId} {σ : Sg} {j : Nat} (h : j < 33) : (cW ad cy σ)[j]? = some (ad j, cE ad cy σ j) := by
  simp [cW, List.getElem?_range h]
theorem cW_some {ad : Nat → Nat} {cy : Nat → ClassId} {σ : Sg} {k : Nat} {q : Nat × va_E} (h : (cW ad cy σ)[k]? = some q) : k < 33 ∧ q = (ad k, cE ad cy σ k) := by
  by_cases hk : k < 33
  · rw [cW_at hk] at h
    exact ⟨hk, (Option.some.inj h).symm⟩
  · rw [List.getElem?_eq_none (by simp [cW]; omega)] at h
    cases h
theorem cE_hl {ad : Nat → Nat} {cy : Nat → ClassId} {σ : Sg} : cE ad cy σ 0 = .inr (2, cHl ad σ) := rfl
theorem cE_cr {ad : Nat → Nat} {cy : Nat → ClassId} {σ : Sg} {c : Nat} (h : c < 3) : cE ad cy σ (3 + c) = .inr (0, cCr ad σ c) := by
  have e1 : 3 + c ≠ 0 := by omega
  have e2 : 3 + c ≠ 1 := by omega
  have e3 : 3 + c ≠ 2 := by omega
  have e4 : 3 + c < 6 := by omega
  have e5 : 3 + c - 3 = c := by omega
  simp only [cE, e1, e2, e3, e4, e5, if_true, if_false]
theorem cE_nd {ad : Nat → Nat} {cy : Nat → ClassId} {σ : Sg} {c : Nat} (h : c < 3) : cE ad cy σ (6 + c) = cNd cy σ c := by
  have e1 : 6 + c ≠ 0 := by omega
  have e2 : 6 + c ≠ 1 := by omega
  have e3 : 6 + c ≠ 2 := by omega
  have e4 : ¬ 6 + c < 6 := by omega
  have e5 : 6 + c < 9 := by omega
  have e6 : 6 + c - 6 = c := by omega
  simp only [cE, e1, e2, e3, e4, e5, e6, if_true, if_false]
theorem cE_fa {ad : Nat → Nat} {cy : Nat → ClassId} {σ : Sg} {i : Nat} (h : i < 8) : cE ad cy σ (9 + i) = .inr (1, cFa ad σ i) := by
  have e1 : 9 + i ≠ 0 := by omega
  have e2 : 9 + i ≠ 1 := by omega
  have e3 : 9 + i ≠ 2 := by omega
  have e4 : ¬ 9 + i < 6 := by omega
  have e5 : ¬ 9 + i < 9 := by omega
  have e6 : 9 + i < 17 := by omega
  have e7 : 9 + i - 9 = i := by omega
  simp only [cE, e1, e2, e3, e4, e5, e6, e7, if_true, if_false]
theorem cE_rp {ad : Nat → Nat} {cy : Nat → ClassId} {σ : Sg} {i : Nat} (h : i < 8) : cE ad cy σ (17 + i) = cRp cy σ i := by
  have e1 : 17 + i ≠ 0 := by omega
  have e2 : 17 + i ≠ 1 := by omega
  have e3 : 17 + i ≠ 2 := by omega
  have e4 : ¬ 17 + i < 6 := by omega
  have e5 : ¬ 17 + i < 9 := by omega
  have e6 : ¬ 17 + i < 17 := by omega
  have e7 : 17 + i < 25 := by omega
  have e8 : 17 + i - 17 = i := by omega
  simp only [cE, e1, e2, e3, e4, e5, e6, e7, e8, if_true, if_false]
theorem cE_in {ad : Nat → Nat} {cy : Nat → ClassId} {σ : Sg} {i : Nat} (h : i < 8) : cE ad cy σ (25 + i) = cIn cy σ i := by
  have e1 : 25 + i ≠ 0 := by omega
  have e2 : 25 + i ≠ 1 := by omega
  have e3 : 25 + i ≠ 2 := by omega
  have e4 : ¬ 25 + i < 6 := by omega
  have e5 : ¬ 25 + i < 9 := by omega
  have e6 : ¬ 25 + i < 17 := by omega
  have e7 : ¬ 25 + i < 25 := by omega
  have e8 : 25 + i - 25 = i := by omega
  simp only [cE, e1, e2, e3, e4, e5, e6, e7, e8, if_true, if_false]
theorem cW_hl {ad : Nat → Nat} {cy : Nat → ClassId} {σ : Sg} : (cW ad cy σ)[0]? = some (ad 0, .inr (2, cHl ad σ)) := cW_at (by decide)
theorem cW_cs {ad : Nat → Nat} {cy : Nat → ClassId} {σ : Sg} : (cW ad cy σ)[1]? = some (ad 1, cCs ad cy) := cW_at (by decide)
theorem cW_fs {ad : Nat → Nat} {cy : Nat → ClassId} {σ : Sg} : (cW ad cy σ)[2]? = some (ad 2, cFs ad cy) := cW_at (by decide)
theorem cW_cr {ad : Nat → Nat} {cy : Nat → ClassId} {σ : Sg} {c : Nat} (h : c < 3) : (cW ad cy σ)[3 + c]? = some (ad (3 + c), .inr (0, cCr ad σ c)) := by rw [cW_at (by omega), cE_cr h]
theorem cW_nd {ad : Nat → Nat} {cy : Nat → ClassId} {σ : Sg} {c : Nat} (h : c < 3) : (cW ad cy σ)[6 + c]? = some (ad (6 + c), cNd cy σ c) := by rw [cW_at (by omega), cE_nd h]
theorem cW_fa {ad : Nat → Nat} {cy : Nat → ClassId} {σ : Sg} {i : Nat} (h : i < 8) : (cW ad cy σ)[9 + i]? = some (ad (9 + i), .inr (1, cFa ad σ i)) := by rw [cW_at (by omega), cE_fa h]
theorem cW_rp {ad : Nat → Nat} {cy : Nat → ClassId} {σ : Sg} {i : Nat} (h : i < 8) : (cW ad cy σ)[17 + i]? = some (ad (17 + i), cRp cy σ i) := by rw [cW_at (by omega), cE_rp h]
theorem cW_in {ad : Nat → Nat} {cy : Nat → ClassId} {σ : Sg} {i : Nat} (h : i < 8) : (cW ad cy σ)[25 + i]? = some (ad (25 + i), cIn cy σ i) := by rw [cW_at (by omega), cE_in h]
theorem cD {ad : Nat → Nat} (hI : cI ad) {A : Nat → Prop} (hAc : ∀ j, j < 33 → A (ad j)) (cy : Nat → ClassId) (σ : Sg) : va_D A (cW ad cy σ) := by
  refine ⟨fun i j p q hp hq he => ?_, fun k q hk => ?_⟩
  · obtain ⟨h1, rfl⟩ := cW_some hp
    obtain ⟨h2, rfl⟩ := cW_some hq
    exact hI i j h1 h2 he
  · obtain ⟨h1, rfl⟩ := cW_some hk
    exact hAc k h1
/-- a cell reads its own row alone -/
theorem cE_up {ad : Nat → Nat} {cy : Nat → ClassId} {σ : Sg} {j b : Nat} {v : Int} (k : Nat) (hk : k < 33) (hne : k ≠ j) : cE ad cy (up σ j b v) k = cE ad cy σ k := by
  unfold cE
  split
  · rename_i h
    subst h
    simp [cHl, up_a hne]
  · split
    · rfl
    · split
      · rfl
      · split
        · have e : 3 + (k - 3) ≠ j := by omega
          simp [cCr, up_a e]
        · split
          · have e : 6 + (k - 6) ≠ j := by omega
            simp [cNd, up_a e]
          · split
            · have e : 9 + (k - 9) ≠ j := by omega
              simp [cFa, up_a e]
            · split
              · have e : 17 + (k - 17) ≠ j := by omega
                simp [cRp, up_a e]
              · have e : 25 + (k - 25) ≠ j := by omega
                simp [cIn, up_a e]
/-- one cell of the world changed -/
theorem cW_set {ad : Nat → Nat} {cy : Nat → ClassId} {σ : Sg} {j b : Nat} {v : Int} {x : va_E} (hj : j < 33) (hx : x = cE ad cy (up σ j b v) j) : (cW ad cy σ).set j (ad j, x) = cW ad cy (up σ j b v) := by
  apply List.ext_getElem?
  intro k
  by_cases hk : k < 33
  · rw [cW_at hk, List.getElem?_set]
    by_cases e : j = k
    · subst e
      have hlen : j < (cW ad cy σ).length := by simp [cW]; exact hk
      simp [hlen, hx]
    · simp only [e, if_false]
      rw [cW_at hk, cE_up k hk (fun h => e h.symm)]
  · rw [List.getElem?_eq_none (by simp [cW]; omega), List.getElem?_eq_none (by simp [cW]; omega)]
def cFx (b : Nat) : Bool := b == 0 || (8 ≤ b && b ≤ 16)
def cFy (b : Nat) : Bool := 1 ≤ b && b ≤ 5
theorem cW_putI {ad : Nat → Nat} {cy : Nat → ClassId} {σ : Sg} {i b : Nat} {v : Int} (hi : i < 8) (hb : cFx b = true) : (cW ad cy σ).set (9 + i) (ad (9 + i), .inr (1, (cFa ad σ i).set b (.int (iI v)))) = cW ad cy (up σ (9 + i) b v) := by
  refine cW_set (by omega) ?_
  rw [cE_fa hi]
  have hb' : b = 0 ∨ b = 8 ∨ b = 9 ∨ b = 10 ∨ b = 11 ∨ b = 12 ∨ b = 13 ∨ b = 14 ∨ b = 15 ∨ b = 16 := by simp [cFx] at hb; omega
  rcases hb' with rfl | rfl | rfl | rfl | rfl | rfl | rfl | rfl | rfl | rfl <;> simp [cFa, up]
theorem cW_putL {ad : Nat → Nat} {cy : Nat → ClassId} {σ : Sg} {i b : Nat} {v : Int} (hi : i < 8) (hb : cFy b = true) : (cW ad cy σ).set (9 + i) (ad (9 + i), .inr (1, (cFa ad σ i).set b (.long (iL v)))) = cW ad cy (up σ (9 + i) b v) := by
  refine cW_set (by omega) ?_
  rw [cE_fa hi]
  have hb' : b = 1 ∨ b = 2 ∨ b = 3 ∨ b = 4 ∨ b = 5 := by simp [cFy] at hb; omega
  rcases hb' with rfl | rfl | rfl | rfl | rfl <;> simp [cFa, up]
theorem cW_putH {ad : Nat → Nat} {cy : Nat → ClassId} {σ : Sg} {b : Nat} {v : Int} (hb : b = 2 ∨ b = 3 ∨ b = 4) : (cW ad cy σ).set 0 (ad 0, .inr (2, (cHl ad σ).set b (.int (iI v)))) = cW ad cy (up σ 0 b v) := by
  refine cW_set (by omega) ?_
  rw [cE_hl]
  rcases hb with rfl | rfl | rfl <;> simp [cHl, up]
theorem cW_putC {ad : Nat → Nat} {cy : Nat → ClassId} {σ : Sg} {c b : Nat} {v : Int} (hc : c < 3) (hb : b = 1 ∨ b = 2) : (cW ad cy σ).set (3 + c) (ad (3 + c), .inr (0, (cCr ad σ c).set b (.int (iI v)))) = cW ad cy (up σ (3 + c) b v) := by
  refine cW_set (by omega) ?_
  rw [cE_cr hc]
  rcases hb with rfl | rfl <;> simp [cCr, up]
theorem cW_putN {ad : Nat → Nat} {cy : Nat → ClassId} {σ : Sg} {c b : Nat} {v : Int} (hc : c < 3) : (cW ad cy σ).set (6 + c) (ad (6 + c), .inl (cy 0, 4, .inl (upd (fun q => iI (σ (6 + c) q)) b (iI v)))) = cW ad cy (up σ (6 + c) b v) := by
  refine cW_set (by omega) ?_
  rw [cE_nd hc]
  have e : upd (fun q => iI (σ (6 + c) q)) b (iI v) = fun q => iI (up σ (6 + c) b v (6 + c) q) := by
    funext q
    by_cases h : q = b <;> simp [upd, up, h]
  rw [e]
theorem vpL_up {σ : Sg} {r b : Nat} {v : Int} : vp_updL (fun q => iL (σ r q)) b (iL v) = fun q => iL (up σ r b v r q) := by
  funext q
  by_cases h : q = b <;> simp [vp_updL, up, h]
theorem cW_putRp {ad : Nat → Nat} {cy : Nat → ClassId} {σ : Sg} {i b : Nat} {v : Int} (hi : i < 8) : (cW ad cy σ).set (17 + i) (ad (17 + i), .inl (cy 1, 5, .inr (.inl (vp_updL (fun q => iL (σ (17 + i) q)) b (iL v))))) = cW ad cy (up σ (17 + i) b v) := by
  refine cW_set (by omega) ?_
  rw [cE_rp hi, vpL_up]
theorem cW_putIn {ad : Nat → Nat} {cy : Nat → ClassId} {σ : Sg} {i b : Nat} {v : Int} (hi : i < 8) : (cW ad cy σ).set (25 + i) (ad (25 + i), .inl (cy 1, 3, .inr (.inl (vp_updL (fun q => iL (σ (25 + i) q)) b (iL v))))) = cW ad cy (up σ (25 + i) b v) := by
  refine cW_set (by omega) ?_
  rw [cE_in hi, vpL_up]
section KC
variable {p : Program} {l : Launch} {e : Env} {R : Room} {s : State} {m : MethodId} {args : Array Value} {below : List Frame} {meth : Method} {c : Code} {H : Heap} {locs : List Loc} {cells slots : Nat} {Q : State → Prop} {cc : ByteArray} {pc : Nat} {ls : Array Slot} {rest : List Value}
variable {G : va_G} {ad : Nat → Nat} {cy : Nat → ClassId} {σ : Sg} {A : Nat → Prop} {H0 : Heap} {own : String} {index : Nat} {Ts : List Cond}
/-- a field of a farmer -/
theorem k_gF (hx : p.tables.exec = Jvm.exec) (hb : c.code = cc) (hts : ∀ w ∈ Ts, w.before args s = true) (hown : s.vm.findClass own = some m.cls) (hin : ∀ w ∈ wsX10, w ∈ Ts) (hK : va_K G vwCl (cT cy) s) (hP : va_P G vwCl (cW ad cy σ) H) {i : Nat} (hi : i < 8) (b : Nat) (hbN : b < 17) (hlink : (Cond.fieldLink own index RX1 (TX1 b).2.1 (TX1 b).2.2.1).before args s = true) (hd : decode cc pc = .ok (.getfield index, 3)) (hs : (TX1 b).1 = RX1) {v : Value} (hv : (cFa ad σ i)[b]? = some v) (kk : W p l e R s m args below meth c H locs cells slots Q (F0 m (pc + 3) ls (v :: rest))) : W p l e R s m args below meth c H locs cells slots Q (F0 m pc ls (.ref (ad (9 + i)) :: rest)) :=
  va_get (C := RX1) (T := TX1) (N := 17) (ci := 1) hx hb hts hin hown hK hP (9 + i) (cW_fa hi) rfl b hbN hlink (fun x h => by rw [hs] at h; exact h) hv hd kk
theorem k_pFi (hx : p.tables.exec = Jvm.exec) (hb : c.code = cc) (hts : ∀ w ∈ Ts, w.before args s = true) (hown : s.vm.findClass own = some m.cls) (hin : ∀ w ∈ wsX10, w ∈ Ts) (hI : cI ad) (hAc : ∀ j, j < 33 → A (ad j)) (hK : va_K G vwCl (cT cy) s) (hP : va_P G vwCl (cW ad cy σ) H) (hS : va_S A H0 H locs) {i : Nat} (hi : i < 8) (b : Nat) (hbx : cFx b = true) (hbN : b < 17) (hlink : (Cond.fieldLink own index RX1 (TX1 b).2.1 (TX1 b).2.2.1).before args s = true) (hd : decode cc pc = .ok (.putfield index, 3)) (hs : (TX1 b).1 = RX1) (hf : (TX1 b).2.2.2 = false) (ht : parseFieldDescriptor (TX1 b).2.2.1 = some .int) {v : Int} (kk : ∀ (H : Heap) (locs : List Loc), va_P G vwCl (cW ad cy (up σ (9 + i) b v)) H → va_S A H0 H locs → W p l e R s m args below meth c H locs cells slots Q (F0 m (pc + 3) ls rest)) : W p l e R s m args below meth c H locs cells slots Q (F0 m pc ls (.int (iI v) :: .ref (ad (9 + i)) :: rest)) :=
  va_put (C := RX1) (T := TX1) (N := 17) (ci := 1) (ty := .int) hx hb hts hin tyX1 tyX1_ok nmX1 hown hK hP (cD hI hAc cy σ) hS (9 + i) (cW_fa hi) rfl b hbN hlink (fun x h => by rw [hs] at h; exact h) hf ht rfl rfl (by simp [cFa]; omega) hd (fun H1 locs1 hP1 _ hS1 => kk H1 locs1 (by rw [← cW_putI hi hbx]; exact hP1) hS1)
theorem k_pFl (hx : p.tables.exec = Jvm.exec) (hb : c.code = cc) (hts : ∀ w ∈ Ts, w.before args s = true) (hown : s.vm.findClass own = some m.cls) (hin : ∀ w ∈ wsX10, w ∈ Ts) (hI : cI ad) (hAc : ∀ j, j < 33 → A (ad j)) (hK : va_K G vwCl (cT cy) s) (hP : va_P G vwCl (cW ad cy σ) H) (hS : va_S A H0 H locs) {i : Nat} (hi : i < 8) (b : Nat) (hbx : cFy b = true) (hbN : b < 17) (hlink : (Cond.fieldLink own index RX1 (TX1 b).2.1 (TX1 b).2.2.1).before args s = true) (hd : decode cc pc = .ok (.putfield index, 3)) (hs : (TX1 b).1 = RX1) (hf : (TX1 b).2.2.2 = false) (ht : parseFieldDescriptor (TX1 b).2.2.1 = some .long) {v : Int} (kk : ∀ (H : Heap) (locs : List Loc), va_P G vwCl (cW ad cy (up σ (9 + i) b v)) H → va_S A H0 H locs → W p l e R s m args below meth c H locs cells slots Q (F0 m (pc + 3) ls rest)) : W p l e R s m args below meth c H locs cells slots Q (F0 m pc ls (.long (iL v) :: .ref (ad (9 + i)) :: rest)) :=
  va_put (C := RX1) (T := TX1) (N := 17) (ci := 1) (ty := .long) hx hb hts hin tyX1 tyX1_ok nmX1 hown hK hP (cD hI hAc cy σ) hS (9 + i) (cW_fa hi) rfl b hbN hlink (fun x h => by rw [hs] at h; exact h) hf ht rfl rfl (by simp [cFa]; omega) hd (fun H1 locs1 hP1 _ hS1 => kk H1 locs1 (by rw [← cW_putL hi hbx]; exact hP1) hS1)
/-- a field of the lender -/
theorem k_gH (hx : p.tables.exec = Jvm.exec) (hb : c.code = cc) (hts : ∀ w ∈ Ts, w.before args s = true) (hown : s.vm.findClass own = some m.cls) (hin : ∀ w ∈ wsX20, w ∈ Ts) (hK : va_K G vwCl (cT cy) s) (hP : va_P G vwCl (cW ad cy σ) H) (b : Nat) (hbN : b < 5) (hlink : (Cond.fieldLink own index RX2 (TX2 b).2.1 (TX2 b).2.2.1).before args s = true) (hd : decode cc pc = .ok (.getfield index, 3)) (hs : (TX2 b).1 = RX2) {v : Value} (hv : (cHl ad σ)[b]? = some v) (kk : W p l e R s m args below meth c H locs cells slots Q (F0 m (pc + 3) ls (v :: rest))) : W p l e R s m args below meth c H locs cells slots Q (F0 m pc ls (.ref (ad 0) :: rest)) :=
  va_get (C := RX2) (T := TX2) (N := 5) (ci := 2) hx hb hts hin hown hK hP 0 cW_hl rfl b hbN hlink (fun x h => by rw [hs] at h; exact h) hv hd kk
theorem k_pH (hx : p.tables.exec = Jvm.exec) (hb : c.code = cc) (hts : ∀ w ∈ Ts, w.before args s = true) (hown : s.vm.findClass own = some m.cls) (hin : ∀ w ∈ wsX20, w ∈ Ts) (hI : cI ad) (hAc : ∀ j, j < 33 → A (ad j)) (hK : va_K G vwCl (cT cy) s) (hP : va_P G vwCl (cW ad cy σ) H) (hS : va_S A H0 H locs) (b : Nat) (hbx : b = 2 ∨ b = 3 ∨ b = 4) (hbN : b < 5) (hlink : (Cond.fieldLink own index RX2 (TX2 b).2.1 (TX2 b).2.2.1).before args s = true) (hd : decode cc pc = .ok (.putfield index, 3)) (hs : (TX2 b).1 = RX2) (hf : (TX2 b).2.2.2 = false) (ht : parseFieldDescriptor (TX2 b).2.2.1 = some .int) {v : Int} (kk : ∀ (H : Heap) (locs : List Loc), va_P G vwCl (cW ad cy (up σ 0 b v)) H → va_S A H0 H locs → W p l e R s m args below meth c H locs cells slots Q (F0 m (pc + 3) ls rest)) : W p l e R s m args below meth c H locs cells slots Q (F0 m pc ls (.int (iI v) :: .ref (ad 0) :: rest)) :=
  va_put (C := RX2) (T := TX2) (N := 5) (ci := 2) (ty := .int) hx hb hts hin tyX2 tyX2_ok nmX2 hown hK hP (cD hI hAc cy σ) hS 0 cW_hl rfl b hbN hlink (fun x h => by rw [hs] at h; exact h) hf ht rfl rfl (by simp [cHl]; omega) hd (fun H1 locs1 hP1 _ hS1 => kk H1 locs1 (by rw [← cW_putH hbx]; exact hP1) hS1)
/-- a field of a crop -/
theorem k_gC (hx : p.tables.exec = Jvm.exec) (hb : c.code = cc) (hts : ∀ w ∈ Ts, w.before args s = true) (hown : s.vm.findClass own = some m.cls) (hin : ∀ w ∈ wsX00, w ∈ Ts) (hK : va_K G vwCl (cT cy) s) (hP : va_P G vwCl (cW ad cy σ) H) {i : Nat} (hi : i < 3) (b : Nat) (hbN : b < 3) (hlink : (Cond.fieldLink own index RX0 (TX0 b).2.1 (TX0 b).2.2.1).before args s = true) (hd : decode cc pc = .ok (.getfield index, 3)) (hs : (TX0 b).1 = RX0) {v : Value} (hv : (cCr ad σ i)[b]? = some v) (kk : W p l e R s m args below meth c H locs cells slots Q (F0 m (pc + 3) ls (v :: rest))) : W p l e R s m args below meth c H locs cells slots Q (F0 m pc ls (.ref (ad (3 + i)) :: rest)) :=
  va_get (C := RX0) (T := TX0) (N := 3) (ci := 0) hx hb hts hin hown hK hP (3 + i) (cW_cr hi) rfl b hbN hlink (fun x h => by rw [hs] at h; exact h) hv hd kk
theorem k_pC (hx : p.tables.exec = Jvm.exec) (hb : c.code = cc) (hts : ∀ w ∈ Ts, w.before args s = true) (hown : s.vm.findClass own = some m.cls) (hin : ∀ w ∈ wsX00, w ∈ Ts) (hI : cI ad) (hAc : ∀ j, j < 33 → A (ad j)) (hK : va_K G vwCl (cT cy) s) (hP : va_P G vwCl (cW ad cy σ) H) (hS : va_S A H0 H locs) {i : Nat} (hi : i < 3) (b : Nat) (hbx : b = 1 ∨ b = 2) (hbN : b < 3) (hlink : (Cond.fieldLink own index RX0 (TX0 b).2.1 (TX0 b).2.2.1).before args s = true) (hd : decode cc pc = .ok (.putfield index, 3)) (hs : (TX0 b).1 = RX0) (hf : (TX0 b).2.2.2 = false) (ht : parseFieldDescriptor (TX0 b).2.2.1 = some .int) {v : Int} (kk : ∀ (H : Heap) (locs : List Loc), va_P G vwCl (cW ad cy (up σ (3 + i) b v)) H → va_S A H0 H locs → W p l e R s m args below meth c H locs cells slots Q (F0 m (pc + 3) ls rest)) : W p l e R s m args below meth c H locs cells slots Q (F0 m pc ls (.int (iI v) :: .ref (ad (3 + i)) :: rest)) :=
  va_put (C := RX0) (T := TX0) (N := 3) (ci := 0) (ty := .int) hx hb hts hin tyX0 tyX0_ok nmX0 hown hK hP (cD hI hAc cy σ) hS (3 + i) (cW_cr hi) rfl b hbN hlink (fun x h => by rw [hs] at h; exact h) hf ht rfl rfl (by simp [cCr]; omega) hd (fun H1 locs1 hP1 _ hS1 => kk H1 locs1 (by rw [← cW_putC hi hbx]; exact hP1) hS1)
/-- the arrays -/
theorem k_nld (hx : p.tables.exec = Jvm.exec) (hb : c.code = cc) (hK : va_K G vwCl (cT cy) s) (hP : va_P G vwCl (cW ad cy σ) H) {i : Nat} (hi : i < 3) {x : Int} (h0 : 0 ≤ x) (h1 : x < 4) (hd : decode cc pc = .ok (.iaload, 1)) (kk : W p l e R s m args below meth c H locs cells slots Q (F0 m (pc + 1) ls (.int (iI (σ (6 + i) x.toNat)) :: rest))) : W p l e R s m args below meth c H locs cells slots Q (F0 m pc ls (.int (iI x) :: .ref (ad (6 + i)) :: rest)) :=
  va_iald hx hb hK hP (6 + i) 0 (cW_nd hi) rfl (iI_in h0 h1 (by decide)) hd (by rw [iI_cl ⟨by omega, by omega⟩]; exact kk)
theorem k_nst (hx : p.tables.exec = Jvm.exec) (hb : c.code = cc) (hI : cI ad) (hAc : ∀ j, j < 33 → A (ad j)) (hK : va_K G vwCl (cT cy) s) (hP : va_P G vwCl (cW ad cy σ) H) (hS : va_S A H0 H locs) {i : Nat} (hi : i < 3) {x v : Int} (h0 : 0 ≤ x) (h1 : x < 4) (hd : decode cc pc = .ok (.iastore, 1)) (kk : ∀ (H : Heap) (locs : List Loc), va_P G vwCl (cW ad cy (up σ (6 + i) x.toNat v)) H → va_S A H0 H locs → W p l e R s m args below meth c H locs cells slots Q (F0 m (pc + 1) ls rest)) : W p l e R s m args below meth c H locs cells slots Q (F0 m pc ls (.int (iI v) :: .int (iI x) :: .ref (ad (6 + i)) :: rest)) :=
  va_iast hx hb hK hP (cD hI hAc cy σ) hS (6 + i) 0 (cW_nd hi) rfl (iI_in h0 h1 (by decide)) hd (fun H1 locs1 hP1 _ hS1 => kk H1 locs1 (by rw [← cW_putN hi, ← iI_cl (x := x) ⟨by omega, by omega⟩]; exact hP1) hS1)
theorem k_rld (hx : p.tables.exec = Jvm.exec) (hb : c.code = cc) (hK : va_K G vwCl (cT cy) s) (hP : va_P G vwCl (cW ad cy σ) H) {i : Nat} (hi : i < 8) {x : Int} (h0 : 0 ≤ x) (h1 : x < 5) (hd : decode cc pc = .ok (.laload, 1)) (kk : W p l e R s m args below meth c H locs cells slots Q (F0 m (pc + 1) ls (.long (iL (σ (17 + i) x.toNat)) :: rest))) : W p l e R s m args below meth c H locs cells slots Q (F0 m pc ls (.int (iI x) :: .ref (ad (17 + i)) :: rest)) :=
  va_lald hx hb hK hP (17 + i) 1 (cW_rp hi) rfl (iI_in h0 h1 (by decide)) hd (by rw [iI_cl ⟨by omega, by omega⟩]; exact kk)
theorem k_rst (hx : p.tables.exec = Jvm.exec) (hb : c.code = cc) (hI : cI ad) (hAc : ∀ j, j < 33 → A (ad j)) (hK : va_K G vwCl (cT cy) s) (hP : va_P G vwCl (cW ad cy σ) H) (hS : va_S A H0 H locs) {i : Nat} (hi : i < 8) {x v : Int} (h0 : 0 ≤ x) (h1 : x < 5) (hd : decode cc pc = .ok (.lastore, 1)) (kk : ∀ (H : Heap) (locs : List Loc), va_P G vwCl (cW ad cy (up σ (17 + i) x.toNat v)) H → va_S A H0 H locs → W p l e R s m args below meth c H locs cells slots Q (F0 m (pc + 1) ls rest)) : W p l e R s m args below meth c H locs cells slots Q (F0 m pc ls (.long (iL v) :: .int (iI x) :: .ref (ad (17 + i)) :: rest)) :=
  va_last hx hb hK hP (cD hI hAc cy σ) hS (17 + i) 1 (cW_rp hi) rfl (iI_in h0 h1 (by decide)) hd (fun H1 locs1 hP1 _ hS1 => kk H1 locs1 (by rw [← cW_putRp hi, ← iI_cl (x := x) ⟨by omega, by omega⟩]; exact hP1) hS1)
theorem k_tld (hx : p.tables.exec = Jvm.exec) (hb : c.code = cc) (hK : va_K G vwCl (cT cy) s) (hP : va_P G vwCl (cW ad cy σ) H) {i : Nat} (hi : i < 8) {x : Int} (h0 : 0 ≤ x) (h1 : x < 3) (hd : decode cc pc = .ok (.laload, 1)) (kk : W p l e R s m args below meth c H locs cells slots Q (F0 m (pc + 1) ls (.long (iL (σ (25 + i) x.toNat)) :: rest))) : W p l e R s m args below meth c H locs cells slots Q (F0 m pc ls (.int (iI x) :: .ref (ad (25 + i)) :: rest)) :=
  va_lald hx hb hK hP (25 + i) 1 (cW_in hi) rfl (iI_in h0 h1 (by decide)) hd (by rw [iI_cl ⟨by omega, by omega⟩]; exact kk)
theorem k_tst (hx : p.tables.exec = Jvm.exec) (hb : c.code = cc) (hI : cI ad) (hAc : ∀ j, j < 33 → A (ad j)) (hK : va_K G vwCl (cT cy) s) (hP : va_P G vwCl (cW ad cy σ) H) (hS : va_S A H0 H locs) {i : Nat} (hi : i < 8) {x v : Int} (h0 : 0 ≤ x) (h1 : x < 3) (hd : decode cc pc = .ok (.lastore, 1)) (kk : ∀ (H : Heap) (locs : List Loc), va_P G vwCl (cW ad cy (up σ (25 + i) x.toNat v)) H → va_S A H0 H locs → W p l e R s m args below meth c H locs cells slots Q (F0 m (pc + 1) ls rest)) : W p l e R s m args below meth c H locs cells slots Q (F0 m pc ls (.long (iL v) :: .int (iI x) :: .ref (ad (25 + i)) :: rest)) :=
  va_last hx hb hK hP (cD hI hAc cy σ) hS (25 + i) 1 (cW_in hi) rfl (iI_in h0 h1 (by decide)) hd (fun H1 locs1 hP1 _ hS1 => kk H1 locs1 (by rw [← cW_putIn hi, ← iI_cl (x := x) ⟨by omega, by omega⟩]; exact hP1) hS1)
theorem k_cld (hx : p.tables.exec = Jvm.exec) (hb : c.code = cc) (hK : va_K G vwCl (cT cy) s) (hP : va_P G vwCl (cW ad cy σ) H) {x : Int} (h0 : 0 ≤ x) (h1 : x < 3) (hd : decode cc pc = .ok (.aaload, 1)) (kk : W p l e R s m args below meth c H locs cells slots Q (F0 m (pc + 1) ls (.ref (ad (3 + x.toNat)) :: rest))) : W p l e R s m args below meth c H locs cells slots Q (F0 m pc ls (.int (iI x) :: .ref (ad 1) :: rest)) :=
  va_aldq hx hb hK hP 1 2 cW_cs rfl (iI_in h0 h1 (by decide)) hd (by rw [iI_cl ⟨by omega, by omega⟩]; exact kk)
theorem k_fld (hx : p.tables.exec = Jvm.exec) (hb : c.code = cc) (hK : va_K G vwCl (cT cy) s) (hP : va_P G vwCl (cW ad cy σ) H) {x : Int} (h0 : 0 ≤ x) (h1 : x < 8) (hd : decode cc pc = .ok (.aaload, 1)) (kk : W p l e R s m args below meth c H locs cells slots Q (F0 m (pc + 1) ls (.ref (ad (9 + x.toNat)) :: rest))) : W p l e R s m args below meth c H locs cells slots Q (F0 m pc ls (.int (iI x) :: .ref (ad 2) :: rest)) :=
  va_aldq hx hb hK hP 2 3 cW_fs rfl (iI_in h0 h1 (by decide)) hd (by rw [iI_cl ⟨by omega, by omega⟩]; exact kk)
/-- the same, the place a natural number -/
theorem k_nldN (hx : p.tables.exec = Jvm.exec) (hb : c.code = cc) (hK : va_K G vwCl (cT cy) s) (hP : va_P G vwCl (cW ad cy σ) H) {i : Nat} (hi : i < 3) {x : Nat} (h1 : x < 4) (hd : decode cc pc = .ok (.iaload, 1)) (kk : W p l e R s m args below meth c H locs cells slots Q (F0 m (pc + 1) ls (.int (iI (σ (6 + i) x)) :: rest))) : W p l e R s m args below meth c H locs cells slots Q (F0 m pc ls (.int (iI (x : Int)) :: .ref (ad (6 + i)) :: rest)) :=
  k_nld (x := (x : Int)) hx hb hK hP hi (Int.natCast_nonneg x) (by omega) hd kk
theorem k_nstN (hx : p.tables.exec = Jvm.exec) (hb : c.code = cc) (hI : cI ad) (hAc : ∀ j, j < 33 → A (ad j)) (hK : va_K G vwCl (cT cy) s) (hP : va_P G vwCl (cW ad cy σ) H) (hS : va_S A H0 H locs) {i : Nat} (hi : i < 3) {x : Nat} {v : Int} (h1 : x < 4) (hd : decode cc pc = .ok (.iastore, 1)) (kk : ∀ (H : Heap) (locs : List Loc), va_P G vwCl (cW ad cy (up σ (6 + i) x v)) H → va_S A H0 H locs → W p l e R s m args below meth c H locs cells slots Q (F0 m (pc + 1) ls rest)) : W p l e R s m args below meth c H locs cells slots Q (F0 m pc ls (.int (iI v) :: .int (iI (x : Int)) :: .ref (ad (6 + i)) :: rest)) :=
  k_nst (x := (x : Int)) hx hb hI hAc hK hP hS hi (Int.natCast_nonneg x) (by omega) hd kk
theorem k_rldN (hx : p.tables.exec = Jvm.exec) (hb : c.code = cc) (hK : va_K G vwCl (cT cy) s) (hP : va_P G vwCl (cW ad cy σ) H) {i : Nat} (hi : i < 8) {x : Nat} (h1 : x < 5) (hd : decode cc pc = .ok (.laload, 1)) (kk : W p l e R s m args below meth c H locs cells slots Q (F0 m (pc + 1) ls (.long (iL (σ (17 + i) x)) :: rest))) : W p l e R s m args below meth c H locs cells slots Q (F0 m pc ls (.int (iI (x : Int)) :: .ref (ad (17 + i)) :: rest)) :=
  k_rld (x := (x : Int)) hx hb hK hP hi (Int.natCast_nonneg x) (by omega) hd kk
theorem k_rstN (hx : p.tables.exec = Jvm.exec) (hb : c.code = cc) (hI : cI ad) (hAc : ∀ j, j < 33 → A (ad j)) (hK : va_K G vwCl (cT cy) s) (hP : va_P G vwCl (cW ad cy σ) H) (hS : va_S A H0 H locs) {i : Nat} (hi : i < 8) {x : Nat} {v : Int} (h1 : x < 5) (hd : decode cc pc = .ok (.lastore, 1)) (kk : ∀ (H : Heap) (locs : List Loc), va_P G vwCl (cW ad cy (up σ (17 + i) x v)) H → va_S A H0 H locs → W p l e R s m args below meth c H locs cells slots Q (F0 m (pc + 1) ls rest)) : W p l e R s m args below meth c H locs cells slots Q (F0 m pc ls (.long (iL v) :: .int (iI (x : Int)) :: .ref (ad (17 + i)) :: rest)) :=
  k_rst (x := (x : Int)) hx hb hI hAc hK hP hS hi (Int.natCast_nonneg x) (by omega) hd kk
theorem k_tldN (hx : p.tables.exec = Jvm.exec) (hb : c.code = cc) (hK : va_K G vwCl (cT cy) s) (hP : va_P G vwCl (cW ad cy σ) H) {i : Nat} (hi : i < 8) {x : Nat} (h1 : x < 3) (hd : decode cc pc = .ok (.laload, 1)) (kk : W p l e R s m args below meth c H locs cells slots Q (F0 m (pc + 1) ls (.long (iL (σ (25 + i) x)) :: rest))) : W p l e R s m args below meth c H locs cells slots Q (F0 m pc ls (.int (iI (x : Int)) :: .ref (ad (25 + i)) :: rest)) :=
  k_tld (x := (x : Int)) hx hb hK hP hi (Int.natCast_nonneg x) (by omega) hd kk
theorem k_tstN (hx : p.tables.exec = Jvm.exec) (hb : c.code = cc) (hI : cI ad) (hAc : ∀ j, j < 33 → A (ad j)) (hK : va_K G vwCl (cT cy) s) (hP : va_P G vwCl (cW ad cy σ) H) (hS : va_S A H0 H locs) {i : Nat} (hi : i < 8) {x : Nat} {v : Int} (h1 : x < 3) (hd : decode cc pc = .ok (.lastore, 1)) (kk : ∀ (H : Heap) (locs : List Loc), va_P G vwCl (cW ad cy (up σ (25 + i) x v)) H → va_S A H0 H locs → W p l e R s m args below meth c H locs cells slots Q (F0 m (pc + 1) ls rest)) : W p l e R s m args below meth c H locs cells slots Q (F0 m pc ls (.long (iL v) :: .int (iI (x : Int)) :: .ref (ad (25 + i)) :: rest)) :=
  k_tst (x := (x : Int)) hx hb hI hAc hK hP hS hi (Int.natCast_nonneg x) (by omega) hd kk
theorem k_cldN (hx : p.tables.exec = Jvm.exec) (hb : c.code = cc) (hK : va_K G vwCl (cT cy) s) (hP : va_P G vwCl (cW ad cy σ) H) {x : Nat} (h1 : x < 3) (hd : decode cc pc = .ok (.aaload, 1)) (kk : W p l e R s m args below meth c H locs cells slots Q (F0 m (pc + 1) ls (.ref (ad (3 + x)) :: rest))) : W p l e R s m args below meth c H locs cells slots Q (F0 m pc ls (.int (iI (x : Int)) :: .ref (ad 1) :: rest)) :=
  k_cld (x := (x : Int)) hx hb hK hP (Int.natCast_nonneg x) (by omega) hd kk
theorem k_fldN (hx : p.tables.exec = Jvm.exec) (hb : c.code = cc) (hK : va_K G vwCl (cT cy) s) (hP : va_P G vwCl (cW ad cy σ) H) {x : Nat} (h1 : x < 8) (hd : decode cc pc = .ok (.aaload, 1)) (kk : W p l e R s m args below meth c H locs cells slots Q (F0 m (pc + 1) ls (.ref (ad (9 + x)) :: rest))) : W p l e R s m args below meth c H locs cells slots Q (F0 m pc ls (.int (iI (x : Int)) :: .ref (ad 2) :: rest)) :=
  k_fld (x := (x : Int)) hx hb hK hP (Int.natCast_nonneg x) (by omega) hd kk
/-- contracts over the class's whole world -/
abbrev cPre (G : va_G) (ad : Nat → Nat) (cy : Nat → ClassId) (as : List Value) (σ : Sg) (sz : Nat) : Array Value → State → Prop := va_Pc as (fun U => U.heap.size = sz ∧ va_P G vwCl (cW ad cy σ) U.heap ∧ va_K G vwCl (cT cy) U)
abbrev cB (G : va_G) (ad : Nat → Nat) (cy : Nat → ClassId) : Sg → State → Prop := fun u t => va_P G vwCl (cW ad cy u) t.heap ∧ va_K G vwCl (cT cy) t
abbrev cMv (l : Launch) (y : MethodName) (ws : List Cond) (rm : Room) (G : va_G) (ad : Nat → Nat) (cy : Nat → ClassId) (as : List Value) (σ σ' : Sg) : Prop := ∀ sz, Met l y ws rm (cPre G ad cy as σ sz) (va_Qv (fun u : Sg => u = σ') (cB G ad cy) (cA ad sz)) 0 0 (cA ad sz)
abbrev cMi (l : Launch) (y : MethodName) (ws : List Cond) (rm : Room) (G : va_G) (ad : Nat → Nat) (cy : Nat → ClassId) (as : List Value) (σ : Sg) (r : Int) (σ' : Sg) : Prop := ∀ sz, Met l y ws rm (cPre G ad cy as σ sz) (va_Qi (fun (v : Int32) (u : Sg) => v = iI r ∧ u = σ') (cB G ad cy) (cA ad sz)) 0 0 (cA ad sz)
abbrev cMl (l : Launch) (y : MethodName) (ws : List Cond) (rm : Room) (G : va_G) (ad : Nat → Nat) (cy : Nat → ClassId) (as : List Value) (σ : Sg) (r : Int) (σ' : Sg) : Prop := ∀ sz, Met l y ws rm (cPre G ad cy as σ sz) (va_Ql (fun (v : Int64) (u : Sg) => v = iL r ∧ u = σ') (cB G ad cy) (cA ad sz)) 0 0 (cA ad sz)
theorem cPre_blind {as : List Value} {sz : Nat} : FrameBlind (cPre G ad cy as σ sz) := fun a U g mk q => ⟨q.1, q.2.1, q.2.2.1, va_K.moved (u := U) (U := U.calling g mk a) (Vm.Alike.refl U.vm) q.2.2.2⟩
theorem cA_to {sz : Nat} (hAc : ∀ j, j < 33 → A (ad j)) (hA : ∀ q, H0.size ≤ q → A q) (hS : va_S A H0 H locs) (hsz : sz = H.size) : ∀ q, cA ad sz q → A q := fun q h => by
  rcases h with ⟨j, hj, rfl⟩ | h
  · exact hAc j hj
  · exact hA q (by have := hS.1; omega)
/-- a cell of the world is a receiver -/
theorem cRecvF {i : Nat} (hK : va_K G vwCl (cT cy) s) (hP : va_P G vwCl (cW ad cy σ) H) (hi : i < 8) : ∃ cell : Cell, H[ad (9 + i)]? = some cell ∧ cell.vm.isStatics = false ∧ s.vm.findClass RX1 = some cell.cls := va_recv hK hP (ci := 1) (q := (RX1, TX1, 17)) rfl (cW_fa hi)
theorem cRecvC {i : Nat} (hK : va_K G vwCl (cT cy) s) (hP : va_P G vwCl (cW ad cy σ) H) (hi : i < 3) : ∃ cell : Cell, H[ad (3 + i)]? = some cell ∧ cell.vm.isStatics = false ∧ s.vm.findClass RX0 = some cell.cls := va_recv hK hP (ci := 0) (q := (RX0, TX0, 3)) rfl (cW_cr hi)
theorem cRecvH (hK : va_K G vwCl (cT cy) s) (hP : va_P G vwCl (cW ad cy σ) H) : ∃ cell : Cell, H[ad 0]? = some cell ∧ cell.vm.isStatics = false ∧ s.vm.findClass RX2 = some cell.cls := va_recv hK hP (ci := 2) (q := (RX2, TX2, 5)) rfl cW_hl
variable {y : MethodName} {bytes : ByteArray} {maxL nL n : Nat} {ret : Option FieldType} {ws : List Cond} {rm : Room} {C : String} {b : Addr} {As st0 : List Value} {σ' : Sg} {r : Int}
theorem k_cv (S : CallFix p m c cc nL s args Ts own) (hM : cMv l y ws rm G ad cy (.ref b :: As) σ σ') (cw : CallW R s args own C index y bytes maxL ret ws rm 0 0 n) (hr : ∃ cell : Cell, H[b]? = some cell ∧ cell.vm.isStatics = false ∧ s.vm.findClass C = some cell.cls) (hAc : ∀ j, j < 33 → A (ad j)) (hA : ∀ q, H0.size ≤ q → A q) (hK : va_K G vwCl (cT cy) s) (hP : va_P G vwCl (cW ad cy σ) H) (hS : va_S A H0 H locs) (hn : As.length = n) (hsize : ls.size = nL) (hst : st0 = As.reverse ++ .ref b :: rest) (hW : (rest.map fun v => v.category).sum ≤ 8) (hd : decode cc pc = .ok (.invokevirtual index, 3)) (hf : cells ≤ R.cells ∧ slots ≤ R.slots) (kk : ∀ (H : Heap) (locs : List Loc), va_P G vwCl (cW ad cy σ') H → va_S A H0 H locs → W p l e R s m args below meth c H locs cells slots Q (F0 m (pc + 3) ls rest)) : W p l e R s m args below meth c H locs cells slots Q (F0 m pc ls st0) :=
  va_callv (va_runV S (hM H.size) cw ⟨cPre_blind, hr, fun U hU hW => ⟨rfl, by rw [hU], by rw [hU]; exact hP, va_K.moved hW.alike hK⟩⟩ rfl hn hsize hst (by simpa [JFrame.monitorRoom] using hW) hd hf) hS (fun q _ h => cA_to hAc hA hS rfl q h) (cA_to hAc hA hS rfl) (fun u t H1 locs1 ht hvm hw hB _ _ hS1 => by
    subst hw
    subst ht
    exact kk _ _ hB.1 hS1)
theorem k_ci (S : CallFix p m c cc nL s args Ts own) (hM : cMi l y ws rm G ad cy (.ref b :: As) σ r σ') (cw : CallW R s args own C index y bytes maxL ret ws rm 0 0 n) (hr : ∃ cell : Cell, H[b]? = some cell ∧ cell.vm.isStatics = false ∧ s.vm.findClass C = some cell.cls) (hAc : ∀ j, j < 33 → A (ad j)) (hA : ∀ q, H0.size ≤ q → A q) (hK : va_K G vwCl (cT cy) s) (hP : va_P G vwCl (cW ad cy σ) H) (hS : va_S A H0 H locs) (hn : As.length = n) (hsize : ls.size = nL) (hst : st0 = As.reverse ++ .ref b :: rest) (hW : (rest.map fun v => v.category).sum ≤ 8) (hd : decode cc pc = .ok (.invokevirtual index, 3)) (hf : cells ≤ R.cells ∧ slots ≤ R.slots) (kk : ∀ (H : Heap) (locs : List Loc), va_P G vwCl (cW ad cy σ') H → va_S A H0 H locs → W p l e R s m args below meth c H locs cells slots Q (F0 m (pc + 3) ls (.int (iI r) :: rest))) : W p l e R s m args below meth c H locs cells slots Q (F0 m pc ls st0) :=
  va_calli (va_runV S (hM H.size) cw ⟨cPre_blind, hr, fun U hU hW => ⟨rfl, by rw [hU], by rw [hU]; exact hP, va_K.moved hW.alike hK⟩⟩ rfl hn hsize hst (by simpa [JFrame.monitorRoom] using hW) hd hf) hS (fun q _ h => cA_to hAc hA hS rfl q h) (cA_to hAc hA hS rfl) (fun r1 u t H1 locs1 ht hvm hw hB _ _ hS1 => by
    obtain ⟨rfl, rfl⟩ := hw
    subst ht
    exact kk _ _ hB.1 hS1)
theorem k_cl (S : CallFix p m c cc nL s args Ts own) (hM : cMl l y ws rm G ad cy (.ref b :: As) σ r σ') (cw : CallW R s args own C index y bytes maxL ret ws rm 0 0 n) (hr : ∃ cell : Cell, H[b]? = some cell ∧ cell.vm.isStatics = false ∧ s.vm.findClass C = some cell.cls) (hAc : ∀ j, j < 33 → A (ad j)) (hA : ∀ q, H0.size ≤ q → A q) (hK : va_K G vwCl (cT cy) s) (hP : va_P G vwCl (cW ad cy σ) H) (hS : va_S A H0 H locs) (hn : As.length = n) (hsize : ls.size = nL) (hst : st0 = As.reverse ++ .ref b :: rest) (hW : (rest.map fun v => v.category).sum ≤ 8) (hd : decode cc pc = .ok (.invokevirtual index, 3)) (hf : cells ≤ R.cells ∧ slots ≤ R.slots) (kk : ∀ (H : Heap) (locs : List Loc), va_P G vwCl (cW ad cy σ') H → va_S A H0 H locs → W p l e R s m args below meth c H locs cells slots Q (F0 m (pc + 3) ls (.long (iL r) :: rest))) : W p l e R s m args below meth c H locs cells slots Q (F0 m pc ls st0) :=
  va_calll (va_runV S (hM H.size) cw ⟨cPre_blind, hr, fun U hU hW => ⟨rfl, by rw [hU], by rw [hU]; exact hP, va_K.moved hW.alike hK⟩⟩ rfl hn hsize hst (by simpa [JFrame.monitorRoom] using hW) hd hf) hS (fun q _ h => cA_to hAc hA hS rfl q h) (cA_to hAc hA hS rfl) (fun r1 u t H1 locs1 ht hvm hw hB _ _ hS1 => by
    obtain ⟨rfl, rfl⟩ := hw
    subst ht
    exact kk _ _ hB.1 hS1)
end KC
end
section
/-! what the class's methods do to the state -/
def mn (x y : Int) : Int := if y < x then y else x
section KM
variable {p : Program} {l : Launch} {e : Env} {R : Room} {s : State} {m : MethodId} {args : Array Value} {below : List Frame} {meth : Method} {c : Code} {H : Heap} {locs : List Loc} {cells slots : Nat} {Q : State → Prop} {cc : ByteArray} {pc : Nat} {ls : Array Slot} {rest : List Value}
theorem k_mminl (hx : p.tables.exec = Jvm.exec) (hb : c.code = cc) (hml : c.maxLocals = ls.size) {own : String} {index : Nat} (hown : s.vm.findClass own = some m.cls) (hlink : (Cond.methodLink own index Lib.MathLoose.min_long.x).before args s = true) (hstat : (Cond.static Lib.MathLoose.min_long.x).before args s = true) (hini : (Cond.initialized "java/lang/Math").before args s = true) (hcode : (Cond.code Lib.MathLoose.min_long.x Lib.MathLoose.min_long.code 4 (some .long)).before args s = true)
    (hframes : 1 ≤ R.frames) (hlocals : (rest.map fun v => v.category).sum + 15 ≤ R.locals) (hc : cells ≤ R.cells) (hs : slots ≤ R.slots) {x y : Int} (hA : lB x) (hB : lB y) (hd : decode cc pc = .ok (.invokestatic index, 3))
    (kk : W p l e R s m args below meth c H locs cells slots Q (F0 m (pc + 3) ls (.long (iL (mn x y)) :: rest))) : W p l e R s m args below meth c H locs cells slots Q (F0 m pc ls (.long (iL y) :: .long (iL x) :: rest)) :=
  va_mmin_long hx hb hml hown hlink hstat hini hcode hframes hlocals hc hs hd (by
    have e : (if iL y < iL x then iL y else iL x) = iL (mn x y) := by
      by_cases h : y < x
      · rw [if_pos ((iL_lt hB hA).mpr h), mn, if_pos h]
      · rw [if_neg (fun h' => h ((iL_lt hB hA).mp h')), mn, if_neg h]
    rw [e]; exact kk)
theorem k_mmini (hx : p.tables.exec = Jvm.exec) (hb : c.code = cc) (hml : c.maxLocals = ls.size) {own : String} {index : Nat} (hown : s.vm.findClass own = some m.cls) (hlink : (Cond.methodLink own index Lib.Math.min.name).before args s = true) (hstat : (Cond.static Lib.Math.min.name).before args s = true) (hini : (Cond.initialized "java/lang/Math").before args s = true) (hcode : (Cond.code Lib.Math.min.name Lib.Math.min.code 2 (some .int)).before args s = true)
    (hframes : 1 ≤ R.frames) (hlocals : (rest.map fun v => v.category).sum + 13 ≤ R.locals) (hc : cells ≤ R.cells) (hs : slots ≤ R.slots) {x y : Int} (hA : nB x) (hB : nB y) (hd : decode cc pc = .ok (.invokestatic index, 3))
    (kk : W p l e R s m args below meth c H locs cells slots Q (F0 m (pc + 3) ls (.int (iI (mn x y)) :: rest))) : W p l e R s m args below meth c H locs cells slots Q (F0 m pc ls (.int (iI y) :: .int (iI x) :: rest)) :=
  va_mmin hx hb hml hown hlink hstat hini hcode hframes hlocals hc hs hd (by
    have e : (if iI y < iI x then iI y else iI x) = iI (mn x y) := by
      by_cases h : y < x
      · rw [if_pos ((iI_lt hB hA).mpr h), mn, if_pos h]
      · rw [if_neg (fun h' => h ((iI_lt hB hA).mp h')), mn, if_neg h]
    rw [e]; exact kk)
end KM
theorem mn_le1 (x y : Int) : mn x y ≤ x := by unfold mn; split <;> omega
theorem mn_le2 (x y : Int) : mn x y ≤ y := by unfold mn; split <;> omega
theorem mn_ge (x y a : Int) (h1 : a ≤ x) (h2 : a ≤ y) : a ≤ mn x y := by unfold mn; split <;> omega
/-- f over the first n -/
def itr (f : Sg → Nat → Sg) (σ : Sg) : Nat → Sg
  | 0 => σ
  | n + 1 => f (itr f σ n) n
def fNeed (σ : Sg) (c : Nat) : Nat → Int
  | 0 => 0
  | n + 1 => fNeed σ c n + σ (6 + c) n
/-- needUpTo(stage) -/
def fNeedUp (σ : Sg) (c : Nat) (st : Int) : Int := fNeed σ c (mn 4 (st + 1)).toNat
def fPlanted (σ : Sg) (i : Nat) : Int := if σ (9 + i) 12 = -1 then 0 else 1
def fCharge (σ : Sg) (i : Nat) (x : Int) : Sg := up (up σ (9 + i) 2 (σ (9 + i) 2 + x)) (9 + i) 4 (σ (9 + i) 4 + x)
def fInterest (σ : Sg) (i : Nat) : Sg := fCharge σ i (σ (9 + i) 2 * 2 / 100)
def fLower (σ : Sg) (i : Nat) (x : Int) (src : Nat) : Sg := up (up σ (9 + i) 2 (σ (9 + i) 2 - x)) (17 + i) src (σ (17 + i) src + x)
def fReceive (σ : Sg) (i : Nat) (x : Int) (src : Nat) : Sg := up (fLower σ i (mn x (σ (9 + i) 2)) src) (9 + i) 1 (σ (9 + i) 1 + (x - mn x (σ (9 + i) 2)))
def fRepay (σ : Sg) (i : Nat) (x : Int) : Sg := fLower (up σ (9 + i) 1 (σ (9 + i) 1 - x)) i x 0
def fHarvest0 (σ : Sg) (i c : Nat) : Sg := up (up σ (9 + i) 9 (σ (9 + i) 9 + σ (9 + i) 13 * σ (3 + c) 2 * σ (9 + i) 15 / 100)) (9 + i) 11 (σ (9 + i) 12)
def fHarvest (σ : Sg) (i c : Nat) : Sg := if σ (9 + i) 15 < σ (9 + i) 14 then fReceive (fHarvest0 σ i c) i (σ (9 + i) 13 * σ (3 + c) 2 * σ (3 + c) 1 * (σ (9 + i) 14 - σ (9 + i) 15) / 100) 1 else fHarvest0 σ i c
def fPledge (σ : Sg) (i : Nat) (u pr : Int) : Sg := fReceive (up (up σ (9 + i) 10 (σ (9 + i) 10 + u)) (9 + i) 3 (σ (9 + i) 3 + u * pr * 60 / 100)) i (u * pr * 60 / 100) 2
def fMove (σ : Sg) (i : Nat) : Sg := up (fCharge σ i (σ (9 + i) 3)) (9 + i) 3 0
def fFree (σ : Sg) (i : Nat) (u : Int) : Int := mn u (σ (9 + i) 9 - σ (9 + i) 10)
def fLowered (σ : Sg) (i : Nat) (u pr : Int) : Int := mn ((u - fFree σ i u) * pr) (σ (9 + i) 3)
def fSell0 (σ : Sg) (i : Nat) (u pr : Int) : Sg := fReceive (up (up (up σ (9 + i) 9 (σ (9 + i) 9 - u)) (9 + i) 10 (σ (9 + i) 10 - (u - fFree σ i u))) (9 + i) 3 (σ (9 + i) 3 - fLowered σ i u pr)) i (fFree σ i u * pr + (u - fFree σ i u) * pr - fLowered σ i u pr) 3
def fSell (σ : Sg) (i : Nat) (u pr : Int) : Sg := if σ (9 + i) 10 - (u - fFree σ i u) = 0 then fMove (fSell0 σ i u pr) i else fSell0 σ i u pr
/-- takeInstalment() -/
def fTakeV (σ : Sg) (i : Nat) : Int := if 3 - σ (9 + i) 8 < 0 ∨ 3 ≤ 3 - σ (9 + i) 8 then 0 else σ (25 + i) (3 - σ (9 + i) 8).toNat
def fTake (σ : Sg) (i : Nat) : Sg := if 3 - σ (9 + i) 8 < 0 ∨ 3 ≤ 3 - σ (9 + i) 8 then σ else up σ (9 + i) 8 (σ (9 + i) 8 - 1)
def fSettle0 (σ : Sg) (i : Nat) : Sg := up (fTake (up σ (9 + i) 5 0) i) (9 + i) 2 (σ (9 + i) 2 + fTakeV (up σ (9 + i) 5 0) i)
def fSettle (σ : Sg) (i : Nat) : Sg := fRepay (fSettle0 σ i) i (mn (σ (9 + i) 2 + fTakeV (up σ (9 + i) 5 0) i) (σ (9 + i) 1))
def fSum (σ : Sg) (i : Nat) : Nat → Int
  | 0 => 0
  | k + 1 => fSum σ i k + (if 3 - σ (9 + i) 8 ≤ k then σ (25 + i) k else 0)
def fMayRoll (σ : Sg) (i : Nat) : Int := if ¬ σ (9 + i) 12 = -1 ∧ σ (9 + i) 15 < 60 ∧ σ (9 + i) 8 = 0 then 1 else 0
def fParts (σ : Sg) (i : Nat) : Nat → Sg
  | 0 => σ
  | k + 1 => up (fParts σ i k) (25 + i) k (σ (9 + i) 2 / 3)
def fRoll (σ : Sg) (i : Nat) : Sg := up (up (up (fParts σ i 3) (25 + i) 2 (σ (9 + i) 2 - σ (9 + i) 2 / 3 * 2)) (9 + i) 8 3) (9 + i) 2 0
def fPayC (σ : Sg) (i j : Nat) : Int := mn (σ (9 + j) 2) (mn (σ (9 + i) 1) (20000 - σ (9 + i) 5))
/-- i pays for j -/
def fPay (σ : Sg) (i j : Nat) : Sg := fLower (up (up σ (9 + i) 1 (σ (9 + i) 1 - fPayC σ i j)) (9 + i) 5 (σ (9 + i) 5 + fPayC σ i j)) j (fPayC σ i j) 4
def fForget (σ : Sg) (i : Nat) : Sg := up (up (up (up (up σ (9 + i) 12 (-1)) (9 + i) 13 0) (9 + i) 14 0) (9 + i) 15 100) (9 + i) 16 0
theorem fPl_0 (σ : Sg) (i : Nat) : fPlanted σ i = 0 ↔ σ (9 + i) 12 = -1 := by unfold fPlanted; split <;> simp_all
theorem fPl_nB (σ : Sg) (i : Nat) : nB (fPlanted σ i) := by unfold fPlanted; split <;> decide
theorem mulB {a b A B : Int} (h1 : 0 ≤ a ∧ a ≤ A) (h2 : 0 ≤ b ∧ b ≤ B) : 0 ≤ a * b ∧ a * b ≤ A * B := ⟨Int.mul_nonneg h1.1 h2.1, Int.mul_le_mul h1.2 h2.2 h2.1 (by omega)⟩
theorem fTake_o {σ : Sg} {i r b : Nat} (h : b ≠ 8) : fTake σ i r b = σ r b := by
  unfold fTake
  split
  · rfl
  · exact up_b h
end
section
set_option maxHeartbeats 4000000 in
set_option maxRecDepth 100000 in
theorem c_hasPlanted (l : Launch) (G : va_G) (ad : Nat → Nat) (cy : Nat → ClassId) (hI : cI ad) (σ : Sg) (i : Nat) (hi : i < 8) (h12 : nB (σ (9 + i) 12)) : cMi l yX1_hasPlanted wsX1_hasPlanted ({ frames := 0, cells := 0, slots := 0, locals := 0 } : Room) G ad cy [.ref (ad (9 + i))] σ (fPlanted σ i) σ := by
  intro sz
  refine Met.ofW (cc := cX1_hasPlanted) (maxL := 1) (ret := (some .boolean)) (by decide) rfl ?_
  intro p e s m args below meth cd s₁ B hml hv
  obtain ⟨rfl, hsz, hP, hK⟩ := hv
  have hx := B.exec
  have hb := B.bytes
  have hr := B.returns
  have hts := atoms_spec (ws := wsX1_hasPlanted) B.pre
  have hown : s.vm.findClass RX1 = some m.cls := findClass_of_methodNamed B.named
  have hlocks := B.notSynchronized
  subst hsz
  have hS : va_S (cA ad s.heap.size) s.heap s.heap [] := va_S.rf
  have hA : ∀ q, s.heap.size ≤ q → cA ad s.heap.size q := fun _ h => Or.inr h
  have hAc : ∀ j, j < 33 → cA ad s.heap.size (ad j) := fun j h => Or.inl ⟨j, h, rfl⟩
  have hl := lv_entry ([.ref (ad (9 + i))]) (n := 1) (Nat.le_of_ble_eq_true rfl)
  rw [lg_entry_eq]
  generalize (lg_sl ([.ref (ad (9 + i))]) ++ List.replicate (1 - (lg_sl ([.ref (ad (9 + i))])).length) Slot.unset).toArray = ls at hl ⊢
  have hl : lv_has ls 1 [(0, .ref (ad (9 + i)))] := hl
  have hF1 : ∀ w ∈ wsX10, w ∈ wsX1_hasPlanted := by decide +kernel
  have lf50 := hts (.fieldLink RX1 50 "HarvestLender$Farmer" "plantedCrop" "I") (by decide +kernel)
  refine lv_aload_n hx hb dX1_hasPlanted_0 rfl (lv_at hl 0 rfl) ?_
  refine k_gF (i := i) (v := .int (iI (σ (9 + i) 12))) hx hb hts hown hF1 hK hP hi 12 (by decide) lf50 dX1_hasPlanted_1 rfl rfl ?_
  refine k_iconst hx hb dX1_hasPlanted_4 ?_
  refine k_icmp_eq (tgt := 12) hx hb dX1_hasPlanted_5 (by decide) h12 (by decide) (fun c_1 => ?_) (fun c_1 => ?_)
  · refine k_iconst hx hb dX1_hasPlanted_12 ?_
    have eR : 0 = fPlanted σ i := by first | rfl | (simp only [fPlanted, up_s]; done) | (simp only [fPlanted, up_s]; repeat' split) <;> first | rfl | (exfalso; omega) | omega
    exact W.zret hx hb hr (by decide) (fun t ht hW => ⟨⟨_, _, rfl, ⟨by rw [eR], rfl⟩, by rw [ht]; exact hP, va_K.moved hW.alike hK⟩, hS.F ht⟩) hS.2.2 dX1_hasPlanted_13
  · refine k_iconst hx hb dX1_hasPlanted_8 ?_
    refine lv_goto (tgt := 13) hx hb dX1_hasPlanted_9 (by decide) ?_
    have eR : 1 = fPlanted σ i := by first | rfl | (simp only [fPlanted, up_s]; done) | (simp only [fPlanted, up_s]; repeat' split) <;> first | rfl | (exfalso; omega) | omega
    exact W.zret hx hb hr (by decide) (fun t ht hW => ⟨⟨_, _, rfl, ⟨by rw [eR], rfl⟩, by rw [ht]; exact hP, va_K.moved hW.alike hK⟩, hS.F ht⟩) hS.2.2 dX1_hasPlanted_13
set_option maxHeartbeats 4000000 in
set_option maxRecDepth 100000 in
theorem c_freeGrain (l : Launch) (G : va_G) (ad : Nat → Nat) (cy : Nat → ClassId) (hI : cI ad) (σ : Sg) (i : Nat) (hi : i < 8) : cMi l yX1_freeGrain wsX1_freeGrain ({ frames := 0, cells := 0, slots := 0, locals := 0 } : Room) G ad cy [.ref (ad (9 + i))] σ (σ (9 + i) 9 - σ (9 + i) 10) σ := by
  intro sz
  refine Met.ofW (cc := cX1_freeGrain) (maxL := 1) (ret := (some .int)) (by decide) rfl ?_
  intro p e s m args below meth cd s₁ B hml hv
  obtain ⟨rfl, hsz, hP, hK⟩ := hv
  have hx := B.exec
  have hb := B.bytes
  have hr := B.returns
  have hts := atoms_spec (ws := wsX1_freeGrain) B.pre
  have hown : s.vm.findClass RX1 = some m.cls := findClass_of_methodNamed B.named
  have hlocks := B.notSynchronized
  subst hsz
  have hS : va_S (cA ad s.heap.size) s.heap s.heap [] := va_S.rf
  have hA : ∀ q, s.heap.size ≤ q → cA ad s.heap.size q := fun _ h => Or.inr h
  have hAc : ∀ j, j < 33 → cA ad s.heap.size (ad j) := fun j h => Or.inl ⟨j, h, rfl⟩
  have hl := lv_entry ([.ref (ad (9 + i))]) (n := 1) (Nat.le_of_ble_eq_true rfl)
  rw [lg_entry_eq]
  generalize (lg_sl ([.ref (ad (9 + i))]) ++ List.replicate (1 - (lg_sl ([.ref (ad (9 + i))])).length) Slot.unset).toArray = ls at hl ⊢
  have hl : lv_has ls 1 [(0, .ref (ad (9 + i)))] := hl
  have hF1 : ∀ w ∈ wsX10, w ∈ wsX1_freeGrain := by decide +kernel
  have lf41 := hts (.fieldLink RX1 41 "HarvestLender$Farmer" "grain" "I") (by decide +kernel)
  have lf44 := hts (.fieldLink RX1 44 "HarvestLender$Farmer" "pledgedGrain" "I") (by decide +kernel)
  refine lv_aload_n hx hb dX1_freeGrain_0 rfl (lv_at hl 0 rfl) ?_
  refine k_gF (i := i) (v := .int (iI (σ (9 + i) 9))) hx hb hts hown hF1 hK hP hi 9 (by decide) lf41 dX1_freeGrain_1 rfl rfl ?_
  refine lv_aload_n hx hb dX1_freeGrain_4 rfl (lv_at hl 0 rfl) ?_
  refine k_gF (i := i) (v := .int (iI (σ (9 + i) 10))) hx hb hts hown hF1 hK hP hi 10 (by decide) lf44 dX1_freeGrain_5 rfl rfl ?_
  refine k_isub hx hb dX1_freeGrain_8 ?_
  have eR : (σ (9 + i) 9) - (σ (9 + i) 10) = σ (9 + i) 9 - σ (9 + i) 10 := by first | rfl | (simp only [up_s]; done) | (simp only [up_s]; repeat' split) <;> first | rfl | (exfalso; omega) | omega
  exact W.iret hx hb hr (fun t ht hW => ⟨⟨_, _, rfl, ⟨by rw [eR], rfl⟩, by rw [ht]; exact hP, va_K.moved hW.alike hK⟩, hS.F ht⟩) hS.2.2 dX1_freeGrain_9
set_option maxHeartbeats 4000000 in
set_option maxRecDepth 100000 in
theorem c_charge (l : Launch) (G : va_G) (ad : Nat → Nat) (cy : Nat → ClassId) (hI : cI ad) (σ : Sg) (i : Nat) (hi : i < 8) (x : Int) : cMv l yX1_charge wsX1_charge ({ frames := 0, cells := 0, slots := 0, locals := 0 } : Room) G ad cy [.ref (ad (9 + i)), .long (iL x)] σ (fCharge σ i x) := by
  intro sz
  refine Met.ofW (cc := cX1_charge) (maxL := 3) (ret := none) (by decide) rfl ?_
  intro p e s m args below meth cd s₁ B hml hv
  obtain ⟨rfl, hsz, hP, hK⟩ := hv
  have hx := B.exec
  have hb := B.bytes
  have hr := B.returns
  have hts := atoms_spec (ws := wsX1_charge) B.pre
  have hown : s.vm.findClass RX1 = some m.cls := findClass_of_methodNamed B.named
  have hlocks := B.notSynchronized
  subst hsz
  have hS : va_S (cA ad s.heap.size) s.heap s.heap [] := va_S.rf
  have hA : ∀ q, s.heap.size ≤ q → cA ad s.heap.size q := fun _ h => Or.inr h
  have hAc : ∀ j, j < 33 → cA ad s.heap.size (ad j) := fun j h => Or.inl ⟨j, h, rfl⟩
  have hl := lv_entry ([.ref (ad (9 + i)), .long (iL x)]) (n := 3) (Nat.le_of_ble_eq_true rfl)
  rw [lg_entry_eq]
  generalize (lg_sl ([.ref (ad (9 + i)), .long (iL x)]) ++ List.replicate (3 - (lg_sl ([.ref (ad (9 + i)), .long (iL x)])).length) Slot.unset).toArray = ls at hl ⊢
  have hl : lv_has ls 3 [(0, .ref (ad (9 + i))), (1, .long (iL x))] := hl
  have hF1 : ∀ w ∈ wsX10, w ∈ wsX1_charge := by decide +kernel
  have lf19 := hts (.fieldLink RX1 19 "HarvestLender$Farmer" "debt" "J") (by decide +kernel)
  have lf25 := hts (.fieldLink RX1 25 "HarvestLender$Farmer" "charged" "J") (by decide +kernel)
  refine lv_aload_n hx hb dX1_charge_0 rfl (lv_at hl 0 rfl) ?_
  refine lv_dup hx hb dX1_charge_1 rfl ?_
  refine k_gF (i := i) (v := .long (iL (σ (9 + i) 2))) hx hb hts hown hF1 hK hP hi 2 (by decide) lf19 dX1_charge_2 rfl rfl ?_
  refine lv_lload_n hx hb dX1_charge_5 rfl (lv_at hl 1 rfl) ?_
  refine k_ladd hx hb dX1_charge_6 ?_
  refine k_pFl (i := i) (v := (σ (9 + i) 2) + x) hx hb hts hown hF1 hI hAc hK hP hS hi 2 rfl (by decide) lf19 dX1_charge_7 rfl rfl (by decide +kernel) (fun H locs hP hS => ?_)
  refine lv_aload_n hx hb dX1_charge_10 rfl (lv_at hl 0 rfl) ?_
  refine lv_dup hx hb dX1_charge_11 rfl ?_
  refine k_gF (i := i) (v := .long (iL (σ (9 + i) 4))) hx hb hts hown hF1 hK hP hi 4 (by decide) lf25 dX1_charge_12 rfl (congrArg (fun z => some (Value.long (iL z))) (by simp [up] : (up σ (9 + i) 2 ((σ (9 + i) 2) + x)) (9 + i) 4 = σ (9 + i) 4)) ?_
  refine lv_lload_n hx hb dX1_charge_15 rfl (lv_at hl 1 rfl) ?_
  refine k_ladd hx hb dX1_charge_16 ?_
  refine k_pFl (i := i) (v := (σ (9 + i) 4) + x) hx hb hts hown hF1 hI hAc hK hP hS hi 4 rfl (by decide) lf25 dX1_charge_17 rfl rfl (by decide +kernel) (fun H locs hP hS => ?_)
  have eF : up (up σ (9 + i) 2 ((σ (9 + i) 2) + x)) (9 + i) 4 ((σ (9 + i) 4) + x) = fCharge σ i x := by first | rfl | (simp only [fCharge, up_s]; done) | (simp only [fCharge, up_s]; repeat' split) <;> first | rfl | (exfalso; omega) | omega
  rw [eF] at hP
  exact W.vret hx hb hr (fun t ht hW => ⟨⟨_, rfl, rfl, by rw [ht]; exact hP, va_K.moved hW.alike hK⟩, hS.F ht⟩) hS.2.2 dX1_charge_20
set_option maxHeartbeats 4000000 in
set_option maxRecDepth 100000 in
theorem c_interest (l : Launch) (G : va_G) (ad : Nat → Nat) (cy : Nat → ClassId) (hI : cI ad) (σ : Sg) (i : Nat) (hi : i < 8) (h2 : 0 ≤ σ (9 + i) 2 ∧ σ (9 + i) 2 ≤ 2147483647) : cMv l yX1_chargeInterest wsX1_chargeInterest ({ frames := 1, cells := 0, slots := 0, locals := 22 } : Room) G ad cy [.ref (ad (9 + i))] σ (fInterest σ i) := by
  intro sz
  refine Met.ofW (cc := cX1_chargeInterest) (maxL := 1) (ret := none) (by decide) rfl ?_
  intro p e s m args below meth cd s₁ B hml hv
  obtain ⟨rfl, hsz, hP, hK⟩ := hv
  have hx := B.exec
  have hb := B.bytes
  have hr := B.returns
  have hts := atoms_spec (ws := wsX1_chargeInterest) B.pre
  have hown : s.vm.findClass RX1 = some m.cls := findClass_of_methodNamed B.named
  have hlocks := B.notSynchronized
  subst hsz
  have hS : va_S (cA ad s.heap.size) s.heap s.heap [] := va_S.rf
  have hA : ∀ q, s.heap.size ≤ q → cA ad s.heap.size q := fun _ h => Or.inr h
  have hAc : ∀ j, j < 33 → cA ad s.heap.size (ad j) := fun j h => Or.inl ⟨j, h, rfl⟩
  have hl := lv_entry ([.ref (ad (9 + i))]) (n := 1) (Nat.le_of_ble_eq_true rfl)
  rw [lg_entry_eq]
  generalize (lg_sl ([.ref (ad (9 + i))]) ++ List.replicate (1 - (lg_sl ([.ref (ad (9 + i))])).length) Slot.unset).toArray = ls at hl ⊢
  have hl : lv_has ls 1 [(0, .ref (ad (9 + i)))] := hl
  have hF1 : ∀ w ∈ wsX10, w ∈ wsX1_chargeInterest := by decide +kernel
  have lf19 := hts (.fieldLink RX1 19 "HarvestLender$Farmer" "debt" "J") (by decide +kernel)
  have lc65 := hts (.constantLong RX1 65 (2)) (by decide +kernel)
  have lc67 := hts (.constantLong RX1 67 (100)) (by decide +kernel)
  refine lv_aload_n hx hb dX1_chargeInterest_0 rfl (lv_at hl 0 rfl) ?_
  refine lv_aload_n hx hb dX1_chargeInterest_1 rfl (lv_at hl 0 rfl) ?_
  refine k_gF (i := i) (v := .long (iL (σ (9 + i) 2))) hx hb hts hown hF1 hK hP hi 2 (by decide) lf19 dX1_chargeInterest_2 rfl rfl ?_
  refine k_ldc2 hx hb (2) hown lc65 (by decide) dX1_chargeInterest_5 ?_
  refine k_lmul hx hb dX1_chargeInterest_8 ?_
  refine k_ldc2 hx hb (100) hown lc67 (by decide) dX1_chargeInterest_9 ?_
  refine k_ldiv hx hb dX1_chargeInterest_12 (by omega) (by omega) (by decide) (by decide) ?_
  refine k_cv (As := [.long (iL (((σ (9 + i) 2) * 2) / 100))]) (rest := []) ⟨hx, hb, hml, hown, hts⟩ (c_charge l G ad cy hI σ i hi (((σ (9 + i) 2) * 2) / 100)) (cwV 1 hts gX1_chargeInterest_X1_charge rfl rfl rfl (by decide +kernel) ⟨Nat.le_of_ble_eq_true rfl, Nat.le_of_ble_eq_true rfl⟩) (cRecvF hK hP hi) hAc hA hK hP hS rfl hl.1 rfl (Nat.le_of_ble_eq_true rfl) dX1_chargeInterest_13 ⟨Nat.zero_le _, Nat.zero_le _⟩ (fun H locs hP hS => ?_)
  have eF : fCharge σ i (((σ (9 + i) 2) * 2) / 100) = fInterest σ i := by first | rfl | (simp only [fInterest, up_s]; done) | (simp only [fInterest, up_s]; repeat' split) <;> first | rfl | (exfalso; omega) | omega
  rw [eF] at hP
  exact W.vret hx hb hr (fun t ht hW => ⟨⟨_, rfl, rfl, by rw [ht]; exact hP, va_K.moved hW.alike hK⟩, hS.F ht⟩) hS.2.2 dX1_chargeInterest_16
set_option maxHeartbeats 4000000 in
set_option maxRecDepth 100000 in
theorem c_lower (l : Launch) (G : va_G) (ad : Nat → Nat) (cy : Nat → ClassId) (hI : cI ad) (σ : Sg) (i : Nat) (hi : i < 8) (x : Int) (src : Nat) (hsrc : src < 5) : cMv l yX1_lowerDebt wsX1_lowerDebt ({ frames := 0, cells := 0, slots := 0, locals := 0 } : Room) G ad cy [.ref (ad (9 + i)), .long (iL x), .int (iI (src : Int))] σ (fLower σ i x src) := by
  intro sz
  refine Met.ofW (cc := cX1_lowerDebt) (maxL := 4) (ret := none) (by decide) rfl ?_
  intro p e s m args below meth cd s₁ B hml hv
  obtain ⟨rfl, hsz, hP, hK⟩ := hv
  have hx := B.exec
  have hb := B.bytes
  have hr := B.returns
  have hts := atoms_spec (ws := wsX1_lowerDebt) B.pre
  have hown : s.vm.findClass RX1 = some m.cls := findClass_of_methodNamed B.named
  have hlocks := B.notSynchronized
  subst hsz
  have hS : va_S (cA ad s.heap.size) s.heap s.heap [] := va_S.rf
  have hA : ∀ q, s.heap.size ≤ q → cA ad s.heap.size q := fun _ h => Or.inr h
  have hAc : ∀ j, j < 33 → cA ad s.heap.size (ad j) := fun j h => Or.inl ⟨j, h, rfl⟩
  have hl := lv_entry ([.ref (ad (9 + i)), .long (iL x), .int (iI (src : Int))]) (n := 4) (Nat.le_of_ble_eq_true rfl)
  rw [lg_entry_eq]
  generalize (lg_sl ([.ref (ad (9 + i)), .long (iL x), .int (iI (src : Int))]) ++ List.replicate (4 - (lg_sl ([.ref (ad (9 + i)), .long (iL x), .int (iI (src : Int))])).length) Slot.unset).toArray = ls at hl ⊢
  have hl : lv_has ls 4 [(0, .ref (ad (9 + i))), (1, .long (iL x)), (3, .int (iI (src : Int)))] := hl
  have hF1 : ∀ w ∈ wsX10, w ∈ wsX1_lowerDebt := by decide +kernel
  have lf19 := hts (.fieldLink RX1 19 "HarvestLender$Farmer" "debt" "J") (by decide +kernel)
  have lf31 := hts (.fieldLink RX1 31 "HarvestLender$Farmer" "repaid" "[J") (by decide +kernel)
  refine lv_aload_n hx hb dX1_lowerDebt_0 rfl (lv_at hl 0 rfl) ?_
  refine lv_dup hx hb dX1_lowerDebt_1 rfl ?_
  refine k_gF (i := i) (v := .long (iL (σ (9 + i) 2))) hx hb hts hown hF1 hK hP hi 2 (by decide) lf19 dX1_lowerDebt_2 rfl rfl ?_
  refine lv_lload_n hx hb dX1_lowerDebt_5 rfl (lv_at hl 1 rfl) ?_
  refine k_lsub hx hb dX1_lowerDebt_6 ?_
  refine k_pFl (i := i) (v := (σ (9 + i) 2) - x) hx hb hts hown hF1 hI hAc hK hP hS hi 2 rfl (by decide) lf19 dX1_lowerDebt_7 rfl rfl (by decide +kernel) (fun H locs hP hS => ?_)
  refine lv_iload_n hx hb dX1_lowerDebt_10 rfl (lv_at hl 2 rfl) ?_
  refine k_if_lt (tgt := 29) hx hb dX1_lowerDebt_11 (by decide) (by omega) (fun c_1 => absurd c_1 (by omega)) (fun c_1 => ?_)
  refine lv_iload_n hx hb dX1_lowerDebt_14 rfl (lv_at hl 2 rfl) ?_
  refine k_iconst hx hb dX1_lowerDebt_15 ?_
  refine k_icmp_ge (tgt := 29) hx hb dX1_lowerDebt_16 (by decide) (by omega) (by decide) (fun c_2 => absurd c_2 (by omega)) (fun c_2 => ?_)
  refine lv_aload_n hx hb dX1_lowerDebt_19 rfl (lv_at hl 0 rfl) ?_
  refine k_gF (i := i) (v := .ref (ad (17 + i))) hx hb hts hown hF1 hK hP hi 6 (by decide) lf31 dX1_lowerDebt_20 rfl rfl ?_
  refine lv_iload_n hx hb dX1_lowerDebt_23 rfl (lv_at hl 2 rfl) ?_
  refine lv_dup2_11 hx hb dX1_lowerDebt_24 rfl rfl ?_
  refine k_rldN (i := i) (x := src) hx hb hK hP hi (by omega) dX1_lowerDebt_25 ?_
  rw [show (up σ (9 + i) 2 ((σ (9 + i) 2) - x)) (17 + i) src = σ (17 + i) src by simp [up]]
  refine lv_lload_n hx hb dX1_lowerDebt_26 rfl (lv_at hl 1 rfl) ?_
  refine k_ladd hx hb dX1_lowerDebt_27 ?_
  refine k_rstN (i := i) (x := src) (v := (σ (17 + i) src) + x) hx hb hI hAc hK hP hS hi (by omega) dX1_lowerDebt_28 (fun H locs hP hS => ?_)
  have eF : up (up σ (9 + i) 2 ((σ (9 + i) 2) - x)) (17 + i) src ((σ (17 + i) src) + x) = fLower σ i x src := by first | rfl | (simp only [fLower, up_s]; done) | (simp only [fLower, up_s]; repeat' split) <;> first | rfl | (exfalso; omega) | omega
  rw [eF] at hP
  exact W.vret hx hb hr (fun t ht hW => ⟨⟨_, rfl, rfl, by rw [ht]; exact hP, va_K.moved hW.alike hK⟩, hS.F ht⟩) hS.2.2 dX1_lowerDebt_29
set_option maxHeartbeats 4000000 in
set_option maxRecDepth 100000 in
theorem c_receive (l : Launch) (G : va_G) (ad : Nat → Nat) (cy : Nat → ClassId) (hI : cI ad) (σ : Sg) (i : Nat) (hi : i < 8) (x : Int) (src : Nat) (hsrc : src < 5) (hxb : lB x) (h2 : lB (σ (9 + i) 2)) : cMv l yX1_receive wsX1_receive ({ frames := 1, cells := 0, slots := 0, locals := 23 } : Room) G ad cy [.ref (ad (9 + i)), .long (iL x), .int (iI (src : Int))] σ (fReceive σ i x src) := by
  intro sz
  refine Met.ofW (cc := cX1_receive) (maxL := 6) (ret := none) (by decide) rfl ?_
  intro p e s m args below meth cd s₁ B hml hv
  obtain ⟨rfl, hsz, hP, hK⟩ := hv
  have hx := B.exec
  have hb := B.bytes
  have hr := B.returns
  have hts := atoms_spec (ws := wsX1_receive) B.pre
  have hown : s.vm.findClass RX1 = some m.cls := findClass_of_methodNamed B.named
  have hlocks := B.notSynchronized
  subst hsz
  have hS : va_S (cA ad s.heap.size) s.heap s.heap [] := va_S.rf
  have hA : ∀ q, s.heap.size ≤ q → cA ad s.heap.size q := fun _ h => Or.inr h
  have hAc : ∀ j, j < 33 → cA ad s.heap.size (ad j) := fun j h => Or.inl ⟨j, h, rfl⟩
  have hl := lv_entry ([.ref (ad (9 + i)), .long (iL x), .int (iI (src : Int))]) (n := 6) (Nat.le_of_ble_eq_true rfl)
  rw [lg_entry_eq]
  generalize (lg_sl ([.ref (ad (9 + i)), .long (iL x), .int (iI (src : Int))]) ++ List.replicate (6 - (lg_sl ([.ref (ad (9 + i)), .long (iL x), .int (iI (src : Int))])).length) Slot.unset).toArray = ls at hl ⊢
  have hl : lv_has ls 6 [(0, .ref (ad (9 + i))), (1, .long (iL x)), (3, .int (iI (src : Int)))] := hl
  have hF1 : ∀ w ∈ wsX10, w ∈ wsX1_receive := by decide +kernel
  have lf19 := hts (.fieldLink RX1 19 "HarvestLender$Farmer" "debt" "J") (by decide +kernel)
  have lm73 := hts (.methodLink RX1 73 Lib.MathLoose.min_long.x) (by decide +kernel)
  have lms73 := hts (.static Lib.MathLoose.min_long.x) (by decide +kernel)
  have lmi := hts (.initialized "java/lang/Math") (by decide +kernel)
  have lmc73 := hts (.code Lib.MathLoose.min_long.x Lib.MathLoose.min_long.code 4 (some .long)) (by decide +kernel)
  have lf15 := hts (.fieldLink RX1 15 "HarvestLender$Farmer" "purse" "J") (by decide +kernel)
  refine lv_lload_n hx hb dX1_receive_0 rfl (lv_at hl 1 rfl) ?_
  refine lv_aload_n hx hb dX1_receive_1 rfl (lv_at hl 0 rfl) ?_
  refine k_gF (i := i) (v := .long (iL (σ (9 + i) 2))) hx hb hts hown hF1 hK hP hi 2 (by decide) lf19 dX1_receive_2 rfl rfl ?_
  refine k_mminl hx hb (hml.trans hl.1.symm) hown lm73 lms73 lmi lmc73 (Nat.le_of_ble_eq_true rfl) (Nat.le_of_ble_eq_true rfl) (Nat.zero_le _) (Nat.zero_le _) (by omega) (by omega) dX1_receive_5 ?_
  refine lv_lstore (lv' := [(4, .long (iL (mn x (σ (9 + i) 2)))), (0, .ref (ad (9 + i))), (1, .long (iL x)), (3, .int (iI (src : Int)))]) hx hb dX1_receive_8 hl (by decide) rfl (fun ls hl => ?_)
  refine lv_aload_n hx hb dX1_receive_10 rfl (lv_at hl 1 rfl) ?_
  refine lv_lload hx hb dX1_receive_11 (lv_at hl 0 rfl) ?_
  refine lv_iload_n hx hb dX1_receive_13 rfl (lv_at hl 3 rfl) ?_
  refine k_cv (As := [.long (iL (mn x (σ (9 + i) 2))), .int (iI (src : Int))]) (rest := []) ⟨hx, hb, hml, hown, hts⟩ (c_lower l G ad cy hI σ i hi (mn x (σ (9 + i) 2)) src hsrc) (cwV 2 hts gX1_receive_X1_lowerDebt rfl rfl rfl (by decide +kernel) ⟨Nat.le_of_ble_eq_true rfl, Nat.le_of_ble_eq_true rfl⟩) (cRecvF hK hP hi) hAc hA hK hP hS rfl hl.1 rfl (Nat.le_of_ble_eq_true rfl) dX1_receive_14 ⟨Nat.zero_le _, Nat.zero_le _⟩ (fun H locs hP hS => ?_)
  refine lv_aload_n hx hb dX1_receive_17 rfl (lv_at hl 1 rfl) ?_
  refine lv_dup hx hb dX1_receive_18 rfl ?_
  refine k_gF (i := i) (v := .long (iL (σ (9 + i) 1))) hx hb hts hown hF1 hK hP hi 1 (by decide) lf15 dX1_receive_19 rfl (congrArg (fun z => some (Value.long (iL z))) (by simp [fLower, up] : (fLower σ i (mn x (σ (9 + i) 2)) src) (9 + i) 1 = σ (9 + i) 1)) ?_
  refine lv_lload_n hx hb dX1_receive_22 rfl (lv_at hl 2 rfl) ?_
  refine lv_lload hx hb dX1_receive_23 (lv_at hl 0 rfl) ?_
  refine k_lsub hx hb dX1_receive_25 ?_
  refine k_ladd hx hb dX1_receive_26 ?_
  refine k_pFl (i := i) (v := (σ (9 + i) 1) + (x - (mn x (σ (9 + i) 2)))) hx hb hts hown hF1 hI hAc hK hP hS hi 1 rfl (by decide) lf15 dX1_receive_27 rfl rfl (by decide +kernel) (fun H locs hP hS => ?_)
  have eF : up (fLower σ i (mn x (σ (9 + i) 2)) src) (9 + i) 1 ((σ (9 + i) 1) + (x - (mn x (σ (9 + i) 2)))) = fReceive σ i x src := by first | rfl | (simp only [fReceive, fLower, up_s]; done) | (simp only [fReceive, fLower, up_s]; repeat' split) <;> first | rfl | (exfalso; omega) | omega
  rw [eF] at hP
  exact W.vret hx hb hr (fun t ht hW => ⟨⟨_, rfl, rfl, by rw [ht]; exact hP, va_K.moved hW.alike hK⟩, hS.F ht⟩) hS.2.2 dX1_receive_30
set_option maxHeartbeats 4000000 in
set_option maxRecDepth 100000 in
theorem c_repay (l : Launch) (G : va_G) (ad : Nat → Nat) (cy : Nat → ClassId) (hI : cI ad) (σ : Sg) (i : Nat) (hi : i < 8) (x : Int) : cMv l yX1_repayFromPurse wsX1_repayFromPurse ({ frames := 1, cells := 0, slots := 0, locals := 23 } : Room) G ad cy [.ref (ad (9 + i)), .long (iL x)] σ (fRepay σ i x) := by
  intro sz
  refine Met.ofW (cc := cX1_repayFromPurse) (maxL := 3) (ret := none) (by decide) rfl ?_
  intro p e s m args below meth cd s₁ B hml hv
  obtain ⟨rfl, hsz, hP, hK⟩ := hv
  have hx := B.exec
  have hb := B.bytes
  have hr := B.returns
  have hts := atoms_spec (ws := wsX1_repayFromPurse) B.pre
  have hown : s.vm.findClass RX1 = some m.cls := findClass_of_methodNamed B.named
  have hlocks := B.notSynchronized
  subst hsz
  have hS : va_S (cA ad s.heap.size) s.heap s.heap [] := va_S.rf
  have hA : ∀ q, s.heap.size ≤ q → cA ad s.heap.size q := fun _ h => Or.inr h
  have hAc : ∀ j, j < 33 → cA ad s.heap.size (ad j) := fun j h => Or.inl ⟨j, h, rfl⟩
  have hl := lv_entry ([.ref (ad (9 + i)), .long (iL x)]) (n := 3) (Nat.le_of_ble_eq_true rfl)
  rw [lg_entry_eq]
  generalize (lg_sl ([.ref (ad (9 + i)), .long (iL x)]) ++ List.replicate (3 - (lg_sl ([.ref (ad (9 + i)), .long (iL x)])).length) Slot.unset).toArray = ls at hl ⊢
  have hl : lv_has ls 3 [(0, .ref (ad (9 + i))), (1, .long (iL x))] := hl
  have hF1 : ∀ w ∈ wsX10, w ∈ wsX1_repayFromPurse := by decide +kernel
  have lf15 := hts (.fieldLink RX1 15 "HarvestLender$Farmer" "purse" "J") (by decide +kernel)
  refine lv_aload_n hx hb dX1_repayFromPurse_0 rfl (lv_at hl 0 rfl) ?_
  refine lv_dup hx hb dX1_repayFromPurse_1 rfl ?_
  refine k_gF (i := i) (v := .long (iL (σ (9 + i) 1))) hx hb hts hown hF1 hK hP hi 1 (by decide) lf15 dX1_repayFromPurse_2 rfl rfl ?_
  refine lv_lload_n hx hb dX1_repayFromPurse_5 rfl (lv_at hl 1 rfl) ?_
  refine k_lsub hx hb dX1_repayFromPurse_6 ?_
  refine k_pFl (i := i) (v := (σ (9 + i) 1) - x) hx hb hts hown hF1 hI hAc hK hP hS hi 1 rfl (by decide) lf15 dX1_repayFromPurse_7 rfl rfl (by decide +kernel) (fun H locs hP hS => ?_)
  refine lv_aload_n hx hb dX1_repayFromPurse_10 rfl (lv_at hl 0 rfl) ?_
  refine lv_lload_n hx hb dX1_repayFromPurse_11 rfl (lv_at hl 1 rfl) ?_
  refine k_iconst hx hb dX1_repayFromPurse_12 ?_
  refine k_cv (As := [.long (iL x), .int (iI 0)]) (rest := []) ⟨hx, hb, hml, hown, hts⟩ (c_lower l G ad cy hI (up σ (9 + i) 1 ((σ (9 + i) 1) - x)) i hi x 0 (by omega)) (cwV 2 hts gX1_repayFromPurse_X1_lowerDebt rfl rfl rfl (by decide +kernel) ⟨Nat.le_of_ble_eq_true rfl, Nat.le_of_ble_eq_true rfl⟩) (cRecvF hK hP hi) hAc hA hK hP hS rfl hl.1 rfl (Nat.le_of_ble_eq_true rfl) dX1_repayFromPurse_13 ⟨Nat.zero_le _, Nat.zero_le _⟩ (fun H locs hP hS => ?_)
  have eF : fLower (up σ (9 + i) 1 ((σ (9 + i) 1) - x)) i x 0 = fRepay σ i x := by first | rfl | (simp only [fRepay, up_s]; done) | (simp only [fRepay, up_s]; repeat' split) <;> first | rfl | (exfalso; omega) | omega
  rw [eF] at hP
  exact W.vret hx hb hr (fun t ht hW => ⟨⟨_, rfl, rfl, by rw [ht]; exact hP, va_K.moved hW.alike hK⟩, hS.F ht⟩) hS.2.2 dX1_repayFromPurse_16
set_option maxHeartbeats 4000000 in
set_option maxRecDepth 100000 in
theorem c_move (l : Launch) (G : va_G) (ad : Nat → Nat) (cy : Nat → ClassId) (hI : cI ad) (σ : Sg) (i : Nat) (hi : i < 8) : cMv l yX1_moveRestOfPledgeDebt wsX1_moveRestOfPledgeDebt ({ frames := 1, cells := 0, slots := 0, locals := 22 } : Room) G ad cy [.ref (ad (9 + i))] σ (fMove σ i) := by
  intro sz
  refine Met.ofW (cc := cX1_moveRestOfPledgeDebt) (maxL := 1) (ret := none) (by decide) rfl ?_
  intro p e s m args below meth cd s₁ B hml hv
  obtain ⟨rfl, hsz, hP, hK⟩ := hv
  have hx := B.exec
  have hb := B.bytes
  have hr := B.returns
  have hts := atoms_spec (ws := wsX1_moveRestOfPledgeDebt) B.pre
  have hown : s.vm.findClass RX1 = some m.cls := findClass_of_methodNamed B.named
  have hlocks := B.notSynchronized
  subst hsz
  have hS : va_S (cA ad s.heap.size) s.heap s.heap [] := va_S.rf
  have hA : ∀ q, s.heap.size ≤ q → cA ad s.heap.size q := fun _ h => Or.inr h
  have hAc : ∀ j, j < 33 → cA ad s.heap.size (ad j) := fun j h => Or.inl ⟨j, h, rfl⟩
  have hl := lv_entry ([.ref (ad (9 + i))]) (n := 1) (Nat.le_of_ble_eq_true rfl)
  rw [lg_entry_eq]
  generalize (lg_sl ([.ref (ad (9 + i))]) ++ List.replicate (1 - (lg_sl ([.ref (ad (9 + i))])).length) Slot.unset).toArray = ls at hl ⊢
  have hl : lv_has ls 1 [(0, .ref (ad (9 + i)))] := hl
  have hF1 : ∀ w ∈ wsX10, w ∈ wsX1_moveRestOfPledgeDebt := by decide +kernel
  have lf22 := hts (.fieldLink RX1 22 "HarvestLender$Farmer" "pledgeDebt" "J") (by decide +kernel)
  refine lv_aload_n hx hb dX1_moveRestOfPledgeDebt_0 rfl (lv_at hl 0 rfl) ?_
  refine lv_aload_n hx hb dX1_moveRestOfPledgeDebt_1 rfl (lv_at hl 0 rfl) ?_
  refine k_gF (i := i) (v := .long (iL (σ (9 + i) 3))) hx hb hts hown hF1 hK hP hi 3 (by decide) lf22 dX1_moveRestOfPledgeDebt_2 rfl rfl ?_
  refine k_cv (As := [.long (iL (σ (9 + i) 3))]) (rest := []) ⟨hx, hb, hml, hown, hts⟩ (c_charge l G ad cy hI σ i hi (σ (9 + i) 3)) (cwV 1 hts gX1_moveRestOfPledgeDebt_X1_charge rfl rfl rfl (by decide +kernel) ⟨Nat.le_of_ble_eq_true rfl, Nat.le_of_ble_eq_true rfl⟩) (cRecvF hK hP hi) hAc hA hK hP hS rfl hl.1 rfl (Nat.le_of_ble_eq_true rfl) dX1_moveRestOfPledgeDebt_5 ⟨Nat.zero_le _, Nat.zero_le _⟩ (fun H locs hP hS => ?_)
  refine lv_aload_n hx hb dX1_moveRestOfPledgeDebt_8 rfl (lv_at hl 0 rfl) ?_
  refine k_lconst (v := 0) hx hb dX1_moveRestOfPledgeDebt_9 rfl ?_
  refine k_pFl (i := i) (v := 0) hx hb hts hown hF1 hI hAc hK hP hS hi 3 rfl (by decide) lf22 dX1_moveRestOfPledgeDebt_10 rfl rfl (by decide +kernel) (fun H locs hP hS => ?_)
  have eF : up (fCharge σ i (σ (9 + i) 3)) (9 + i) 3 0 = fMove σ i := by first | rfl | (simp only [fMove, fCharge, up_s]; done) | (simp only [fMove, fCharge, up_s]; repeat' split) <;> first | rfl | (exfalso; omega) | omega
  rw [eF] at hP
  exact W.vret hx hb hr (fun t ht hW => ⟨⟨_, rfl, rfl, by rw [ht]; exact hP, va_K.moved hW.alike hK⟩, hS.F ht⟩) hS.2.2 dX1_moveRestOfPledgeDebt_13
set_option maxHeartbeats 4000000 in
set_option maxRecDepth 100000 in
theorem c_forget (l : Launch) (G : va_G) (ad : Nat → Nat) (cy : Nat → ClassId) (hI : cI ad) (σ : Sg) (i : Nat) (hi : i < 8) : cMv l yX1_forgetSeason wsX1_forgetSeason ({ frames := 0, cells := 0, slots := 0, locals := 0 } : Room) G ad cy [.ref (ad (9 + i))] σ (fForget σ i) := by
  intro sz
  refine Met.ofW (cc := cX1_forgetSeason) (maxL := 1) (ret := none) (by decide) rfl ?_
  intro p e s m args below meth cd s₁ B hml hv
  obtain ⟨rfl, hsz, hP, hK⟩ := hv
  have hx := B.exec
  have hb := B.bytes
  have hr := B.returns
  have hts := atoms_spec (ws := wsX1_forgetSeason) B.pre
  have hown : s.vm.findClass RX1 = some m.cls := findClass_of_methodNamed B.named
  have hlocks := B.notSynchronized
  subst hsz
  have hS : va_S (cA ad s.heap.size) s.heap s.heap [] := va_S.rf
  have hA : ∀ q, s.heap.size ≤ q → cA ad s.heap.size q := fun _ h => Or.inr h
  have hAc : ∀ j, j < 33 → cA ad s.heap.size (ad j) := fun j h => Or.inl ⟨j, h, rfl⟩
  have hl := lv_entry ([.ref (ad (9 + i))]) (n := 1) (Nat.le_of_ble_eq_true rfl)
  rw [lg_entry_eq]
  generalize (lg_sl ([.ref (ad (9 + i))]) ++ List.replicate (1 - (lg_sl ([.ref (ad (9 + i))])).length) Slot.unset).toArray = ls at hl ⊢
  have hl : lv_has ls 1 [(0, .ref (ad (9 + i)))] := hl
  have hF1 : ∀ w ∈ wsX10, w ∈ wsX1_forgetSeason := by decide +kernel
  have lf50 := hts (.fieldLink RX1 50 "HarvestLender$Farmer" "plantedCrop" "I") (by decide +kernel)
  have lf53 := hts (.fieldLink RX1 53 "HarvestLender$Farmer" "hectares" "I") (by decide +kernel)
  have lf56 := hts (.fieldLink RX1 56 "HarvestLender$Farmer" "coverPercent" "I") (by decide +kernel)
  have lf59 := hts (.fieldLink RX1 59 "HarvestLender$Farmer" "yieldPercent" "I") (by decide +kernel)
  have lf62 := hts (.fieldLink RX1 62 "HarvestLender$Farmer" "drawn" "I") (by decide +kernel)
  refine lv_aload_n hx hb dX1_forgetSeason_0 rfl (lv_at hl 0 rfl) ?_
  refine k_iconst hx hb dX1_forgetSeason_1 ?_
  refine k_pFi (i := i) (v := -1) hx hb hts hown hF1 hI hAc hK hP hS hi 12 rfl (by decide) lf50 dX1_forgetSeason_2 rfl rfl (by decide +kernel) (fun H locs hP hS => ?_)
  refine lv_aload_n hx hb dX1_forgetSeason_5 rfl (lv_at hl 0 rfl) ?_
  refine k_iconst hx hb dX1_forgetSeason_6 ?_
  refine k_pFi (i := i) (v := 0) hx hb hts hown hF1 hI hAc hK hP hS hi 13 rfl (by decide) lf53 dX1_forgetSeason_7 rfl rfl (by decide +kernel) (fun H locs hP hS => ?_)
  refine lv_aload_n hx hb dX1_forgetSeason_10 rfl (lv_at hl 0 rfl) ?_
  refine k_iconst hx hb dX1_forgetSeason_11 ?_
  refine k_pFi (i := i) (v := 0) hx hb hts hown hF1 hI hAc hK hP hS hi 14 rfl (by decide) lf56 dX1_forgetSeason_12 rfl rfl (by decide +kernel) (fun H locs hP hS => ?_)
  refine lv_aload_n hx hb dX1_forgetSeason_15 rfl (lv_at hl 0 rfl) ?_
  refine k_bipush hx hb dX1_forgetSeason_16 (by decide) ?_
  refine k_pFi (i := i) (v := 100) hx hb hts hown hF1 hI hAc hK hP hS hi 15 rfl (by decide) lf59 dX1_forgetSeason_18 rfl rfl (by decide +kernel) (fun H locs hP hS => ?_)
  refine lv_aload_n hx hb dX1_forgetSeason_21 rfl (lv_at hl 0 rfl) ?_
  refine k_iconst hx hb dX1_forgetSeason_22 ?_
  refine k_pFi (i := i) (v := 0) hx hb hts hown hF1 hI hAc hK hP hS hi 16 rfl (by decide) lf62 dX1_forgetSeason_23 rfl rfl (by decide +kernel) (fun H locs hP hS => ?_)
  have eF : up (up (up (up (up σ (9 + i) 12 (-1)) (9 + i) 13 0) (9 + i) 14 0) (9 + i) 15 100) (9 + i) 16 0 = fForget σ i := by first | rfl | (simp only [fForget, up_s]; done) | (simp only [fForget, up_s]; repeat' split) <;> first | rfl | (exfalso; omega) | omega
  rw [eF] at hP
  exact W.vret hx hb hr (fun t ht hW => ⟨⟨_, rfl, rfl, by rw [ht]; exact hP, va_K.moved hW.alike hK⟩, hS.F ht⟩) hS.2.2 dX1_forgetSeason_26
set_option maxHeartbeats 4000000 in
set_option maxRecDepth 100000 in
theorem c_take (l : Launch) (G : va_G) (ad : Nat → Nat) (cy : Nat → ClassId) (hI : cI ad) (σ : Sg) (i : Nat) (hi : i < 8) (h8 : 0 ≤ σ (9 + i) 8 ∧ σ (9 + i) 8 ≤ 3) : cMl l yX1_takeInstalment wsX1_takeInstalment ({ frames := 0, cells := 0, slots := 0, locals := 0 } : Room) G ad cy [.ref (ad (9 + i))] σ (fTakeV σ i) (fTake σ i) := by
  intro sz
  refine Met.ofW (cc := cX1_takeInstalment) (maxL := 2) (ret := (some .long)) (by decide) rfl ?_
  intro p e s m args below meth cd s₁ B hml hv
  obtain ⟨rfl, hsz, hP, hK⟩ := hv
  have hx := B.exec
  have hb := B.bytes
  have hr := B.returns
  have hts := atoms_spec (ws := wsX1_takeInstalment) B.pre
  have hown : s.vm.findClass RX1 = some m.cls := findClass_of_methodNamed B.named
  have hlocks := B.notSynchronized
  subst hsz
  have hS : va_S (cA ad s.heap.size) s.heap s.heap [] := va_S.rf
  have hA : ∀ q, s.heap.size ≤ q → cA ad s.heap.size q := fun _ h => Or.inr h
  have hAc : ∀ j, j < 33 → cA ad s.heap.size (ad j) := fun j h => Or.inl ⟨j, h, rfl⟩
  have hl := lv_entry ([.ref (ad (9 + i))]) (n := 2) (Nat.le_of_ble_eq_true rfl)
  rw [lg_entry_eq]
  generalize (lg_sl ([.ref (ad (9 + i))]) ++ List.replicate (2 - (lg_sl ([.ref (ad (9 + i))])).length) Slot.unset).toArray = ls at hl ⊢
  have hl : lv_has ls 2 [(0, .ref (ad (9 + i)))] := hl
  have hF1 : ∀ w ∈ wsX10, w ∈ wsX1_takeInstalment := by decide +kernel
  have lf38 := hts (.fieldLink RX1 38 "HarvestLender$Farmer" "instalmentsLeft" "I") (by decide +kernel)
  have lf35 := hts (.fieldLink RX1 35 "HarvestLender$Farmer" "instalments" "[J") (by decide +kernel)
  refine k_iconst hx hb dX1_takeInstalment_0 ?_
  refine lv_aload_n hx hb dX1_takeInstalment_1 rfl (lv_at hl 0 rfl) ?_
  refine k_gF (i := i) (v := .int (iI (σ (9 + i) 8))) hx hb hts hown hF1 hK hP hi 8 (by decide) lf38 dX1_takeInstalment_2 rfl rfl ?_
  refine k_isub hx hb dX1_takeInstalment_5 ?_
  refine lv_istore_n (lv' := [(1, .int (iI (3 - (σ (9 + i) 8)))), (0, .ref (ad (9 + i)))]) hx hb dX1_takeInstalment_6 rfl hl (by decide) rfl (fun ls hl => ?_)
  refine lv_iload_n hx hb dX1_takeInstalment_7 rfl (lv_at hl 0 rfl) ?_
  refine k_if_lt (tgt := 16) hx hb dX1_takeInstalment_8 (by decide) (by omega) (fun c_1 => ?_) (fun c_1 => ?_)
  · refine k_lconst (v := 0) hx hb dX1_takeInstalment_16 rfl ?_
    have eF : σ = fTake σ i := by first | rfl | (simp only [fTake, fTakeV, up_s]; done) | (simp only [fTake, fTakeV, up_s]; repeat' split) <;> first | rfl | (exfalso; omega) | omega
    rw [eF] at hP
    have eR : 0 = fTakeV σ i := by first | rfl | (simp only [fTake, fTakeV, up_s]; done) | (simp only [fTake, fTakeV, up_s]; repeat' split) <;> first | rfl | (exfalso; omega) | omega
    exact W.lret hx hb hr (fun t ht hW => ⟨⟨_, _, rfl, ⟨by rw [eR], rfl⟩, by rw [ht]; exact hP, va_K.moved hW.alike hK⟩, hS.F ht⟩) hS.2.2 dX1_takeInstalment_17
  · refine lv_iload_n hx hb dX1_takeInstalment_11 rfl (lv_at hl 0 rfl) ?_
    refine k_iconst hx hb dX1_takeInstalment_12 ?_
    refine k_icmp_lt (tgt := 18) hx hb dX1_takeInstalment_13 (by decide) (by omega) (by decide) (fun c_2 => ?_) (fun c_2 => ?_)
    · refine lv_aload_n hx hb dX1_takeInstalment_18 rfl (lv_at hl 1 rfl) ?_
      refine lv_dup hx hb dX1_takeInstalment_19 rfl ?_
      refine k_gF (i := i) (v := .int (iI (σ (9 + i) 8))) hx hb hts hown hF1 hK hP hi 8 (by decide) lf38 dX1_takeInstalment_20 rfl rfl ?_
      refine k_iconst hx hb dX1_takeInstalment_23 ?_
      refine k_isub hx hb dX1_takeInstalment_24 ?_
      refine k_pFi (i := i) (v := (σ (9 + i) 8) - 1) hx hb hts hown hF1 hI hAc hK hP hS hi 8 rfl (by decide) lf38 dX1_takeInstalment_25 rfl rfl (by decide +kernel) (fun H locs hP hS => ?_)
      refine lv_aload_n hx hb dX1_takeInstalment_28 rfl (lv_at hl 1 rfl) ?_
      refine k_gF (i := i) (v := .ref (ad (25 + i))) hx hb hts hown hF1 hK hP hi 7 (by decide) lf35 dX1_takeInstalment_29 rfl rfl ?_
      refine lv_iload_n hx hb dX1_takeInstalment_32 rfl (lv_at hl 0 rfl) ?_
      refine k_tld (i := i) (x := 3 - (σ (9 + i) 8)) hx hb hK hP hi (by omega) (by omega) dX1_takeInstalment_33 ?_
      rw [show (up σ (9 + i) 8 ((σ (9 + i) 8) - 1)) (25 + i) ((3 - (σ (9 + i) 8)).toNat) = σ (25 + i) ((3 - (σ (9 + i) 8)).toNat) by simp [up]]
      have eF : up σ (9 + i) 8 ((σ (9 + i) 8) - 1) = fTake σ i := by first | rfl | (simp only [fTake, fTakeV, up_s]; done) | (simp only [fTake, fTakeV, up_s]; repeat' split) <;> first | rfl | (exfalso; omega) | omega
      rw [eF] at hP
      have eR : σ (25 + i) ((3 - (σ (9 + i) 8)).toNat) = fTakeV σ i := by first | rfl | (simp only [fTake, fTakeV, up_s]; done) | (simp only [fTake, fTakeV, up_s]; repeat' split) <;> first | rfl | (exfalso; omega) | omega
      exact W.lret hx hb hr (fun t ht hW => ⟨⟨_, _, rfl, ⟨by rw [eR], rfl⟩, by rw [ht]; exact hP, va_K.moved hW.alike hK⟩, hS.F ht⟩) hS.2.2 dX1_takeInstalment_34
    · refine k_lconst (v := 0) hx hb dX1_takeInstalment_16 rfl ?_
      have eF : σ = fTake σ i := by first | rfl | (simp only [fTake, fTakeV, up_s]; done) | (simp only [fTake, fTakeV, up_s]; repeat' split) <;> first | rfl | (exfalso; omega) | omega
      rw [eF] at hP
      have eR : 0 = fTakeV σ i := by first | rfl | (simp only [fTake, fTakeV, up_s]; done) | (simp only [fTake, fTakeV, up_s]; repeat' split) <;> first | rfl | (exfalso; omega) | omega
      exact W.lret hx hb hr (fun t ht hW => ⟨⟨_, _, rfl, ⟨by rw [eR], rfl⟩, by rw [ht]; exact hP, va_K.moved hW.alike hK⟩, hS.F ht⟩) hS.2.2 dX1_takeInstalment_17
set_option maxHeartbeats 4000000 in
set_option maxRecDepth 100000 in
theorem c_mayRoll (l : Launch) (G : va_G) (ad : Nat → Nat) (cy : Nat → ClassId) (hI : cI ad) (σ : Sg) (i : Nat) (hi : i < 8) (h12 : nB (σ (9 + i) 12)) (h15 : nB (σ (9 + i) 15)) (h8 : nB (σ (9 + i) 8)) : cMi l yX1_mayRoll wsX1_mayRoll ({ frames := 1, cells := 0, slots := 0, locals := 20 } : Room) G ad cy [.ref (ad (9 + i))] σ (fMayRoll σ i) σ := by
  intro sz
  refine Met.ofW (cc := cX1_mayRoll) (maxL := 1) (ret := (some .boolean)) (by decide) rfl ?_
  intro p e s m args below meth cd s₁ B hml hv
  obtain ⟨rfl, hsz, hP, hK⟩ := hv
  have hx := B.exec
  have hb := B.bytes
  have hr := B.returns
  have hts := atoms_spec (ws := wsX1_mayRoll) B.pre
  have hown : s.vm.findClass RX1 = some m.cls := findClass_of_methodNamed B.named
  have hlocks := B.notSynchronized
  subst hsz
  have hS : va_S (cA ad s.heap.size) s.heap s.heap [] := va_S.rf
  have hA : ∀ q, s.heap.size ≤ q → cA ad s.heap.size q := fun _ h => Or.inr h
  have hAc : ∀ j, j < 33 → cA ad s.heap.size (ad j) := fun j h => Or.inl ⟨j, h, rfl⟩
  have hl := lv_entry ([.ref (ad (9 + i))]) (n := 1) (Nat.le_of_ble_eq_true rfl)
  rw [lg_entry_eq]
  generalize (lg_sl ([.ref (ad (9 + i))]) ++ List.replicate (1 - (lg_sl ([.ref (ad (9 + i))])).length) Slot.unset).toArray = ls at hl ⊢
  have hl : lv_has ls 1 [(0, .ref (ad (9 + i)))] := hl
  have hF1 : ∀ w ∈ wsX10, w ∈ wsX1_mayRoll := by decide +kernel
  have lf59 := hts (.fieldLink RX1 59 "HarvestLender$Farmer" "yieldPercent" "I") (by decide +kernel)
  have lf38 := hts (.fieldLink RX1 38 "HarvestLender$Farmer" "instalmentsLeft" "I") (by decide +kernel)
  refine lv_aload_n hx hb dX1_mayRoll_0 rfl (lv_at hl 0 rfl) ?_
  refine k_ci (As := []) (rest := []) ⟨hx, hb, hml, hown, hts⟩ (c_hasPlanted l G ad cy hI σ i hi (by omega)) (cwV 0 hts gX1_mayRoll_X1_hasPlanted rfl rfl rfl (by decide +kernel) ⟨Nat.le_of_ble_eq_true rfl, Nat.le_of_ble_eq_true rfl⟩) (cRecvF hK hP hi) hAc hA hK hP hS rfl hl.1 rfl (Nat.le_of_ble_eq_true rfl) dX1_mayRoll_1 ⟨Nat.zero_le _, Nat.zero_le _⟩ (fun H locs hP hS => ?_)
  refine k_if_eq (tgt := 27) hx hb dX1_mayRoll_4 (by decide) (fPl_nB σ i) (fun c_1 => ?_) (fun c_1 => ?_)
  · refine k_iconst hx hb dX1_mayRoll_27 ?_
    have eR : 0 = fMayRoll σ i := by (have q := fPl_0 σ i; unfold fMayRoll; split <;> omega)
    exact W.zret hx hb hr (by decide) (fun t ht hW => ⟨⟨_, _, rfl, ⟨by rw [eR], rfl⟩, by rw [ht]; exact hP, va_K.moved hW.alike hK⟩, hS.F ht⟩) hS.2.2 dX1_mayRoll_28
  · refine lv_aload_n hx hb dX1_mayRoll_7 rfl (lv_at hl 0 rfl) ?_
    refine k_gF (i := i) (v := .int (iI (σ (9 + i) 15))) hx hb hts hown hF1 hK hP hi 15 (by decide) lf59 dX1_mayRoll_8 rfl rfl ?_
    refine k_bipush hx hb dX1_mayRoll_11 (by decide) ?_
    refine k_icmp_ge (tgt := 27) hx hb dX1_mayRoll_13 (by decide) (by omega) (by decide) (fun c_2 => ?_) (fun c_2 => ?_)
    · refine k_iconst hx hb dX1_mayRoll_27 ?_
      have eR : 0 = fMayRoll σ i := by (have q := fPl_0 σ i; unfold fMayRoll; split <;> omega)
      exact W.zret hx hb hr (by decide) (fun t ht hW => ⟨⟨_, _, rfl, ⟨by rw [eR], rfl⟩, by rw [ht]; exact hP, va_K.moved hW.alike hK⟩, hS.F ht⟩) hS.2.2 dX1_mayRoll_28
    · refine lv_aload_n hx hb dX1_mayRoll_16 rfl (lv_at hl 0 rfl) ?_
      refine k_gF (i := i) (v := .int (iI (σ (9 + i) 8))) hx hb hts hown hF1 hK hP hi 8 (by decide) lf38 dX1_mayRoll_17 rfl rfl ?_
      refine k_if_ne (tgt := 27) hx hb dX1_mayRoll_20 (by decide) (by omega) (fun c_3 => ?_) (fun c_3 => ?_)
      · refine k_iconst hx hb dX1_mayRoll_27 ?_
        have eR : 0 = fMayRoll σ i := by (have q := fPl_0 σ i; unfold fMayRoll; split <;> omega)
        exact W.zret hx hb hr (by decide) (fun t ht hW => ⟨⟨_, _, rfl, ⟨by rw [eR], rfl⟩, by rw [ht]; exact hP, va_K.moved hW.alike hK⟩, hS.F ht⟩) hS.2.2 dX1_mayRoll_28
      · refine k_iconst hx hb dX1_mayRoll_23 ?_
        refine lv_goto (tgt := 28) hx hb dX1_mayRoll_24 (by decide) ?_
        have eR : 1 = fMayRoll σ i := by (have q := fPl_0 σ i; unfold fMayRoll; split <;> omega)
        exact W.zret hx hb hr (by decide) (fun t ht hW => ⟨⟨_, _, rfl, ⟨by rw [eR], rfl⟩, by rw [ht]; exact hP, va_K.moved hW.alike hK⟩, hS.F ht⟩) hS.2.2 dX1_mayRoll_28
end
section
set_option maxHeartbeats 4000000 in
set_option maxRecDepth 100000 in
theorem c_needUp (l : Launch) (G : va_G) (ad : Nat → Nat) (cy : Nat → ClassId) (hI : cI ad) (σ : Sg) (c : Nat) (hc : c < 3) (st : Int) (hst : 0 ≤ st ∧ st ≤ 100) : cMi l yX0_needUpTo wsX0_needUpTo ({ frames := 0, cells := 0, slots := 0, locals := 0 } : Room) G ad cy [.ref (ad (3 + c)), .int (iI st)] σ (fNeedUp σ c st) σ := by
  intro sz
  refine Met.ofW (cc := cX0_needUpTo) (maxL := 4) (ret := (some .int)) (by decide) rfl ?_
  intro p e s m args below meth cd s₁ B hml hv
  obtain ⟨rfl, hsz, hP, hK⟩ := hv
  have hx := B.exec
  have hb := B.bytes
  have hr := B.returns
  have hts := atoms_spec (ws := wsX0_needUpTo) B.pre
  have hown : s.vm.findClass RX0 = some m.cls := findClass_of_methodNamed B.named
  have hlocks := B.notSynchronized
  subst hsz
  have hS : va_S (cA ad s.heap.size) s.heap s.heap [] := va_S.rf
  have hA : ∀ q, s.heap.size ≤ q → cA ad s.heap.size q := fun _ h => Or.inr h
  have hAc : ∀ j, j < 33 → cA ad s.heap.size (ad j) := fun j h => Or.inl ⟨j, h, rfl⟩
  have hl := lv_entry ([.ref (ad (3 + c)), .int (iI st)]) (n := 4) (Nat.le_of_ble_eq_true rfl)
  rw [lg_entry_eq]
  generalize (lg_sl ([.ref (ad (3 + c)), .int (iI st)]) ++ List.replicate (4 - (lg_sl ([.ref (ad (3 + c)), .int (iI st)])).length) Slot.unset).toArray = ls at hl ⊢
  have hl : lv_has ls 4 [(0, .ref (ad (3 + c))), (1, .int (iI st))] := hl
  have hF0 : ∀ w ∈ wsX00, w ∈ wsX0_needUpTo := by decide +kernel
  have lf9 := hts (.fieldLink RX0 9 "HarvestLender$Crop" "needs" "[I") (by decide +kernel)
  have loop : ∀ (d k : Nat), k ≤ 4 → 4 < k + d → ((k : Int) ≤ st + 1) → ∀ (H : Heap) (locs : List Loc) (ls : Array Slot), va_P G vwCl (cW ad cy σ) H → va_S (cA ad s.heap.size) s.heap H locs → lv_has ls 4 [(0, .ref (ad (3 + c))), (1, .int (iI st)), (2, .int (iI (fNeed σ c k))), (3, .int (iI (k : Int)))] → W p l e (headSpec wsX0_needUpTo ({ frames := 0, cells := 0, slots := 0, locals := 0 } : Room)).room s m ([.ref (ad (3 + c)), .int (iI st)] : List Value).toArray below meth cd H locs 0 0 (MQ below (va_Qi (fun (v : Int32) (u : Sg) => v = iI (fNeedUp σ c st) ∧ u = σ) (cB G ad cy) (cA ad s.heap.size)) ([.ref (ad (3 + c)), .int (iI st)] : List Value).toArray s 0 0 (cA ad s.heap.size)) (F0 m 4 ls []) := by
    intro d
    induction d with
    | zero => intro k h1 h2; exact absurd h2 (by omega)
    | succ d ih =>
      intro k hk hd hq0 H locs ls hP hS hl
      refine lv_iload_n hx hb dX0_needUpTo_4 rfl (lv_at hl 3 rfl) ?_
      refine k_iconst hx hb dX0_needUpTo_5 ?_
      refine k_icmp_ge (tgt := 29) hx hb dX0_needUpTo_6 (by decide) (by omega) (by decide) (fun c_1 => ?_) (fun c_1 => ?_)
      · refine lv_iload_n hx hb dX0_needUpTo_29 rfl (lv_at hl 2 rfl) ?_
        have eR : fNeed σ c k = fNeedUp σ c st := by (have q : (mn 4 (st + 1)).toNat = k := by (unfold mn; split <;> omega)); (unfold fNeedUp; rw [q])
        exact W.iret hx hb hr (fun t ht hW => ⟨⟨_, _, rfl, ⟨by rw [eR], rfl⟩, by rw [ht]; exact hP, va_K.moved hW.alike hK⟩, hS.F ht⟩) hS.2.2 dX0_needUpTo_30
      · refine lv_iload_n hx hb dX0_needUpTo_9 rfl (lv_at hl 3 rfl) ?_
        refine lv_iload_n hx hb dX0_needUpTo_10 rfl (lv_at hl 1 rfl) ?_
        refine k_icmp_gt (tgt := 29) hx hb dX0_needUpTo_11 (by decide) (by omega) (by omega) (fun c_2 => ?_) (fun c_2 => ?_)
        · refine lv_iload_n hx hb dX0_needUpTo_29 rfl (lv_at hl 2 rfl) ?_
          have eR : fNeed σ c k = fNeedUp σ c st := by (have q : (mn 4 (st + 1)).toNat = k := by (unfold mn; split <;> omega)); (unfold fNeedUp; rw [q])
          exact W.iret hx hb hr (fun t ht hW => ⟨⟨_, _, rfl, ⟨by rw [eR], rfl⟩, by rw [ht]; exact hP, va_K.moved hW.alike hK⟩, hS.F ht⟩) hS.2.2 dX0_needUpTo_30
        · refine lv_iload_n hx hb dX0_needUpTo_14 rfl (lv_at hl 2 rfl) ?_
          refine lv_aload_n hx hb dX0_needUpTo_15 rfl (lv_at hl 0 rfl) ?_
          refine k_gC (i := c) (v := .ref (ad (6 + c))) hx hb hts hown hF0 hK hP hc 0 (by decide) lf9 dX0_needUpTo_16 rfl rfl ?_
          refine lv_iload_n hx hb dX0_needUpTo_19 rfl (lv_at hl 3 rfl) ?_
          refine k_nldN (i := c) (x := k) hx hb hK hP hc (by omega) dX0_needUpTo_20 ?_
          refine k_iadd hx hb dX0_needUpTo_21 ?_
          refine lv_istore_n (lv' := [(2, .int (iI ((fNeed σ c k) + (σ (6 + c) k)))), (0, .ref (ad (3 + c))), (1, .int (iI st)), (3, .int (iI (k : Int)))]) hx hb dX0_needUpTo_22 rfl hl (by decide) rfl (fun ls hl => ?_)
          refine lv_iinc (v := iI ((k : Int) + 1)) (lv' := [(3, .int (iI ((k : Int) + 1))), (2, .int (iI ((fNeed σ c k) + (σ (6 + c) k)))), (0, .ref (ad (3 + c))), (1, .int (iI st))]) hx hb dX0_needUpTo_23 hl (k := 3) rfl (iI_add _ _) (by decide) rfl (fun ls hl => ?_)
          refine lv_goto (tgt := 4) hx hb dX0_needUpTo_26 (by decide) ?_
          have q3 : fNeed σ c (k + 1) = (fNeed σ c k) + (σ (6 + c) k) := by rfl
          exact ih (k + 1) (by omega) (by omega) (by omega) _ _ _ hP hS (by rw [q3]; exact lv_sub hl [2, 3, 1, 0] rfl)
  refine k_iconst hx hb dX0_needUpTo_0 ?_
  refine lv_istore_n (lv' := [(2, .int (iI 0)), (0, .ref (ad (3 + c))), (1, .int (iI st))]) hx hb dX0_needUpTo_1 rfl hl (by decide) rfl (fun ls hl => ?_)
  refine k_iconst hx hb dX0_needUpTo_2 ?_
  refine lv_istore_n (lv' := [(3, .int (iI 0)), (2, .int (iI 0)), (0, .ref (ad (3 + c))), (1, .int (iI st))]) hx hb dX0_needUpTo_3 rfl hl (by decide) rfl (fun ls hl => ?_)
  have q4 : fNeed σ c 0 = 0 := by rfl
  exact loop (4 + 1) 0 (Nat.zero_le _) (by omega) (by omega) _ _ _ hP hS (by rw [q4]; exact lv_sub hl [2, 3, 1, 0] rfl)
set_option maxHeartbeats 4000000 in
set_option maxRecDepth 100000 in
theorem c_harvest (l : Launch) (G : va_G) (ad : Nat → Nat) (cy : Nat → ClassId) (hI : cI ad) (σ : Sg) (i : Nat) (hi : i < 8) (c : Nat) (hc : c < 3) (hh : 0 ≤ σ (9 + i) 13 ∧ σ (9 + i) 13 ≤ 50) (hn : 0 ≤ σ (3 + c) 2 ∧ σ (3 + c) 2 ≤ 100) (hy : 0 ≤ σ (9 + i) 15 ∧ σ (9 + i) 15 ≤ 200) (hpr : 0 ≤ σ (3 + c) 1 ∧ σ (3 + c) 1 ≤ 5000) (hcv : 0 ≤ σ (9 + i) 14 ∧ σ (9 + i) 14 ≤ 90) (h2 : nB (σ (9 + i) 2)) : cMv l yX1_harvest wsX1_harvest ({ frames := 2, cells := 0, slots := 0, locals := 48 } : Room) G ad cy [.ref (ad (9 + i)), .ref (ad (3 + c))] σ (fHarvest σ i c) := by
  intro sz
  refine Met.ofW (cc := cX1_harvest) (maxL := 5) (ret := none) (by decide) rfl ?_
  intro p e s m args below meth cd s₁ B hml hv
  obtain ⟨rfl, hsz, hP, hK⟩ := hv
  have hx := B.exec
  have hb := B.bytes
  have hr := B.returns
  have hts := atoms_spec (ws := wsX1_harvest) B.pre
  have hown : s.vm.findClass RX1 = some m.cls := findClass_of_methodNamed B.named
  have hlocks := B.notSynchronized
  subst hsz
  have hS : va_S (cA ad s.heap.size) s.heap s.heap [] := va_S.rf
  have hA : ∀ q, s.heap.size ≤ q → cA ad s.heap.size q := fun _ h => Or.inr h
  have hAc : ∀ j, j < 33 → cA ad s.heap.size (ad j) := fun j h => Or.inl ⟨j, h, rfl⟩
  have hl := lv_entry ([.ref (ad (9 + i)), .ref (ad (3 + c))]) (n := 5) (Nat.le_of_ble_eq_true rfl)
  rw [lg_entry_eq]
  generalize (lg_sl ([.ref (ad (9 + i)), .ref (ad (3 + c))]) ++ List.replicate (5 - (lg_sl ([.ref (ad (9 + i)), .ref (ad (3 + c))])).length) Slot.unset).toArray = ls at hl ⊢
  have hl : lv_has ls 5 [(0, .ref (ad (9 + i))), (1, .ref (ad (3 + c)))] := hl
  have hF0 : ∀ w ∈ wsX00, w ∈ wsX1_harvest := by decide +kernel
  have hF1 : ∀ w ∈ wsX10, w ∈ wsX1_harvest := by decide +kernel
  have lf53 := hts (.fieldLink RX1 53 "HarvestLender$Farmer" "hectares" "I") (by decide +kernel)
  have lf83 := hts (.fieldLink RX1 83 "HarvestLender$Crop" "normal" "I") (by decide +kernel)
  have lf41 := hts (.fieldLink RX1 41 "HarvestLender$Farmer" "grain" "I") (by decide +kernel)
  have lf59 := hts (.fieldLink RX1 59 "HarvestLender$Farmer" "yieldPercent" "I") (by decide +kernel)
  have lf50 := hts (.fieldLink RX1 50 "HarvestLender$Farmer" "plantedCrop" "I") (by decide +kernel)
  have lf47 := hts (.fieldLink RX1 47 "HarvestLender$Farmer" "grainCrop" "I") (by decide +kernel)
  have lf56 := hts (.fieldLink RX1 56 "HarvestLender$Farmer" "coverPercent" "I") (by decide +kernel)
  have lf88 := hts (.fieldLink RX1 88 "HarvestLender$Crop" "price" "I") (by decide +kernel)
  have lc67 := hts (.constantLong RX1 67 (100)) (by decide +kernel)
  have e1 := mulB hh hn
  have e2 := mulB e1 hy
  have e3 := mulB e1 hpr
  refine lv_aload_n hx hb dX1_harvest_0 rfl (lv_at hl 0 rfl) ?_
  refine k_gF (i := i) (v := .int (iI (σ (9 + i) 13))) hx hb hts hown hF1 hK hP hi 13 (by decide) lf53 dX1_harvest_1 rfl rfl ?_
  refine lv_aload_n hx hb dX1_harvest_4 rfl (lv_at hl 1 rfl) ?_
  refine k_gC (i := c) (v := .int (iI (σ (3 + c) 2))) hx hb hts hown hF0 hK hP hc 2 (by decide) lf83 dX1_harvest_5 rfl rfl ?_
  refine k_imul hx hb dX1_harvest_8 ?_
  refine lv_istore_n (lv' := [(2, .int (iI ((σ (9 + i) 13) * (σ (3 + c) 2)))), (0, .ref (ad (9 + i))), (1, .ref (ad (3 + c)))]) hx hb dX1_harvest_9 rfl hl (by decide) rfl (fun ls hl => ?_)
  refine lv_aload_n hx hb dX1_harvest_10 rfl (lv_at hl 1 rfl) ?_
  refine lv_dup hx hb dX1_harvest_11 rfl ?_
  refine k_gF (i := i) (v := .int (iI (σ (9 + i) 9))) hx hb hts hown hF1 hK hP hi 9 (by decide) lf41 dX1_harvest_12 rfl rfl ?_
  refine lv_iload_n hx hb dX1_harvest_15 rfl (lv_at hl 0 rfl) ?_
  refine lv_aload_n hx hb dX1_harvest_16 rfl (lv_at hl 1 rfl) ?_
  refine k_gF (i := i) (v := .int (iI (σ (9 + i) 15))) hx hb hts hown hF1 hK hP hi 15 (by decide) lf59 dX1_harvest_17 rfl rfl ?_
  refine k_imul hx hb dX1_harvest_20 ?_
  refine k_bipush hx hb dX1_harvest_21 (by decide) ?_
  refine k_idiv hx hb dX1_harvest_23 (by omega) (by omega) (by decide) (by decide) ?_
  refine k_iadd hx hb dX1_harvest_24 ?_
  refine k_pFi (i := i) (v := (σ (9 + i) 9) + ((((σ (9 + i) 13) * (σ (3 + c) 2)) * (σ (9 + i) 15)) / 100)) hx hb hts hown hF1 hI hAc hK hP hS hi 9 rfl (by decide) lf41 dX1_harvest_25 rfl rfl (by decide +kernel) (fun H locs hP hS => ?_)
  refine lv_aload_n hx hb dX1_harvest_28 rfl (lv_at hl 1 rfl) ?_
  refine lv_aload_n hx hb dX1_harvest_29 rfl (lv_at hl 1 rfl) ?_
  refine k_gF (i := i) (v := .int (iI (σ (9 + i) 12))) hx hb hts hown hF1 hK hP hi 12 (by decide) lf50 dX1_harvest_30 rfl (congrArg (fun z => some (Value.int (iI z))) (by simp [up] : (up σ (9 + i) 9 ((σ (9 + i) 9) + ((((σ (9 + i) 13) * (σ (3 + c) 2)) * (σ (9 + i) 15)) / 100))) (9 + i) 12 = σ (9 + i) 12)) ?_
  refine k_pFi (i := i) (v := σ (9 + i) 12) hx hb hts hown hF1 hI hAc hK hP hS hi 11 rfl (by decide) lf47 dX1_harvest_33 rfl rfl (by decide +kernel) (fun H locs hP hS => ?_)
  refine lv_aload_n hx hb dX1_harvest_36 rfl (lv_at hl 1 rfl) ?_
  refine k_gF (i := i) (v := .int (iI (σ (9 + i) 15))) hx hb hts hown hF1 hK hP hi 15 (by decide) lf59 dX1_harvest_37 rfl (congrArg (fun z => some (Value.int (iI z))) (by simp [up] : (up (up σ (9 + i) 9 ((σ (9 + i) 9) + ((((σ (9 + i) 13) * (σ (3 + c) 2)) * (σ (9 + i) 15)) / 100))) (9 + i) 11 (σ (9 + i) 12)) (9 + i) 15 = σ (9 + i) 15)) ?_
  refine lv_aload_n hx hb dX1_harvest_40 rfl (lv_at hl 1 rfl) ?_
  refine k_gF (i := i) (v := .int (iI (σ (9 + i) 14))) hx hb hts hown hF1 hK hP hi 14 (by decide) lf56 dX1_harvest_41 rfl (congrArg (fun z => some (Value.int (iI z))) (by simp [up] : (up (up σ (9 + i) 9 ((σ (9 + i) 9) + ((((σ (9 + i) 13) * (σ (3 + c) 2)) * (σ (9 + i) 15)) / 100))) (9 + i) 11 (σ (9 + i) 12)) (9 + i) 14 = σ (9 + i) 14)) ?_
  refine k_icmp_ge (tgt := 77) hx hb dX1_harvest_44 (by decide) (by omega) (by omega) (fun c_1 => ?_) (fun c_1 => ?_)
  · have eF : up (up σ (9 + i) 9 ((σ (9 + i) 9) + ((((σ (9 + i) 13) * (σ (3 + c) 2)) * (σ (9 + i) 15)) / 100))) (9 + i) 11 (σ (9 + i) 12) = fHarvest σ i c := by first | rfl | (simp only [fHarvest, fHarvest0, up_s]; done) | (simp only [fHarvest, fHarvest0, up_s]; repeat' split) <;> first | rfl | (exfalso; omega) | omega
    rw [eF] at hP
    exact W.vret hx hb hr (fun t ht hW => ⟨⟨_, rfl, rfl, by rw [ht]; exact hP, va_K.moved hW.alike hK⟩, hS.F ht⟩) hS.2.2 dX1_harvest_77
  · refine lv_iload_n hx hb dX1_harvest_47 rfl (lv_at hl 0 rfl) ?_
    refine k_i2l hx hb dX1_harvest_48 (by omega) ?_
    refine lv_aload_n hx hb dX1_harvest_49 rfl (lv_at hl 2 rfl) ?_
    refine k_gC (i := c) (v := .int (iI (σ (3 + c) 1))) hx hb hts hown hF0 hK hP hc 1 (by decide) lf88 dX1_harvest_50 rfl (congrArg (fun z => some (Value.int (iI z))) (by simp [up] : (up (up σ (9 + i) 9 ((σ (9 + i) 9) + ((((σ (9 + i) 13) * (σ (3 + c) 2)) * (σ (9 + i) 15)) / 100))) (9 + i) 11 (σ (9 + i) 12)) (3 + c) 1 = σ (3 + c) 1)) ?_
    refine k_i2l hx hb dX1_harvest_53 (by omega) ?_
    refine k_lmul hx hb dX1_harvest_54 ?_
    refine lv_aload_n hx hb dX1_harvest_55 rfl (lv_at hl 1 rfl) ?_
    refine k_gF (i := i) (v := .int (iI (σ (9 + i) 14))) hx hb hts hown hF1 hK hP hi 14 (by decide) lf56 dX1_harvest_56 rfl (congrArg (fun z => some (Value.int (iI z))) (by simp [up] : (up (up σ (9 + i) 9 ((σ (9 + i) 9) + ((((σ (9 + i) 13) * (σ (3 + c) 2)) * (σ (9 + i) 15)) / 100))) (9 + i) 11 (σ (9 + i) 12)) (9 + i) 14 = σ (9 + i) 14)) ?_
    refine lv_aload_n hx hb dX1_harvest_59 rfl (lv_at hl 1 rfl) ?_
    refine k_gF (i := i) (v := .int (iI (σ (9 + i) 15))) hx hb hts hown hF1 hK hP hi 15 (by decide) lf59 dX1_harvest_60 rfl (congrArg (fun z => some (Value.int (iI z))) (by simp [up] : (up (up σ (9 + i) 9 ((σ (9 + i) 9) + ((((σ (9 + i) 13) * (σ (3 + c) 2)) * (σ (9 + i) 15)) / 100))) (9 + i) 11 (σ (9 + i) 12)) (9 + i) 15 = σ (9 + i) 15)) ?_
    refine k_isub hx hb dX1_harvest_63 ?_
    refine k_i2l hx hb dX1_harvest_64 (by omega) ?_
    refine k_lmul hx hb dX1_harvest_65 ?_
    refine lv_lstore_n (lv' := [(3, .long (iL ((((σ (9 + i) 13) * (σ (3 + c) 2)) * (σ (3 + c) 1)) * ((σ (9 + i) 14) - (σ (9 + i) 15))))), (2, .int (iI ((σ (9 + i) 13) * (σ (3 + c) 2)))), (0, .ref (ad (9 + i))), (1, .ref (ad (3 + c)))]) hx hb dX1_harvest_66 rfl hl (by decide) rfl (fun ls hl => ?_)
    refine lv_aload_n hx hb dX1_harvest_67 rfl (lv_at hl 2 rfl) ?_
    refine lv_lload_n hx hb dX1_harvest_68 rfl (lv_at hl 0 rfl) ?_
    refine k_ldc2 hx hb (100) hown lc67 (by decide) dX1_harvest_69 ?_
    refine k_ldiv hx hb dX1_harvest_72 (by have e4 := mulB e3 (⟨by omega, by omega⟩ : 0 ≤ σ (9 + i) 14 - σ (9 + i) 15 ∧ σ (9 + i) 14 - σ (9 + i) 15 ≤ 90); exact e4.1) (by have e4 := mulB e3 (⟨by omega, by omega⟩ : 0 ≤ σ (9 + i) 14 - σ (9 + i) 15 ∧ σ (9 + i) 14 - σ (9 + i) 15 ≤ 90); omega) (by decide) (by decide) ?_
    refine k_iconst hx hb dX1_harvest_73 ?_
    refine k_cv (As := [.long (iL (((((σ (9 + i) 13) * (σ (3 + c) 2)) * (σ (3 + c) 1)) * ((σ (9 + i) 14) - (σ (9 + i) 15))) / 100)), .int (iI 1)]) (rest := []) ⟨hx, hb, hml, hown, hts⟩ (c_receive l G ad cy hI (up (up σ (9 + i) 9 ((σ (9 + i) 9) + ((((σ (9 + i) 13) * (σ (3 + c) 2)) * (σ (9 + i) 15)) / 100))) (9 + i) 11 (σ (9 + i) 12)) i hi (((((σ (9 + i) 13) * (σ (3 + c) 2)) * (σ (3 + c) 1)) * ((σ (9 + i) 14) - (σ (9 + i) 15))) / 100) 1 (by decide) (div_lB (by have e4 := mulB e3 (⟨by omega, by omega⟩ : 0 ≤ σ (9 + i) 14 - σ (9 + i) 15 ∧ σ (9 + i) 14 - σ (9 + i) 15 ≤ 90); exact e4.1) (by have e4 := mulB e3 (⟨by omega, by omega⟩ : 0 ≤ σ (9 + i) 14 - σ (9 + i) 15 ∧ σ (9 + i) 14 - σ (9 + i) 15 ≤ 90); omega) (by decide)) (by simp [up]; omega)) (cwV 2 hts gX1_harvest_X1_receive rfl rfl rfl (by decide +kernel) ⟨Nat.le_of_ble_eq_true rfl, Nat.le_of_ble_eq_true rfl⟩) (cRecvF hK hP hi) hAc hA hK hP hS rfl hl.1 rfl (Nat.le_of_ble_eq_true rfl) dX1_harvest_74 ⟨Nat.zero_le _, Nat.zero_le _⟩ (fun H locs hP hS => ?_)
    have eF : fReceive (up (up σ (9 + i) 9 ((σ (9 + i) 9) + ((((σ (9 + i) 13) * (σ (3 + c) 2)) * (σ (9 + i) 15)) / 100))) (9 + i) 11 (σ (9 + i) 12)) i (((((σ (9 + i) 13) * (σ (3 + c) 2)) * (σ (3 + c) 1)) * ((σ (9 + i) 14) - (σ (9 + i) 15))) / 100) 1 = fHarvest σ i c := by first | rfl | (simp only [fHarvest, fHarvest0, up_s]; done) | (simp only [fHarvest, fHarvest0, up_s]; repeat' split) <;> first | rfl | (exfalso; omega) | omega
    rw [eF] at hP
    exact W.vret hx hb hr (fun t ht hW => ⟨⟨_, rfl, rfl, by rw [ht]; exact hP, va_K.moved hW.alike hK⟩, hS.F ht⟩) hS.2.2 dX1_harvest_77
set_option maxHeartbeats 4000000 in
set_option maxRecDepth 100000 in
theorem c_pledgeU (l : Launch) (G : va_G) (ad : Nat → Nat) (cy : Nat → ClassId) (hI : cI ad) (σ : Sg) (i : Nat) (hi : i < 8) (u pr : Int) (hu : 0 ≤ u ∧ u ≤ 1000000) (hpr : 0 ≤ pr ∧ pr ≤ 5000) (h2 : nB (σ (9 + i) 2)) : cMl l yX1_pledgeUnits wsX1_pledgeUnits ({ frames := 2, cells := 0, slots := 0, locals := 48 } : Room) G ad cy [.ref (ad (9 + i)), .int (iI u), .int (iI pr)] σ (u * pr * 60 / 100) (fPledge σ i u pr) := by
  intro sz
  refine Met.ofW (cc := cX1_pledgeUnits) (maxL := 5) (ret := (some .long)) (by decide) rfl ?_
  intro p e s m args below meth cd s₁ B hml hv
  obtain ⟨rfl, hsz, hP, hK⟩ := hv
  have hx := B.exec
  have hb := B.bytes
  have hr := B.returns
  have hts := atoms_spec (ws := wsX1_pledgeUnits) B.pre
  have hown : s.vm.findClass RX1 = some m.cls := findClass_of_methodNamed B.named
  have hlocks := B.notSynchronized
  subst hsz
  have hS : va_S (cA ad s.heap.size) s.heap s.heap [] := va_S.rf
  have hA : ∀ q, s.heap.size ≤ q → cA ad s.heap.size q := fun _ h => Or.inr h
  have hAc : ∀ j, j < 33 → cA ad s.heap.size (ad j) := fun j h => Or.inl ⟨j, h, rfl⟩
  have hl := lv_entry ([.ref (ad (9 + i)), .int (iI u), .int (iI pr)]) (n := 5) (Nat.le_of_ble_eq_true rfl)
  rw [lg_entry_eq]
  generalize (lg_sl ([.ref (ad (9 + i)), .int (iI u), .int (iI pr)]) ++ List.replicate (5 - (lg_sl ([.ref (ad (9 + i)), .int (iI u), .int (iI pr)])).length) Slot.unset).toArray = ls at hl ⊢
  have hl : lv_has ls 5 [(0, .ref (ad (9 + i))), (1, .int (iI u)), (2, .int (iI pr))] := hl
  have hF1 : ∀ w ∈ wsX10, w ∈ wsX1_pledgeUnits := by decide +kernel
  have lc94 := hts (.constantLong RX1 94 (60)) (by decide +kernel)
  have lc67 := hts (.constantLong RX1 67 (100)) (by decide +kernel)
  have lf44 := hts (.fieldLink RX1 44 "HarvestLender$Farmer" "pledgedGrain" "I") (by decide +kernel)
  have lf22 := hts (.fieldLink RX1 22 "HarvestLender$Farmer" "pledgeDebt" "J") (by decide +kernel)
  have e1 := mulB hu hpr
  refine lv_iload_n hx hb dX1_pledgeUnits_0 rfl (lv_at hl 1 rfl) ?_
  refine k_i2l hx hb dX1_pledgeUnits_1 (by omega) ?_
  refine lv_iload_n hx hb dX1_pledgeUnits_2 rfl (lv_at hl 2 rfl) ?_
  refine k_i2l hx hb dX1_pledgeUnits_3 (by omega) ?_
  refine k_lmul hx hb dX1_pledgeUnits_4 ?_
  refine k_ldc2 hx hb (60) hown lc94 (by decide) dX1_pledgeUnits_5 ?_
  refine k_lmul hx hb dX1_pledgeUnits_8 ?_
  refine k_ldc2 hx hb (100) hown lc67 (by decide) dX1_pledgeUnits_9 ?_
  refine k_ldiv hx hb dX1_pledgeUnits_12 (by omega) (by omega) (by decide) (by decide) ?_
  refine lv_lstore_n (lv' := [(3, .long (iL (((u * pr) * 60) / 100))), (0, .ref (ad (9 + i))), (1, .int (iI u)), (2, .int (iI pr))]) hx hb dX1_pledgeUnits_13 rfl hl (by decide) rfl (fun ls hl => ?_)
  refine lv_aload_n hx hb dX1_pledgeUnits_14 rfl (lv_at hl 1 rfl) ?_
  refine lv_dup hx hb dX1_pledgeUnits_15 rfl ?_
  refine k_gF (i := i) (v := .int (iI (σ (9 + i) 10))) hx hb hts hown hF1 hK hP hi 10 (by decide) lf44 dX1_pledgeUnits_16 rfl rfl ?_
  refine lv_iload_n hx hb dX1_pledgeUnits_19 rfl (lv_at hl 2 rfl) ?_
  refine k_iadd hx hb dX1_pledgeUnits_20 ?_
  refine k_pFi (i := i) (v := (σ (9 + i) 10) + u) hx hb hts hown hF1 hI hAc hK hP hS hi 10 rfl (by decide) lf44 dX1_pledgeUnits_21 rfl rfl (by decide +kernel) (fun H locs hP hS => ?_)
  refine lv_aload_n hx hb dX1_pledgeUnits_24 rfl (lv_at hl 1 rfl) ?_
  refine lv_dup hx hb dX1_pledgeUnits_25 rfl ?_
  refine k_gF (i := i) (v := .long (iL (σ (9 + i) 3))) hx hb hts hown hF1 hK hP hi 3 (by decide) lf22 dX1_pledgeUnits_26 rfl (congrArg (fun z => some (Value.long (iL z))) (by simp [up] : (up σ (9 + i) 10 ((σ (9 + i) 10) + u)) (9 + i) 3 = σ (9 + i) 3)) ?_
  refine lv_lload_n hx hb dX1_pledgeUnits_29 rfl (lv_at hl 0 rfl) ?_
  refine k_ladd hx hb dX1_pledgeUnits_30 ?_
  refine k_pFl (i := i) (v := (σ (9 + i) 3) + (((u * pr) * 60) / 100)) hx hb hts hown hF1 hI hAc hK hP hS hi 3 rfl (by decide) lf22 dX1_pledgeUnits_31 rfl rfl (by decide +kernel) (fun H locs hP hS => ?_)
  refine lv_aload_n hx hb dX1_pledgeUnits_34 rfl (lv_at hl 1 rfl) ?_
  refine lv_lload_n hx hb dX1_pledgeUnits_35 rfl (lv_at hl 0 rfl) ?_
  refine k_iconst hx hb dX1_pledgeUnits_36 ?_
  refine k_cv (As := [.long (iL (((u * pr) * 60) / 100)), .int (iI 2)]) (rest := []) ⟨hx, hb, hml, hown, hts⟩ (c_receive l G ad cy hI (up (up σ (9 + i) 10 ((σ (9 + i) 10) + u)) (9 + i) 3 ((σ (9 + i) 3) + (((u * pr) * 60) / 100))) i hi (((u * pr) * 60) / 100) 2 (by decide) (by omega) (by simp [up]; omega)) (cwV 2 hts gX1_pledgeUnits_X1_receive rfl rfl rfl (by decide +kernel) ⟨Nat.le_of_ble_eq_true rfl, Nat.le_of_ble_eq_true rfl⟩) (cRecvF hK hP hi) hAc hA hK hP hS rfl hl.1 rfl (Nat.le_of_ble_eq_true rfl) dX1_pledgeUnits_37 ⟨Nat.zero_le _, Nat.zero_le _⟩ (fun H locs hP hS => ?_)
  refine lv_lload_n hx hb dX1_pledgeUnits_40 rfl (lv_at hl 0 rfl) ?_
  have eF : fReceive (up (up σ (9 + i) 10 ((σ (9 + i) 10) + u)) (9 + i) 3 ((σ (9 + i) 3) + (((u * pr) * 60) / 100))) i (((u * pr) * 60) / 100) 2 = fPledge σ i u pr := by first | rfl | (simp only [fPledge, up_s]; done) | (simp only [fPledge, up_s]; repeat' split) <;> first | rfl | (exfalso; omega) | omega
  rw [eF] at hP
  have eR : ((u * pr) * 60) / 100 = u * pr * 60 / 100 := by first | rfl | (simp only [fPledge, up_s]; done) | (simp only [fPledge, up_s]; repeat' split) <;> first | rfl | (exfalso; omega) | omega
  exact W.lret hx hb hr (fun t ht hW => ⟨⟨_, _, rfl, ⟨by rw [eR], rfl⟩, by rw [ht]; exact hP, va_K.moved hW.alike hK⟩, hS.F ht⟩) hS.2.2 dX1_pledgeUnits_41
set_option maxHeartbeats 4000000 in
set_option maxRecDepth 100000 in
theorem c_sellU (l : Launch) (G : va_G) (ad : Nat → Nat) (cy : Nat → ClassId) (hI : cI ad) (σ : Sg) (i : Nat) (hi : i < 8) (u pr : Int) (hu : 0 ≤ u ∧ u ≤ 1000000) (hpr : 0 ≤ pr ∧ pr ≤ 5000) (h2 : nB (σ (9 + i) 2)) (h3 : 0 ≤ σ (9 + i) 3 ∧ σ (9 + i) 3 ≤ 2147483647) (hg : 0 ≤ σ (9 + i) 10 ∧ σ (9 + i) 10 ≤ σ (9 + i) 9 ∧ σ (9 + i) 9 ≤ 1000000) : cMl l yX1_sellUnits wsX1_sellUnits ({ frames := 2, cells := 0, slots := 0, locals := 48 } : Room) G ad cy [.ref (ad (9 + i)), .int (iI u), .int (iI pr)] σ (u * pr) (fSell σ i u pr) := by
  intro sz
  refine Met.ofW (cc := cX1_sellUnits) (maxL := 9) (ret := (some .long)) (by decide) rfl ?_
  intro p e s m args below meth cd s₁ B hml hv
  obtain ⟨rfl, hsz, hP, hK⟩ := hv
  have hx := B.exec
  have hb := B.bytes
  have hr := B.returns
  have hts := atoms_spec (ws := wsX1_sellUnits) B.pre
  have hown : s.vm.findClass RX1 = some m.cls := findClass_of_methodNamed B.named
  have hlocks := B.notSynchronized
  subst hsz
  have hS : va_S (cA ad s.heap.size) s.heap s.heap [] := va_S.rf
  have hA : ∀ q, s.heap.size ≤ q → cA ad s.heap.size q := fun _ h => Or.inr h
  have hAc : ∀ j, j < 33 → cA ad s.heap.size (ad j) := fun j h => Or.inl ⟨j, h, rfl⟩
  have hl := lv_entry ([.ref (ad (9 + i)), .int (iI u), .int (iI pr)]) (n := 9) (Nat.le_of_ble_eq_true rfl)
  rw [lg_entry_eq]
  generalize (lg_sl ([.ref (ad (9 + i)), .int (iI u), .int (iI pr)]) ++ List.replicate (9 - (lg_sl ([.ref (ad (9 + i)), .int (iI u), .int (iI pr)])).length) Slot.unset).toArray = ls at hl ⊢
  have hl : lv_has ls 9 [(0, .ref (ad (9 + i))), (1, .int (iI u)), (2, .int (iI pr))] := hl
  have hF1 : ∀ w ∈ wsX10, w ∈ wsX1_sellUnits := by decide +kernel
  have lm100 := hts (.methodLink RX1 100 Lib.Math.min.name) (by decide +kernel)
  have lms100 := hts (.static Lib.Math.min.name) (by decide +kernel)
  have lmi := hts (.initialized "java/lang/Math") (by decide +kernel)
  have lmc100 := hts (.code Lib.Math.min.name Lib.Math.min.code 2 (some .int)) (by decide +kernel)
  have lf22 := hts (.fieldLink RX1 22 "HarvestLender$Farmer" "pledgeDebt" "J") (by decide +kernel)
  have lm73 := hts (.methodLink RX1 73 Lib.MathLoose.min_long.x) (by decide +kernel)
  have lms73 := hts (.static Lib.MathLoose.min_long.x) (by decide +kernel)
  have lmc73 := hts (.code Lib.MathLoose.min_long.x Lib.MathLoose.min_long.code 4 (some .long)) (by decide +kernel)
  have lf41 := hts (.fieldLink RX1 41 "HarvestLender$Farmer" "grain" "I") (by decide +kernel)
  have lf44 := hts (.fieldLink RX1 44 "HarvestLender$Farmer" "pledgedGrain" "I") (by decide +kernel)
  have m1 := mn_le1 u (σ (9 + i) 9 - σ (9 + i) 10)
  have m2 := mn_le2 u (σ (9 + i) 9 - σ (9 + i) 10)
  have m3 := mn_ge u (σ (9 + i) 9 - σ (9 + i) 10) 0 (by omega) (by omega)
  have e1 := mulB (⟨m3, by omega⟩ : 0 ≤ mn u (σ (9 + i) 9 - σ (9 + i) 10) ∧ mn u (σ (9 + i) 9 - σ (9 + i) 10) ≤ 1000000) hpr
  have e2 := mulB (⟨by omega, by omega⟩ : 0 ≤ u - mn u (σ (9 + i) 9 - σ (9 + i) 10) ∧ u - mn u (σ (9 + i) 9 - σ (9 + i) 10) ≤ 1000000) hpr
  have m4 := mn_le1 ((u - mn u (σ (9 + i) 9 - σ (9 + i) 10)) * pr) (σ (9 + i) 3)
  have m5 := mn_ge ((u - mn u (σ (9 + i) 9 - σ (9 + i) 10)) * pr) (σ (9 + i) 3) 0 (by omega) (by omega)
  refine lv_iload_n hx hb dX1_sellUnits_0 rfl (lv_at hl 1 rfl) ?_
  refine lv_aload_n hx hb dX1_sellUnits_1 rfl (lv_at hl 0 rfl) ?_
  refine k_ci (As := []) (rest := [.int (iI u)]) ⟨hx, hb, hml, hown, hts⟩ (c_freeGrain l G ad cy hI σ i hi) (cwV 0 hts gX1_sellUnits_X1_freeGrain rfl rfl rfl (by decide +kernel) ⟨Nat.le_of_ble_eq_true rfl, Nat.le_of_ble_eq_true rfl⟩) (cRecvF hK hP hi) hAc hA hK hP hS rfl hl.1 rfl (Nat.le_of_ble_eq_true rfl) dX1_sellUnits_2 ⟨Nat.zero_le _, Nat.zero_le _⟩ (fun H locs hP hS => ?_)
  refine k_mmini hx hb (hml.trans hl.1.symm) hown lm100 lms100 lmi lmc100 (Nat.le_of_ble_eq_true rfl) (Nat.le_of_ble_eq_true rfl) (Nat.zero_le _) (Nat.zero_le _) (by omega) (by omega) dX1_sellUnits_5 ?_
  refine lv_istore_n (lv' := [(3, .int (iI (mn u (σ (9 + i) 9 - σ (9 + i) 10)))), (0, .ref (ad (9 + i))), (1, .int (iI u)), (2, .int (iI pr))]) hx hb dX1_sellUnits_8 rfl hl (by decide) rfl (fun ls hl => ?_)
  refine lv_iload_n hx hb dX1_sellUnits_9 rfl (lv_at hl 2 rfl) ?_
  refine lv_iload_n hx hb dX1_sellUnits_10 rfl (lv_at hl 0 rfl) ?_
  refine k_isub hx hb dX1_sellUnits_11 ?_
  refine lv_istore (lv' := [(4, .int (iI (u - (mn u (σ (9 + i) 9 - σ (9 + i) 10))))), (3, .int (iI (mn u (σ (9 + i) 9 - σ (9 + i) 10)))), (0, .ref (ad (9 + i))), (1, .int (iI u)), (2, .int (iI pr))]) hx hb dX1_sellUnits_12 hl (by decide) rfl (fun ls hl => ?_)
  refine lv_iload hx hb dX1_sellUnits_14 (lv_at hl 0 rfl) ?_
  refine k_i2l hx hb dX1_sellUnits_16 (by omega) ?_
  refine lv_iload_n hx hb dX1_sellUnits_17 rfl (lv_at hl 4 rfl) ?_
  refine k_i2l hx hb dX1_sellUnits_18 (by omega) ?_
  refine k_lmul hx hb dX1_sellUnits_19 ?_
  refine lv_lstore (lv' := [(5, .long (iL ((u - (mn u (σ (9 + i) 9 - σ (9 + i) 10))) * pr))), (4, .int (iI (u - (mn u (σ (9 + i) 9 - σ (9 + i) 10))))), (3, .int (iI (mn u (σ (9 + i) 9 - σ (9 + i) 10)))), (0, .ref (ad (9 + i))), (1, .int (iI u)), (2, .int (iI pr))]) hx hb dX1_sellUnits_20 hl (by decide) rfl (fun ls hl => ?_)
  refine lv_lload hx hb dX1_sellUnits_22 (lv_at hl 0 rfl) ?_
  refine lv_aload_n hx hb dX1_sellUnits_24 rfl (lv_at hl 3 rfl) ?_
  refine k_gF (i := i) (v := .long (iL (σ (9 + i) 3))) hx hb hts hown hF1 hK hP hi 3 (by decide) lf22 dX1_sellUnits_25 rfl rfl ?_
  refine k_mminl hx hb (hml.trans hl.1.symm) hown lm73 lms73 lmi lmc73 (Nat.le_of_ble_eq_true rfl) (Nat.le_of_ble_eq_true rfl) (Nat.zero_le _) (Nat.zero_le _) (by omega) (by omega) dX1_sellUnits_28 ?_
  refine lv_lstore (lv' := [(7, .long (iL (mn ((u - (mn u (σ (9 + i) 9 - σ (9 + i) 10))) * pr) (σ (9 + i) 3)))), (5, .long (iL ((u - (mn u (σ (9 + i) 9 - σ (9 + i) 10))) * pr))), (4, .int (iI (u - (mn u (σ (9 + i) 9 - σ (9 + i) 10))))), (3, .int (iI (mn u (σ (9 + i) 9 - σ (9 + i) 10)))), (0, .ref (ad (9 + i))), (1, .int (iI u)), (2, .int (iI pr))]) hx hb dX1_sellUnits_31 hl (by decide) rfl (fun ls hl => ?_)
  refine lv_aload_n hx hb dX1_sellUnits_33 rfl (lv_at hl 4 rfl) ?_
  refine lv_dup hx hb dX1_sellUnits_34 rfl ?_
  refine k_gF (i := i) (v := .int (iI (σ (9 + i) 9))) hx hb hts hown hF1 hK hP hi 9 (by decide) lf41 dX1_sellUnits_35 rfl rfl ?_
  refine lv_iload_n hx hb dX1_sellUnits_38 rfl (lv_at hl 5 rfl) ?_
  refine k_isub hx hb dX1_sellUnits_39 ?_
  refine k_pFi (i := i) (v := (σ (9 + i) 9) - u) hx hb hts hown hF1 hI hAc hK hP hS hi 9 rfl (by decide) lf41 dX1_sellUnits_40 rfl rfl (by decide +kernel) (fun H locs hP hS => ?_)
  refine lv_aload_n hx hb dX1_sellUnits_43 rfl (lv_at hl 4 rfl) ?_
  refine lv_dup hx hb dX1_sellUnits_44 rfl ?_
  refine k_gF (i := i) (v := .int (iI (σ (9 + i) 10))) hx hb hts hown hF1 hK hP hi 10 (by decide) lf44 dX1_sellUnits_45 rfl (congrArg (fun z => some (Value.int (iI z))) (by simp [up] : (up σ (9 + i) 9 ((σ (9 + i) 9) - u)) (9 + i) 10 = σ (9 + i) 10)) ?_
  refine lv_iload hx hb dX1_sellUnits_48 (lv_at hl 2 rfl) ?_
  refine k_isub hx hb dX1_sellUnits_50 ?_
  refine k_pFi (i := i) (v := (σ (9 + i) 10) - (u - (mn u (σ (9 + i) 9 - σ (9 + i) 10)))) hx hb hts hown hF1 hI hAc hK hP hS hi 10 rfl (by decide) lf44 dX1_sellUnits_51 rfl rfl (by decide +kernel) (fun H locs hP hS => ?_)
  refine lv_aload_n hx hb dX1_sellUnits_54 rfl (lv_at hl 4 rfl) ?_
  refine lv_dup hx hb dX1_sellUnits_55 rfl ?_
  refine k_gF (i := i) (v := .long (iL (σ (9 + i) 3))) hx hb hts hown hF1 hK hP hi 3 (by decide) lf22 dX1_sellUnits_56 rfl (congrArg (fun z => some (Value.long (iL z))) (by simp [up] : (up (up σ (9 + i) 9 ((σ (9 + i) 9) - u)) (9 + i) 10 ((σ (9 + i) 10) - (u - (mn u (σ (9 + i) 9 - σ (9 + i) 10))))) (9 + i) 3 = σ (9 + i) 3)) ?_
  refine lv_lload hx hb dX1_sellUnits_59 (lv_at hl 0 rfl) ?_
  refine k_lsub hx hb dX1_sellUnits_61 ?_
  refine k_pFl (i := i) (v := (σ (9 + i) 3) - (mn ((u - (mn u (σ (9 + i) 9 - σ (9 + i) 10))) * pr) (σ (9 + i) 3))) hx hb hts hown hF1 hI hAc hK hP hS hi 3 rfl (by decide) lf22 dX1_sellUnits_62 rfl rfl (by decide +kernel) (fun H locs hP hS => ?_)
  refine lv_aload_n hx hb dX1_sellUnits_65 rfl (lv_at hl 4 rfl) ?_
  refine lv_iload_n hx hb dX1_sellUnits_66 rfl (lv_at hl 3 rfl) ?_
  refine k_i2l hx hb dX1_sellUnits_67 (by omega) ?_
  refine lv_iload_n hx hb dX1_sellUnits_68 rfl (lv_at hl 6 rfl) ?_
  refine k_i2l hx hb dX1_sellUnits_69 (by omega) ?_
  refine k_lmul hx hb dX1_sellUnits_70 ?_
  refine lv_lload hx hb dX1_sellUnits_71 (lv_at hl 1 rfl) ?_
  refine k_ladd hx hb dX1_sellUnits_73 ?_
  refine lv_lload hx hb dX1_sellUnits_74 (lv_at hl 0 rfl) ?_
  refine k_lsub hx hb dX1_sellUnits_76 ?_
  refine k_iconst hx hb dX1_sellUnits_77 ?_
  refine k_cv (As := [.long (iL ((((mn u (σ (9 + i) 9 - σ (9 + i) 10)) * pr) + ((u - (mn u (σ (9 + i) 9 - σ (9 + i) 10))) * pr)) - (mn ((u - (mn u (σ (9 + i) 9 - σ (9 + i) 10))) * pr) (σ (9 + i) 3)))), .int (iI 3)]) (rest := []) ⟨hx, hb, hml, hown, hts⟩ (c_receive l G ad cy hI (up (up (up σ (9 + i) 9 ((σ (9 + i) 9) - u)) (9 + i) 10 ((σ (9 + i) 10) - (u - (mn u (σ (9 + i) 9 - σ (9 + i) 10))))) (9 + i) 3 ((σ (9 + i) 3) - (mn ((u - (mn u (σ (9 + i) 9 - σ (9 + i) 10))) * pr) (σ (9 + i) 3)))) i hi ((((mn u (σ (9 + i) 9 - σ (9 + i) 10)) * pr) + ((u - (mn u (σ (9 + i) 9 - σ (9 + i) 10))) * pr)) - (mn ((u - (mn u (σ (9 + i) 9 - σ (9 + i) 10))) * pr) (σ (9 + i) 3))) 3 (by decide) (by omega) (by simp [up]; omega)) (cwV 2 hts gX1_sellUnits_X1_receive rfl rfl rfl (by decide +kernel) ⟨Nat.le_of_ble_eq_true rfl, Nat.le_of_ble_eq_true rfl⟩) (cRecvF hK hP hi) hAc hA hK hP hS rfl hl.1 rfl (Nat.le_of_ble_eq_true rfl) dX1_sellUnits_78 ⟨Nat.zero_le _, Nat.zero_le _⟩ (fun H locs hP hS => ?_)
  refine lv_aload_n hx hb dX1_sellUnits_81 rfl (lv_at hl 4 rfl) ?_
  refine k_gF (i := i) (v := .int (iI ((σ (9 + i) 10) - (u - (mn u (σ (9 + i) 9 - σ (9 + i) 10)))))) hx hb hts hown hF1 hK hP hi 10 (by decide) lf44 dX1_sellUnits_82 rfl (congrArg (fun z => some (Value.int (iI z))) (by simp [fLower, fReceive, up] : (fReceive (up (up (up σ (9 + i) 9 ((σ (9 + i) 9) - u)) (9 + i) 10 ((σ (9 + i) 10) - (u - (mn u (σ (9 + i) 9 - σ (9 + i) 10))))) (9 + i) 3 ((σ (9 + i) 3) - (mn ((u - (mn u (σ (9 + i) 9 - σ (9 + i) 10))) * pr) (σ (9 + i) 3)))) i ((((mn u (σ (9 + i) 9 - σ (9 + i) 10)) * pr) + ((u - (mn u (σ (9 + i) 9 - σ (9 + i) 10))) * pr)) - (mn ((u - (mn u (σ (9 + i) 9 - σ (9 + i) 10))) * pr) (σ (9 + i) 3))) 3) (9 + i) 10 = (σ (9 + i) 10) - (u - (mn u (σ (9 + i) 9 - σ (9 + i) 10))))) ?_
  refine k_if_ne (tgt := 92) hx hb dX1_sellUnits_85 (by decide) (by omega) (fun c_1 => ?_) (fun c_1 => ?_)
  · refine lv_iload_n hx hb dX1_sellUnits_92 rfl (lv_at hl 5 rfl) ?_
    refine k_i2l hx hb dX1_sellUnits_93 (by omega) ?_
    refine lv_iload_n hx hb dX1_sellUnits_94 rfl (lv_at hl 6 rfl) ?_
    refine k_i2l hx hb dX1_sellUnits_95 (by omega) ?_
    refine k_lmul hx hb dX1_sellUnits_96 ?_
    have eF : fReceive (up (up (up σ (9 + i) 9 ((σ (9 + i) 9) - u)) (9 + i) 10 ((σ (9 + i) 10) - (u - (mn u (σ (9 + i) 9 - σ (9 + i) 10))))) (9 + i) 3 ((σ (9 + i) 3) - (mn ((u - (mn u (σ (9 + i) 9 - σ (9 + i) 10))) * pr) (σ (9 + i) 3)))) i ((((mn u (σ (9 + i) 9 - σ (9 + i) 10)) * pr) + ((u - (mn u (σ (9 + i) 9 - σ (9 + i) 10))) * pr)) - (mn ((u - (mn u (σ (9 + i) 9 - σ (9 + i) 10))) * pr) (σ (9 + i) 3))) 3 = fSell σ i u pr := by first | (unfold fSell; rw [if_neg (by unfold fFree; omega)]; rfl) | (unfold fSell; rw [if_pos (by unfold fFree; omega)]; rfl)
    rw [eF] at hP
    have eR : u * pr = u * pr := by rfl
    exact W.lret hx hb hr (fun t ht hW => ⟨⟨_, _, rfl, ⟨by rw [eR], rfl⟩, by rw [ht]; exact hP, va_K.moved hW.alike hK⟩, hS.F ht⟩) hS.2.2 dX1_sellUnits_97
  · refine lv_aload_n hx hb dX1_sellUnits_88 rfl (lv_at hl 4 rfl) ?_
    refine k_cv (As := []) (rest := []) ⟨hx, hb, hml, hown, hts⟩ (c_move l G ad cy hI (fReceive (up (up (up σ (9 + i) 9 ((σ (9 + i) 9) - u)) (9 + i) 10 ((σ (9 + i) 10) - (u - (mn u (σ (9 + i) 9 - σ (9 + i) 10))))) (9 + i) 3 ((σ (9 + i) 3) - (mn ((u - (mn u (σ (9 + i) 9 - σ (9 + i) 10))) * pr) (σ (9 + i) 3)))) i ((((mn u (σ (9 + i) 9 - σ (9 + i) 10)) * pr) + ((u - (mn u (σ (9 + i) 9 - σ (9 + i) 10))) * pr)) - (mn ((u - (mn u (σ (9 + i) 9 - σ (9 + i) 10))) * pr) (σ (9 + i) 3))) 3) i hi) (cwV 0 hts gX1_sellUnits_X1_moveRestOfPledgeDebt rfl rfl rfl (by decide +kernel) ⟨Nat.le_of_ble_eq_true rfl, Nat.le_of_ble_eq_true rfl⟩) (cRecvF hK hP hi) hAc hA hK hP hS rfl hl.1 rfl (Nat.le_of_ble_eq_true rfl) dX1_sellUnits_89 ⟨Nat.zero_le _, Nat.zero_le _⟩ (fun H locs hP hS => ?_)
    refine lv_iload_n hx hb dX1_sellUnits_92 rfl (lv_at hl 5 rfl) ?_
    refine k_i2l hx hb dX1_sellUnits_93 (by omega) ?_
    refine lv_iload_n hx hb dX1_sellUnits_94 rfl (lv_at hl 6 rfl) ?_
    refine k_i2l hx hb dX1_sellUnits_95 (by omega) ?_
    refine k_lmul hx hb dX1_sellUnits_96 ?_
    have eF : fMove (fReceive (up (up (up σ (9 + i) 9 ((σ (9 + i) 9) - u)) (9 + i) 10 ((σ (9 + i) 10) - (u - (mn u (σ (9 + i) 9 - σ (9 + i) 10))))) (9 + i) 3 ((σ (9 + i) 3) - (mn ((u - (mn u (σ (9 + i) 9 - σ (9 + i) 10))) * pr) (σ (9 + i) 3)))) i ((((mn u (σ (9 + i) 9 - σ (9 + i) 10)) * pr) + ((u - (mn u (σ (9 + i) 9 - σ (9 + i) 10))) * pr)) - (mn ((u - (mn u (σ (9 + i) 9 - σ (9 + i) 10))) * pr) (σ (9 + i) 3))) 3) i = fSell σ i u pr := by first | (unfold fSell; rw [if_neg (by unfold fFree; omega)]; rfl) | (unfold fSell; rw [if_pos (by unfold fFree; omega)]; rfl)
    rw [eF] at hP
    have eR : u * pr = u * pr := by rfl
    exact W.lret hx hb hr (fun t ht hW => ⟨⟨_, _, rfl, ⟨by rw [eR], rfl⟩, by rw [ht]; exact hP, va_K.moved hW.alike hK⟩, hS.F ht⟩) hS.2.2 dX1_sellUnits_97
set_option maxHeartbeats 4000000 in
set_option maxRecDepth 100000 in
theorem c_settle (l : Launch) (G : va_G) (ad : Nat → Nat) (cy : Nat → ClassId) (hI : cI ad) (σ : Sg) (i : Nat) (hi : i < 8) (h8 : 0 ≤ σ (9 + i) 8 ∧ σ (9 + i) 8 ≤ 3) (h1 : nB (σ (9 + i) 1)) (h2 : lB (σ (9 + i) 2 + fTakeV (up σ (9 + i) 5 0) i)) : cMv l yX1_settleFromPurse wsX1_settleFromPurse ({ frames := 2, cells := 0, slots := 0, locals := 45 } : Room) G ad cy [.ref (ad (9 + i))] σ (fSettle σ i) := by
  intro sz
  refine Met.ofW (cc := cX1_settleFromPurse) (maxL := 1) (ret := none) (by decide) rfl ?_
  intro p e s m args below meth cd s₁ B hml hv
  obtain ⟨rfl, hsz, hP, hK⟩ := hv
  have hx := B.exec
  have hb := B.bytes
  have hr := B.returns
  have hts := atoms_spec (ws := wsX1_settleFromPurse) B.pre
  have hown : s.vm.findClass RX1 = some m.cls := findClass_of_methodNamed B.named
  have hlocks := B.notSynchronized
  subst hsz
  have hS : va_S (cA ad s.heap.size) s.heap s.heap [] := va_S.rf
  have hA : ∀ q, s.heap.size ≤ q → cA ad s.heap.size q := fun _ h => Or.inr h
  have hAc : ∀ j, j < 33 → cA ad s.heap.size (ad j) := fun j h => Or.inl ⟨j, h, rfl⟩
  have hl := lv_entry ([.ref (ad (9 + i))]) (n := 1) (Nat.le_of_ble_eq_true rfl)
  rw [lg_entry_eq]
  generalize (lg_sl ([.ref (ad (9 + i))]) ++ List.replicate (1 - (lg_sl ([.ref (ad (9 + i))])).length) Slot.unset).toArray = ls at hl ⊢
  have hl : lv_has ls 1 [(0, .ref (ad (9 + i)))] := hl
  have hF1 : ∀ w ∈ wsX10, w ∈ wsX1_settleFromPurse := by decide +kernel
  have lf28 := hts (.fieldLink RX1 28 "HarvestLender$Farmer" "called" "J") (by decide +kernel)
  have lf19 := hts (.fieldLink RX1 19 "HarvestLender$Farmer" "debt" "J") (by decide +kernel)
  have lf15 := hts (.fieldLink RX1 15 "HarvestLender$Farmer" "purse" "J") (by decide +kernel)
  have lm73 := hts (.methodLink RX1 73 Lib.MathLoose.min_long.x) (by decide +kernel)
  have lms73 := hts (.static Lib.MathLoose.min_long.x) (by decide +kernel)
  have lmi := hts (.initialized "java/lang/Math") (by decide +kernel)
  have lmc73 := hts (.code Lib.MathLoose.min_long.x Lib.MathLoose.min_long.code 4 (some .long)) (by decide +kernel)
  refine lv_aload_n hx hb dX1_settleFromPurse_0 rfl (lv_at hl 0 rfl) ?_
  refine k_lconst (v := 0) hx hb dX1_settleFromPurse_1 rfl ?_
  refine k_pFl (i := i) (v := 0) hx hb hts hown hF1 hI hAc hK hP hS hi 5 rfl (by decide) lf28 dX1_settleFromPurse_2 rfl rfl (by decide +kernel) (fun H locs hP hS => ?_)
  refine lv_aload_n hx hb dX1_settleFromPurse_5 rfl (lv_at hl 0 rfl) ?_
  refine lv_dup hx hb dX1_settleFromPurse_6 rfl ?_
  refine k_gF (i := i) (v := .long (iL (σ (9 + i) 2))) hx hb hts hown hF1 hK hP hi 2 (by decide) lf19 dX1_settleFromPurse_7 rfl (congrArg (fun z => some (Value.long (iL z))) (by simp [up] : (up σ (9 + i) 5 0) (9 + i) 2 = σ (9 + i) 2)) ?_
  refine lv_aload_n hx hb dX1_settleFromPurse_10 rfl (lv_at hl 0 rfl) ?_
  refine k_cl (As := []) (rest := [.long (iL (σ (9 + i) 2)), .ref (ad (9 + i))]) ⟨hx, hb, hml, hown, hts⟩ (c_take l G ad cy hI (up σ (9 + i) 5 0) i hi (by simp [up]; omega)) (cwV 0 hts gX1_settleFromPurse_X1_takeInstalment rfl rfl rfl (by decide +kernel) ⟨Nat.le_of_ble_eq_true rfl, Nat.le_of_ble_eq_true rfl⟩) (cRecvF hK hP hi) hAc hA hK hP hS rfl hl.1 rfl (Nat.le_of_ble_eq_true rfl) dX1_settleFromPurse_11 ⟨Nat.zero_le _, Nat.zero_le _⟩ (fun H locs hP hS => ?_)
  refine k_ladd hx hb dX1_settleFromPurse_14 ?_
  refine k_pFl (i := i) (v := (σ (9 + i) 2) + (fTakeV (up σ (9 + i) 5 0) i)) hx hb hts hown hF1 hI hAc hK hP hS hi 2 rfl (by decide) lf19 dX1_settleFromPurse_15 rfl rfl (by decide +kernel) (fun H locs hP hS => ?_)
  refine lv_aload_n hx hb dX1_settleFromPurse_18 rfl (lv_at hl 0 rfl) ?_
  refine lv_aload_n hx hb dX1_settleFromPurse_19 rfl (lv_at hl 0 rfl) ?_
  refine k_gF (i := i) (v := .long (iL ((σ (9 + i) 2) + (fTakeV (up σ (9 + i) 5 0) i)))) hx hb hts hown hF1 hK hP hi 2 (by decide) lf19 dX1_settleFromPurse_20 rfl (congrArg (fun z => some (Value.long (iL z))) (by simp [up] : (up (fTake (up σ (9 + i) 5 0) i) (9 + i) 2 ((σ (9 + i) 2) + (fTakeV (up σ (9 + i) 5 0) i))) (9 + i) 2 = (σ (9 + i) 2) + (fTakeV (up σ (9 + i) 5 0) i))) ?_
  refine lv_aload_n hx hb dX1_settleFromPurse_23 rfl (lv_at hl 0 rfl) ?_
  refine k_gF (i := i) (v := .long (iL (σ (9 + i) 1))) hx hb hts hown hF1 hK hP hi 1 (by decide) lf15 dX1_settleFromPurse_24 rfl (congrArg (fun z => some (Value.long (iL z))) (by simp [fTake_o, up] : (up (fTake (up σ (9 + i) 5 0) i) (9 + i) 2 ((σ (9 + i) 2) + (fTakeV (up σ (9 + i) 5 0) i))) (9 + i) 1 = σ (9 + i) 1)) ?_
  refine k_mminl hx hb (hml.trans hl.1.symm) hown lm73 lms73 lmi lmc73 (Nat.le_of_ble_eq_true rfl) (Nat.le_of_ble_eq_true rfl) (Nat.zero_le _) (Nat.zero_le _) (by omega) (by omega) dX1_settleFromPurse_27 ?_
  refine k_cv (As := [.long (iL (mn ((σ (9 + i) 2) + (fTakeV (up σ (9 + i) 5 0) i)) (σ (9 + i) 1)))]) (rest := []) ⟨hx, hb, hml, hown, hts⟩ (c_repay l G ad cy hI (up (fTake (up σ (9 + i) 5 0) i) (9 + i) 2 ((σ (9 + i) 2) + (fTakeV (up σ (9 + i) 5 0) i))) i hi (mn ((σ (9 + i) 2) + (fTakeV (up σ (9 + i) 5 0) i)) (σ (9 + i) 1))) (cwV 1 hts gX1_settleFromPurse_X1_repayFromPurse rfl rfl rfl (by decide +kernel) ⟨Nat.le_of_ble_eq_true rfl, Nat.le_of_ble_eq_true rfl⟩) (cRecvF hK hP hi) hAc hA hK hP hS rfl hl.1 rfl (Nat.le_of_ble_eq_true rfl) dX1_settleFromPurse_30 ⟨Nat.zero_le _, Nat.zero_le _⟩ (fun H locs hP hS => ?_)
  have eF : fRepay (up (fTake (up σ (9 + i) 5 0) i) (9 + i) 2 ((σ (9 + i) 2) + (fTakeV (up σ (9 + i) 5 0) i))) i (mn ((σ (9 + i) 2) + (fTakeV (up σ (9 + i) 5 0) i)) (σ (9 + i) 1)) = fSettle σ i := by first | rfl | (simp only [fSettle, fSettle0, up_s]; done) | (simp only [fSettle, fSettle0, up_s]; repeat' split) <;> first | rfl | (exfalso; omega) | omega
  rw [eF] at hP
  exact W.vret hx hb hr (fun t ht hW => ⟨⟨_, rfl, rfl, by rw [ht]; exact hP, va_K.moved hW.alike hK⟩, hS.F ht⟩) hS.2.2 dX1_settleFromPurse_33
set_option maxHeartbeats 4000000 in
set_option maxRecDepth 100000 in
theorem c_payFor (l : Launch) (G : va_G) (ad : Nat → Nat) (cy : Nat → ClassId) (hI : cI ad) (σ : Sg) (i : Nat) (hi : i < 8) (j : Nat) (hj : j < 8) (h2 : nB (σ (9 + j) 2)) (h1 : nB (σ (9 + i) 1)) (h5 : nB (σ (9 + i) 5)) : cMv l yX1_payFor wsX1_payFor ({ frames := 1, cells := 0, slots := 0, locals := 23 } : Room) G ad cy [.ref (ad (9 + i)), .ref (ad (9 + j))] σ (fPay σ i j) := by
  intro sz
  refine Met.ofW (cc := cX1_payFor) (maxL := 4) (ret := none) (by decide) rfl ?_
  intro p e s m args below meth cd s₁ B hml hv
  obtain ⟨rfl, hsz, hP, hK⟩ := hv
  have hx := B.exec
  have hb := B.bytes
  have hr := B.returns
  have hts := atoms_spec (ws := wsX1_payFor) B.pre
  have hown : s.vm.findClass RX1 = some m.cls := findClass_of_methodNamed B.named
  have hlocks := B.notSynchronized
  subst hsz
  have hS : va_S (cA ad s.heap.size) s.heap s.heap [] := va_S.rf
  have hA : ∀ q, s.heap.size ≤ q → cA ad s.heap.size q := fun _ h => Or.inr h
  have hAc : ∀ j, j < 33 → cA ad s.heap.size (ad j) := fun j h => Or.inl ⟨j, h, rfl⟩
  have hl := lv_entry ([.ref (ad (9 + i)), .ref (ad (9 + j))]) (n := 4) (Nat.le_of_ble_eq_true rfl)
  rw [lg_entry_eq]
  generalize (lg_sl ([.ref (ad (9 + i)), .ref (ad (9 + j))]) ++ List.replicate (4 - (lg_sl ([.ref (ad (9 + i)), .ref (ad (9 + j))])).length) Slot.unset).toArray = ls at hl ⊢
  have hl : lv_has ls 4 [(0, .ref (ad (9 + i))), (1, .ref (ad (9 + j)))] := hl
  have hF1 : ∀ w ∈ wsX10, w ∈ wsX1_payFor := by decide +kernel
  have lf19 := hts (.fieldLink RX1 19 "HarvestLender$Farmer" "debt" "J") (by decide +kernel)
  have lf15 := hts (.fieldLink RX1 15 "HarvestLender$Farmer" "purse" "J") (by decide +kernel)
  have lc119 := hts (.constantLong RX1 119 (20000)) (by decide +kernel)
  have lf28 := hts (.fieldLink RX1 28 "HarvestLender$Farmer" "called" "J") (by decide +kernel)
  have lm73 := hts (.methodLink RX1 73 Lib.MathLoose.min_long.x) (by decide +kernel)
  have lms73 := hts (.static Lib.MathLoose.min_long.x) (by decide +kernel)
  have lmi := hts (.initialized "java/lang/Math") (by decide +kernel)
  have lmc73 := hts (.code Lib.MathLoose.min_long.x Lib.MathLoose.min_long.code 4 (some .long)) (by decide +kernel)
  have m1 := mn_le1 (σ (9 + i) 1) (20000 - σ (9 + i) 5)
  have m2 := mn_ge (σ (9 + i) 1) (20000 - σ (9 + i) 5) (-2147500000) (by omega) (by omega)
  refine lv_aload_n hx hb dX1_payFor_0 rfl (lv_at hl 1 rfl) ?_
  refine k_gF (i := j) (v := .long (iL (σ (9 + j) 2))) hx hb hts hown hF1 hK hP hj 2 (by decide) lf19 dX1_payFor_1 rfl rfl ?_
  refine lv_aload_n hx hb dX1_payFor_4 rfl (lv_at hl 0 rfl) ?_
  refine k_gF (i := i) (v := .long (iL (σ (9 + i) 1))) hx hb hts hown hF1 hK hP hi 1 (by decide) lf15 dX1_payFor_5 rfl rfl ?_
  refine k_ldc2 hx hb (20000) hown lc119 (by decide) dX1_payFor_8 ?_
  refine lv_aload_n hx hb dX1_payFor_11 rfl (lv_at hl 0 rfl) ?_
  refine k_gF (i := i) (v := .long (iL (σ (9 + i) 5))) hx hb hts hown hF1 hK hP hi 5 (by decide) lf28 dX1_payFor_12 rfl rfl ?_
  refine k_lsub hx hb dX1_payFor_15 ?_
  refine k_mminl hx hb (hml.trans hl.1.symm) hown lm73 lms73 lmi lmc73 (Nat.le_of_ble_eq_true rfl) (Nat.le_of_ble_eq_true rfl) (Nat.zero_le _) (Nat.zero_le _) (by omega) (by omega) dX1_payFor_16 ?_
  refine k_mminl hx hb (hml.trans hl.1.symm) hown lm73 lms73 lmi lmc73 (Nat.le_of_ble_eq_true rfl) (Nat.le_of_ble_eq_true rfl) (Nat.zero_le _) (Nat.zero_le _) (by omega) (by omega) dX1_payFor_19 ?_
  refine lv_lstore_n (lv' := [(2, .long (iL (mn (σ (9 + j) 2) (mn (σ (9 + i) 1) (20000 - (σ (9 + i) 5)))))), (0, .ref (ad (9 + i))), (1, .ref (ad (9 + j)))]) hx hb dX1_payFor_22 rfl hl (by decide) rfl (fun ls hl => ?_)
  refine lv_aload_n hx hb dX1_payFor_23 rfl (lv_at hl 1 rfl) ?_
  refine lv_dup hx hb dX1_payFor_24 rfl ?_
  refine k_gF (i := i) (v := .long (iL (σ (9 + i) 1))) hx hb hts hown hF1 hK hP hi 1 (by decide) lf15 dX1_payFor_25 rfl rfl ?_
  refine lv_lload_n hx hb dX1_payFor_28 rfl (lv_at hl 0 rfl) ?_
  refine k_lsub hx hb dX1_payFor_29 ?_
  refine k_pFl (i := i) (v := (σ (9 + i) 1) - (mn (σ (9 + j) 2) (mn (σ (9 + i) 1) (20000 - (σ (9 + i) 5))))) hx hb hts hown hF1 hI hAc hK hP hS hi 1 rfl (by decide) lf15 dX1_payFor_30 rfl rfl (by decide +kernel) (fun H locs hP hS => ?_)
  refine lv_aload_n hx hb dX1_payFor_33 rfl (lv_at hl 1 rfl) ?_
  refine lv_dup hx hb dX1_payFor_34 rfl ?_
  refine k_gF (i := i) (v := .long (iL (σ (9 + i) 5))) hx hb hts hown hF1 hK hP hi 5 (by decide) lf28 dX1_payFor_35 rfl (congrArg (fun z => some (Value.long (iL z))) (by simp [up] : (up σ (9 + i) 1 ((σ (9 + i) 1) - (mn (σ (9 + j) 2) (mn (σ (9 + i) 1) (20000 - (σ (9 + i) 5)))))) (9 + i) 5 = σ (9 + i) 5)) ?_
  refine lv_lload_n hx hb dX1_payFor_38 rfl (lv_at hl 0 rfl) ?_
  refine k_ladd hx hb dX1_payFor_39 ?_
  refine k_pFl (i := i) (v := (σ (9 + i) 5) + (mn (σ (9 + j) 2) (mn (σ (9 + i) 1) (20000 - (σ (9 + i) 5))))) hx hb hts hown hF1 hI hAc hK hP hS hi 5 rfl (by decide) lf28 dX1_payFor_40 rfl rfl (by decide +kernel) (fun H locs hP hS => ?_)
  refine lv_aload_n hx hb dX1_payFor_43 rfl (lv_at hl 2 rfl) ?_
  refine lv_lload_n hx hb dX1_payFor_44 rfl (lv_at hl 0 rfl) ?_
  refine k_iconst hx hb dX1_payFor_45 ?_
  refine k_cv (As := [.long (iL (mn (σ (9 + j) 2) (mn (σ (9 + i) 1) (20000 - (σ (9 + i) 5))))), .int (iI 4)]) (rest := []) ⟨hx, hb, hml, hown, hts⟩ (c_lower l G ad cy hI (up (up σ (9 + i) 1 ((σ (9 + i) 1) - (mn (σ (9 + j) 2) (mn (σ (9 + i) 1) (20000 - (σ (9 + i) 5)))))) (9 + i) 5 ((σ (9 + i) 5) + (mn (σ (9 + j) 2) (mn (σ (9 + i) 1) (20000 - (σ (9 + i) 5)))))) j hj (mn (σ (9 + j) 2) (mn (σ (9 + i) 1) (20000 - (σ (9 + i) 5)))) 4 (by decide)) (cwV 2 hts gX1_payFor_X1_lowerDebt rfl rfl rfl (by decide +kernel) ⟨Nat.le_of_ble_eq_true rfl, Nat.le_of_ble_eq_true rfl⟩) (cRecvF hK hP hj) hAc hA hK hP hS rfl hl.1 rfl (Nat.le_of_ble_eq_true rfl) dX1_payFor_46 ⟨Nat.zero_le _, Nat.zero_le _⟩ (fun H locs hP hS => ?_)
  have eF : fLower (up (up σ (9 + i) 1 ((σ (9 + i) 1) - (mn (σ (9 + j) 2) (mn (σ (9 + i) 1) (20000 - (σ (9 + i) 5)))))) (9 + i) 5 ((σ (9 + i) 5) + (mn (σ (9 + j) 2) (mn (σ (9 + i) 1) (20000 - (σ (9 + i) 5)))))) j (mn (σ (9 + j) 2) (mn (σ (9 + i) 1) (20000 - (σ (9 + i) 5)))) 4 = fPay σ i j := by first | rfl | (simp only [fPay, fPayC, up_s]; done) | (simp only [fPay, fPayC, up_s]; repeat' split) <;> first | rfl | (exfalso; omega) | omega
  rw [eF] at hP
  exact W.vret hx hb hr (fun t ht hW => ⟨⟨_, rfl, rfl, by rw [ht]; exact hP, va_K.moved hW.alike hK⟩, hS.F ht⟩) hS.2.2 dX1_payFor_49
set_option maxHeartbeats 4000000 in
set_option maxRecDepth 100000 in
theorem c_roll (l : Launch) (G : va_G) (ad : Nat → Nat) (cy : Nat → ClassId) (hI : cI ad) (σ : Sg) (i : Nat) (hi : i < 8) (h2 : 0 ≤ σ (9 + i) 2 ∧ σ (9 + i) 2 ≤ 2147483647) : cMv l yX1_rollDebt wsX1_rollDebt ({ frames := 0, cells := 0, slots := 0, locals := 0 } : Room) G ad cy [.ref (ad (9 + i))] σ (fRoll σ i) := by
  intro sz
  refine Met.ofW (cc := cX1_rollDebt) (maxL := 4) (ret := none) (by decide) rfl ?_
  intro p e s m args below meth cd s₁ B hml hv
  obtain ⟨rfl, hsz, hP, hK⟩ := hv
  have hx := B.exec
  have hb := B.bytes
  have hr := B.returns
  have hts := atoms_spec (ws := wsX1_rollDebt) B.pre
  have hown : s.vm.findClass RX1 = some m.cls := findClass_of_methodNamed B.named
  have hlocks := B.notSynchronized
  subst hsz
  have hS : va_S (cA ad s.heap.size) s.heap s.heap [] := va_S.rf
  have hA : ∀ q, s.heap.size ≤ q → cA ad s.heap.size q := fun _ h => Or.inr h
  have hAc : ∀ j, j < 33 → cA ad s.heap.size (ad j) := fun j h => Or.inl ⟨j, h, rfl⟩
  have hl := lv_entry ([.ref (ad (9 + i))]) (n := 4) (Nat.le_of_ble_eq_true rfl)
  rw [lg_entry_eq]
  generalize (lg_sl ([.ref (ad (9 + i))]) ++ List.replicate (4 - (lg_sl ([.ref (ad (9 + i))])).length) Slot.unset).toArray = ls at hl ⊢
  have hl : lv_has ls 4 [(0, .ref (ad (9 + i)))] := hl
  have hF1 : ∀ w ∈ wsX10, w ∈ wsX1_rollDebt := by decide +kernel
  have lf35 := hts (.fieldLink RX1 35 "HarvestLender$Farmer" "instalments" "[J") (by decide +kernel)
  have lf19 := hts (.fieldLink RX1 19 "HarvestLender$Farmer" "debt" "J") (by decide +kernel)
  have lc65 := hts (.constantLong RX1 65 (2)) (by decide +kernel)
  have lf38 := hts (.fieldLink RX1 38 "HarvestLender$Farmer" "instalmentsLeft" "I") (by decide +kernel)
  have lc117 := hts (.constantLong RX1 117 (3)) (by decide +kernel)
  have loop : ∀ (d k : Nat), k ≤ 3 → 3 < k + d → ∀ (H : Heap) (locs : List Loc) (ls : Array Slot), va_P G vwCl (cW ad cy (fParts σ i k)) H → va_S (cA ad s.heap.size) s.heap H locs → lv_has ls 4 [(0, .ref (ad (9 + i))), (1, .long (iL (σ (9 + i) 2 / 3))), (3, .int (iI (k : Int)))] → W p l e (headSpec wsX1_rollDebt ({ frames := 0, cells := 0, slots := 0, locals := 0 } : Room)).room s m ([.ref (ad (9 + i))] : List Value).toArray below meth cd H locs 0 0 (MQ below (va_Qv (fun u : Sg => u = fRoll σ i) (cB G ad cy) (cA ad s.heap.size)) ([.ref (ad (9 + i))] : List Value).toArray s 0 0 (cA ad s.heap.size)) (F0 m 11 ls []) := by
    intro d
    induction d with
    | zero => intro k h1 h2; exact absurd h2 (by omega)
    | succ d ih =>
      intro k hk hd  H locs ls hP hS hl
      refine lv_iload_n hx hb dX1_rollDebt_11 rfl (lv_at hl 2 rfl) ?_
      refine k_iconst hx hb dX1_rollDebt_12 ?_
      refine k_icmp_ge (tgt := 29) hx hb dX1_rollDebt_13 (by decide) (by omega) (by decide) (fun c_1 => ?_) (fun c_1 => ?_)
      · rw [show fParts σ i k = fParts σ i 3 by rw [show k = 3 by omega]] at hP
        refine lv_aload_n hx hb dX1_rollDebt_29 rfl (lv_at hl 0 rfl) ?_
        refine k_gF (i := i) (v := .ref (ad (25 + i))) hx hb hts hown hF1 hK hP hi 7 (by decide) lf35 dX1_rollDebt_30 rfl rfl ?_
        refine k_iconst hx hb dX1_rollDebt_33 ?_
        refine lv_aload_n hx hb dX1_rollDebt_34 rfl (lv_at hl 0 rfl) ?_
        refine k_gF (i := i) (v := .long (iL (σ (9 + i) 2))) hx hb hts hown hF1 hK hP hi 2 (by decide) lf19 dX1_rollDebt_35 rfl (congrArg (fun z => some (Value.long (iL z))) (by simp [fParts, up] : (fParts σ i 3) (9 + i) 2 = σ (9 + i) 2)) ?_
        refine lv_lload_n hx hb dX1_rollDebt_38 rfl (lv_at hl 1 rfl) ?_
        refine k_ldc2 hx hb (2) hown lc65 (by decide) dX1_rollDebt_39 ?_
        refine k_lmul hx hb dX1_rollDebt_42 ?_
        refine k_lsub hx hb dX1_rollDebt_43 ?_
        refine k_tstN (i := i) (x := 2) (v := (σ (9 + i) 2) - ((σ (9 + i) 2 / 3) * 2)) hx hb hI hAc hK hP hS hi (by omega) dX1_rollDebt_44 (fun H locs hP hS => ?_)
        refine lv_aload_n hx hb dX1_rollDebt_45 rfl (lv_at hl 0 rfl) ?_
        refine k_iconst hx hb dX1_rollDebt_46 ?_
        refine k_pFi (i := i) (v := 3) hx hb hts hown hF1 hI hAc hK hP hS hi 8 rfl (by decide) lf38 dX1_rollDebt_47 rfl rfl (by decide +kernel) (fun H locs hP hS => ?_)
        refine lv_aload_n hx hb dX1_rollDebt_50 rfl (lv_at hl 0 rfl) ?_
        refine k_lconst (v := 0) hx hb dX1_rollDebt_51 rfl ?_
        refine k_pFl (i := i) (v := 0) hx hb hts hown hF1 hI hAc hK hP hS hi 2 rfl (by decide) lf19 dX1_rollDebt_52 rfl rfl (by decide +kernel) (fun H locs hP hS => ?_)
        have eF : up (up (up (fParts σ i 3) (25 + i) 2 ((σ (9 + i) 2) - ((σ (9 + i) 2 / 3) * 2))) (9 + i) 8 3) (9 + i) 2 0 = fRoll σ i := by first | rfl | (simp only [fRoll, up_s]; done) | (simp only [fRoll, up_s]; repeat' split) <;> first | rfl | (exfalso; omega) | omega
        rw [eF] at hP
        exact W.vret hx hb hr (fun t ht hW => ⟨⟨_, rfl, rfl, by rw [ht]; exact hP, va_K.moved hW.alike hK⟩, hS.F ht⟩) hS.2.2 dX1_rollDebt_55
      · refine lv_aload_n hx hb dX1_rollDebt_16 rfl (lv_at hl 0 rfl) ?_
        refine k_gF (i := i) (v := .ref (ad (25 + i))) hx hb hts hown hF1 hK hP hi 7 (by decide) lf35 dX1_rollDebt_17 rfl rfl ?_
        refine lv_iload_n hx hb dX1_rollDebt_20 rfl (lv_at hl 2 rfl) ?_
        refine lv_lload_n hx hb dX1_rollDebt_21 rfl (lv_at hl 1 rfl) ?_
        refine k_tstN (i := i) (x := k) (v := σ (9 + i) 2 / 3) hx hb hI hAc hK hP hS hi (by omega) dX1_rollDebt_22 (fun H locs hP hS => ?_)
        refine lv_iinc (v := iI ((k : Int) + 1)) (lv' := [(3, .int (iI ((k : Int) + 1))), (0, .ref (ad (9 + i))), (1, .long (iL (σ (9 + i) 2 / 3)))]) hx hb dX1_rollDebt_23 hl (k := 2) rfl (iI_add _ _) (by decide) rfl (fun ls hl => ?_)
        refine lv_goto (tgt := 11) hx hb dX1_rollDebt_26 (by decide) ?_
        have q2 : up (fParts σ i k) (25 + i) k (σ (9 + i) 2 / 3) = fParts σ i (k + 1) := by rfl
        rw [q2] at hP
        exact ih (k + 1) (by omega) (by omega)  _ _ _ hP hS (lv_sub hl [1, 2, 0] rfl)
  refine lv_aload_n hx hb dX1_rollDebt_0 rfl (lv_at hl 0 rfl) ?_
  refine k_gF (i := i) (v := .long (iL (σ (9 + i) 2))) hx hb hts hown hF1 hK hP hi 2 (by decide) lf19 dX1_rollDebt_1 rfl rfl ?_
  refine k_ldc2 hx hb (3) hown lc117 (by decide) dX1_rollDebt_4 ?_
  refine k_ldiv hx hb dX1_rollDebt_7 (by omega) (by omega) (by decide) (by decide) ?_
  refine lv_lstore_n (lv' := [(1, .long (iL ((σ (9 + i) 2) / 3))), (0, .ref (ad (9 + i)))]) hx hb dX1_rollDebt_8 rfl hl (by decide) rfl (fun ls hl => ?_)
  refine k_iconst hx hb dX1_rollDebt_9 ?_
  refine lv_istore_n (lv' := [(3, .int (iI 0)), (1, .long (iL ((σ (9 + i) 2) / 3))), (0, .ref (ad (9 + i)))]) hx hb dX1_rollDebt_10 rfl hl (by decide) rfl (fun ls hl => ?_)
  have q3 : σ (9 + i) 2 / 3 = (σ (9 + i) 2) / 3 := by rfl
  have q4 : σ = fParts σ i 0 := by rfl
  rw [q4] at hP
  exact loop (3 + 1) 0 (Nat.zero_le _) (by omega)  _ _ _ hP hS (by rw [q3]; exact lv_sub hl [2, 1, 0] rfl)
set_option maxHeartbeats 4000000 in
set_option maxRecDepth 100000 in
theorem c_sum (l : Launch) (G : va_G) (ad : Nat → Nat) (cy : Nat → ClassId) (hI : cI ad) (σ : Sg) (i : Nat) (hi : i < 8) (h8 : 0 ≤ σ (9 + i) 8 ∧ σ (9 + i) 8 ≤ 3) : cMl l yX1_instalmentSum wsX1_instalmentSum ({ frames := 0, cells := 0, slots := 0, locals := 0 } : Room) G ad cy [.ref (ad (9 + i))] σ (fSum σ i 3) σ := by
  intro sz
  refine Met.ofW (cc := cX1_instalmentSum) (maxL := 4) (ret := (some .long)) (by decide) rfl ?_
  intro p e s m args below meth cd s₁ B hml hv
  obtain ⟨rfl, hsz, hP, hK⟩ := hv
  have hx := B.exec
  have hb := B.bytes
  have hr := B.returns
  have hts := atoms_spec (ws := wsX1_instalmentSum) B.pre
  have hown : s.vm.findClass RX1 = some m.cls := findClass_of_methodNamed B.named
  have hlocks := B.notSynchronized
  subst hsz
  have hS : va_S (cA ad s.heap.size) s.heap s.heap [] := va_S.rf
  have hA : ∀ q, s.heap.size ≤ q → cA ad s.heap.size q := fun _ h => Or.inr h
  have hAc : ∀ j, j < 33 → cA ad s.heap.size (ad j) := fun j h => Or.inl ⟨j, h, rfl⟩
  have hl := lv_entry ([.ref (ad (9 + i))]) (n := 4) (Nat.le_of_ble_eq_true rfl)
  rw [lg_entry_eq]
  generalize (lg_sl ([.ref (ad (9 + i))]) ++ List.replicate (4 - (lg_sl ([.ref (ad (9 + i))])).length) Slot.unset).toArray = ls at hl ⊢
  have hl : lv_has ls 4 [(0, .ref (ad (9 + i)))] := hl
  have hF1 : ∀ w ∈ wsX10, w ∈ wsX1_instalmentSum := by decide +kernel
  have lf38 := hts (.fieldLink RX1 38 "HarvestLender$Farmer" "instalmentsLeft" "I") (by decide +kernel)
  have lf35 := hts (.fieldLink RX1 35 "HarvestLender$Farmer" "instalments" "[J") (by decide +kernel)
  have loop : ∀ (d k : Nat), k ≤ 3 → 3 < k + d → ∀ (H : Heap) (locs : List Loc) (ls : Array Slot), va_P G vwCl (cW ad cy σ) H → va_S (cA ad s.heap.size) s.heap H locs → lv_has ls 4 [(0, .ref (ad (9 + i))), (1, .long (iL (fSum σ i k))), (3, .int (iI (k : Int)))] → W p l e (headSpec wsX1_instalmentSum ({ frames := 0, cells := 0, slots := 0, locals := 0 } : Room)).room s m ([.ref (ad (9 + i))] : List Value).toArray below meth cd H locs 0 0 (MQ below (va_Ql (fun (v : Int64) (u : Sg) => v = iL (fSum σ i 3) ∧ u = σ) (cB G ad cy) (cA ad s.heap.size)) ([.ref (ad (9 + i))] : List Value).toArray s 0 0 (cA ad s.heap.size)) (F0 m 4 ls []) := by
    intro d
    induction d with
    | zero => intro k h1 h2; exact absurd h2 (by omega)
    | succ d ih =>
      intro k hk hd  H locs ls hP hS hl
      refine lv_iload_n hx hb dX1_instalmentSum_4 rfl (lv_at hl 2 rfl) ?_
      refine k_iconst hx hb dX1_instalmentSum_5 ?_
      refine k_icmp_ge (tgt := 34) hx hb dX1_instalmentSum_6 (by decide) (by omega) (by decide) (fun c_1 => ?_) (fun c_1 => ?_)
      · refine lv_lload_n hx hb dX1_instalmentSum_34 rfl (lv_at hl 1 rfl) ?_
        have eR : fSum σ i k = fSum σ i 3 := by (rw [show k = 3 by omega])
        exact W.lret hx hb hr (fun t ht hW => ⟨⟨_, _, rfl, ⟨by rw [eR], rfl⟩, by rw [ht]; exact hP, va_K.moved hW.alike hK⟩, hS.F ht⟩) hS.2.2 dX1_instalmentSum_35
      · refine lv_iload_n hx hb dX1_instalmentSum_9 rfl (lv_at hl 2 rfl) ?_
        refine k_iconst hx hb dX1_instalmentSum_10 ?_
        refine lv_aload_n hx hb dX1_instalmentSum_11 rfl (lv_at hl 0 rfl) ?_
        refine k_gF (i := i) (v := .int (iI (σ (9 + i) 8))) hx hb hts hown hF1 hK hP hi 8 (by decide) lf38 dX1_instalmentSum_12 rfl rfl ?_
        refine k_isub hx hb dX1_instalmentSum_15 ?_
        refine k_icmp_lt (tgt := 28) hx hb dX1_instalmentSum_16 (by decide) (by omega) (by omega) (fun c_2 => ?_) (fun c_2 => ?_)
        · refine lv_iinc (v := iI ((k : Int) + 1)) (lv' := [(3, .int (iI ((k : Int) + 1))), (0, .ref (ad (9 + i))), (1, .long (iL (fSum σ i k)))]) hx hb dX1_instalmentSum_28 hl (k := 2) rfl (iI_add _ _) (by decide) rfl (fun ls hl => ?_)
          refine lv_goto (tgt := 4) hx hb dX1_instalmentSum_31 (by decide) ?_
          have q3 : fSum σ i (k + 1) = fSum σ i k := by first | rfl | (simp only [fSum]; split <;> omega)
          exact ih (k + 1) (by omega) (by omega)  _ _ _ hP hS (by rw [q3]; exact lv_sub hl [1, 2, 0] rfl)
        · refine lv_lload_n hx hb dX1_instalmentSum_19 rfl (lv_at hl 1 rfl) ?_
          refine lv_aload_n hx hb dX1_instalmentSum_20 rfl (lv_at hl 0 rfl) ?_
          refine k_gF (i := i) (v := .ref (ad (25 + i))) hx hb hts hown hF1 hK hP hi 7 (by decide) lf35 dX1_instalmentSum_21 rfl rfl ?_
          refine lv_iload_n hx hb dX1_instalmentSum_24 rfl (lv_at hl 2 rfl) ?_
          refine k_tldN (i := i) (x := k) hx hb hK hP hi (by omega) dX1_instalmentSum_25 ?_
          refine k_ladd hx hb dX1_instalmentSum_26 ?_
          refine lv_lstore_n (lv' := [(1, .long (iL ((fSum σ i k) + (σ (25 + i) k)))), (0, .ref (ad (9 + i))), (3, .int (iI (k : Int)))]) hx hb dX1_instalmentSum_27 rfl hl (by decide) rfl (fun ls hl => ?_)
          refine lv_iinc (v := iI ((k : Int) + 1)) (lv' := [(3, .int (iI ((k : Int) + 1))), (1, .long (iL ((fSum σ i k) + (σ (25 + i) k)))), (0, .ref (ad (9 + i)))]) hx hb dX1_instalmentSum_28 hl (k := 2) rfl (iI_add _ _) (by decide) rfl (fun ls hl => ?_)
          refine lv_goto (tgt := 4) hx hb dX1_instalmentSum_31 (by decide) ?_
          have q4 : fSum σ i (k + 1) = (fSum σ i k) + (σ (25 + i) k) := by first | rfl | (simp only [fSum]; split <;> omega)
          exact ih (k + 1) (by omega) (by omega)  _ _ _ hP hS (by rw [q4]; exact lv_sub hl [2, 1, 0] rfl)
  refine k_lconst (v := 0) hx hb dX1_instalmentSum_0 rfl ?_
  refine lv_lstore_n (lv' := [(1, .long (iL 0)), (0, .ref (ad (9 + i)))]) hx hb dX1_instalmentSum_1 rfl hl (by decide) rfl (fun ls hl => ?_)
  refine k_iconst hx hb dX1_instalmentSum_2 ?_
  refine lv_istore_n (lv' := [(3, .int (iI 0)), (1, .long (iL 0)), (0, .ref (ad (9 + i)))]) hx hb dX1_instalmentSum_3 rfl hl (by decide) rfl (fun ls hl => ?_)
  have q5 : fSum σ i 0 = 0 := by first | rfl | (simp only [fSum]; split <;> omega)
  exact loop (3 + 1) 0 (Nat.zero_le _) (by omega)  _ _ _ hP hS (by rw [q5]; exact lv_sub hl [2, 1, 0] rfl)
end
section
/-! exceptions over the class's world -/
def nIO : String := "java/lang/IndexOutOfBoundsException"
def nIA : String := "java/lang/IllegalArgumentException"
def nIS : String := "java/lang/IllegalStateException"
abbrev nUp : List String := ["java/lang/RuntimeException", "java/lang/Exception"]
/-- which exception a number stands for -/
def xN (k : Nat) (E : String) : Prop := (k = 1 ∧ E = nIO) ∨ (k = 2 ∧ E = nIA) ∨ (k = 3 ∧ E = nIS)
theorem xN_ne {k : Nat} {E : String} (h : xN k E) : k ≠ 0 := by rcases h with ⟨rfl, _⟩ | ⟨rfl, _⟩ | ⟨rfl, _⟩ <;> decide
/-- the words of a throw that a callee can't take out of its own list -/
def xB : List Cond := [.castable nIO nIO, .castable nIA nIA, .castable nIS nIS, .declares ⟨"java/lang/RuntimeException", "<init>", "()V"⟩, .declares ⟨"java/lang/RuntimeException", "<init>", "(Ljava/lang/String;)V"⟩, .declares ⟨"java/lang/Exception", "<init>", "()V"⟩, .declares ⟨"java/lang/Exception", "<init>", "(Ljava/lang/String;)V"⟩, .declares ⟨"java/lang/Throwable", "<init>", "()V"⟩, .declares ⟨"java/lang/Throwable", "<init>", "(Ljava/lang/String;)V"⟩]
def xSt : List (Nat × String) := [(173, "no such crop"), (39, "no such stage"), (177, "out of range"), (59, "no such group"), (182, "not allowed now"), (171, "no such farmer")]
def xE (A : Nat → Prop) (U : State) (H : Heap) : Prop := (vx_Zq Bundle.tN "UNASSIGNED_STACK" Bundle.steD A U H ∧ vx_Zq Bundle.tN "SUPPRESSED_SENTINEL" Bundle.listD A U H) ∧ (∀ w ∈ xB, va_Nw w U) ∧ ∀ q ∈ xSt, ∃ a, vk_R RX2 q.1 q.2 a U
theorem xB_warm {s U : State} (hW : s.WarmedH U.vm) (h : ∀ w ∈ xB, va_Nw w s) : ∀ w ∈ xB, va_Nw w U := by
  simp only [xB, List.forall_mem_cons] at h ⊢
  obtain ⟨h1, h2, h3, h4, h5, h6, h7, h8, h9, -⟩ := h
  exact ⟨va_Nw.warmC hW h1, va_Nw.warmC hW h2, va_Nw.warmC hW h3, va_Nw.warmD hW h4, va_Nw.warmD hW h5, va_Nw.warmD hW h6, va_Nw.warmD hW h7, va_Nw.warmD hW h8, va_Nw.warmD hW h9, fun _ h => absurd h List.not_mem_nil⟩
theorem xB_same {s U : State} (hv : s.vm = U.vm) (h : ∀ w ∈ xB, va_Nw w s) : ∀ w ∈ xB, va_Nw w U := by
  simp only [xB, List.forall_mem_cons] at h ⊢
  obtain ⟨h1, h2, h3, h4, h5, h6, h7, h8, h9, -⟩ := h
  exact ⟨va_Nw.same rfl hv h1, va_Nw.same rfl hv h2, va_Nw.same rfl hv h3, va_Nw.same rfl hv h4, va_Nw.same rfl hv h5, va_Nw.same rfl hv h6, va_Nw.same rfl hv h7, va_Nw.same rfl hv h8, va_Nw.same rfl hv h9, fun _ h => absurd h List.not_mem_nil⟩
theorem xB_use {s : State} {args : Array Value} (h : ∀ w ∈ xB, va_Nw w s) : ∀ w ∈ xB, w.before args s = true := by
  simp only [xB, List.forall_mem_cons] at h ⊢
  obtain ⟨h1, h2, h3, h4, h5, h6, h7, h8, h9, -⟩ := h
  exact ⟨va_Nw.use rfl h1, va_Nw.use rfl h2, va_Nw.use rfl h3, va_Nw.use rfl h4, va_Nw.use rfl h5, va_Nw.use rfl h6, va_Nw.use rfl h7, va_Nw.use rfl h8, va_Nw.use rfl h9, fun _ h => absurd h List.not_mem_nil⟩
theorem xE_to {A B : Nat → Prop} {s U : State} {H : Heap} {locs : List Loc} (h : xE A s s.heap) (hS : va_S A s.heap H locs) (hB : ∀ q, B q → A q) (hU : U.heap = H) (hW : s.WarmedH U.vm) : xE B U U.heap := by
  obtain ⟨⟨h1, h2⟩, h3, h4⟩ := h
  rw [hU]
  exact ⟨⟨((h1.kept hS.2.1).narrow hB).moved hW.alike, ((h2.kept hS.2.1).narrow hB).moved hW.alike⟩, xB_warm hW h3, fun q hq => by obtain ⟨a, ha⟩ := h4 q hq; exact ⟨a, ha.warm hW⟩⟩
theorem xE_blind {B : Nat → Prop} {U : State} {g : JFrame} {mk : MethodId} {a : Array Value} (h : xE B U U.heap) : xE B (U.calling g mk a) (U.calling g mk a).heap := by
  obtain ⟨⟨h1, h2⟩, h3, h4⟩ := h
  exact ⟨⟨h1.moved (U := U.calling g mk a) (Vm.Alike.refl U.vm), h2.moved (U := U.calling g mk a) (Vm.Alike.refl U.vm)⟩, xB_same (s := U) (U := U.calling g mk a) rfl h3, fun q hq => by obtain ⟨b, hb⟩ := h4 q hq; exact ⟨b, vk_R.same (u := U) (U := U.calling g mk a) rfl hb⟩⟩
def cSeq (a b : Nat) : Nat := if a = 0 then b else a
theorem cSeq_0 {a b : Nat} (h : a = 0) : cSeq a b = b := by simp [cSeq, h]
theorem cSeq_n {a b : Nat} (h : a ≠ 0) : cSeq a b = a := by simp [cSeq, h]
def cFarm (σ : Sg) (n : Int) : Nat := if n < 0 ∨ σ 0 2 ≤ n then 1 else 0
def cCrop (n : Int) : Nat := if n < 0 ∨ 3 ≤ n then 1 else 0
def cRange (v a b : Int) : Nat := if v < a ∨ b < v then 2 else 0
def cState (b : Int) : Nat := if b = 0 then 3 else 0
theorem cFarm_0 {σ : Sg} {n : Int} (h : cFarm σ n = 0) : 0 ≤ n ∧ n < σ 0 2 := by
  unfold cFarm at h
  split at h
  · cases h
  · omega
theorem cCrop_0 {n : Int} (h : cCrop n = 0) : 0 ≤ n ∧ n < 3 := by
  unfold cCrop at h
  split at h
  · cases h
  · omega
theorem cRange_0 {v a b : Int} (h : cRange v a b = 0) : a ≤ v ∧ v ≤ b := by
  unfold cRange at h
  split at h
  · cases h
  · omega
theorem cState_0 {b : Int} (h : cState b = 0) : b ≠ 0 := by
  unfold cState at h
  split at h
  · cases h
  · assumption
section KX
variable {p : Program} {l : Launch} {e : Env} {R : Room} {s : State} {m : MethodId} {args : Array Value} {below : List Frame} {meth : Method} {c : Code} {H : Heap} {locs : List Loc} {cells slots : Nat} {Q : State → Prop} {cc : ByteArray} {pc : Nat} {ls : Array Slot} {rest : List Value}
variable {G : va_G} {ad : Nat → Nat} {cy : Nat → ClassId} {σ : Sg} {A : Nat → Prop} {own : String} {index : Nat} {Ts : List Cond}
abbrev xPre (G : va_G) (ad : Nat → Nat) (cy : Nat → ClassId) (as : List Value) (σ : Sg) (sz : Nat) : Array Value → State → Prop := va_Pc as (fun U => U.heap.size = sz ∧ va_P G vwCl (cW ad cy σ) U.heap ∧ va_K G vwCl (cT cy) U ∧ xE (cA ad sz) U U.heap)
abbrev xX (G : va_G) (ad : Nat → Nat) (cy : Nat → ClassId) (code : Nat) (σ : Sg) (sz : Nat) : String → State → State → Prop := vx_X (fun u : Sg => u = σ) (fun E u t => xN code E ∧ cB G ad cy u t) (cA ad sz)
abbrev xQv (G : va_G) (ad : Nat → Nat) (cy : Nat → ClassId) (code : Nat) (σ' : Sg) (sz : Nat) := va_Qv (fun u : Sg => code = 0 ∧ u = σ') (cB G ad cy) (cA ad sz)
abbrev xQi (G : va_G) (ad : Nat → Nat) (cy : Nat → ClassId) (code : Nat) (r : Int) (σ' : Sg) (sz : Nat) := va_Qi (fun (v : Int32) (u : Sg) => code = 0 ∧ v = iI r ∧ u = σ') (cB G ad cy) (cA ad sz)
abbrev xQq (G : va_G) (ad : Nat → Nat) (cy : Nat → ClassId) (code : Nat) (r : Nat) (σ' : Sg) (sz : Nat) := va_Qq (fun (v : Option Nat) (u : Sg) => code = 0 ∧ v = some r ∧ u = σ') (cB G ad cy) (cA ad sz)
abbrev xMv (l : Launch) (y : MethodName) (ws : List Cond) (rm : Room) (G : va_G) (ad : Nat → Nat) (cy : Nat → ClassId) (as : List Value) (σ : Sg) (code : Nat) (σ' : Sg) (n : Nat) : Prop := ∀ sz, vx_Met l y ws rm (xPre G ad cy as σ sz) (xQv G ad cy code σ' sz) (xX G ad cy code σ sz) n (6 * n) (cA ad sz)
abbrev xMi (l : Launch) (y : MethodName) (ws : List Cond) (rm : Room) (G : va_G) (ad : Nat → Nat) (cy : Nat → ClassId) (as : List Value) (σ : Sg) (code : Nat) (r : Int) (σ' : Sg) (n : Nat) : Prop := ∀ sz, vx_Met l y ws rm (xPre G ad cy as σ sz) (xQi G ad cy code r σ' sz) (xX G ad cy code σ sz) n (6 * n) (cA ad sz)
abbrev xMq (l : Launch) (y : MethodName) (ws : List Cond) (rm : Room) (G : va_G) (ad : Nat → Nat) (cy : Nat → ClassId) (as : List Value) (σ : Sg) (code : Nat) (r : Nat) (σ' : Sg) (n : Nat) : Prop := ∀ sz, vx_Met l y ws rm (xPre G ad cy as σ sz) (xQq G ad cy code r σ' sz) (xX G ad cy code σ sz) n (6 * n) (cA ad sz)
theorem xPre_blind {as : List Value} {sz : Nat} : FrameBlind (xPre G ad cy as σ sz) := fun a U g mk q => ⟨q.1, q.2.1, q.2.2.1, va_K.moved (u := U) (U := U.calling g mk a) (Vm.Alike.refl U.vm) q.2.2.2.1, xE_blind q.2.2.2.2⟩
variable {y : MethodName} {bytes : ByteArray} {maxL nL n k : Nat} {ret : Option FieldType} {ws : List Cond} {rm : Room} {C : String} {b : Addr} {As st0 : List Value} {σ' : Sg} {r : Int} {code : Nat}
/-- a static call that returns or throws -/
theorem k_xsv (S : CallFix p m c cc nL s args Ts own) (hM : xMv l y ws rm G ad cy As σ code σ' k) (cw : CallB R s args own index y bytes maxL ret ws rm k (6 * k) n ∧ (Cond.static y).before args s = true) (hAc : ∀ j, j < 33 → A (ad j)) (hA : ∀ q, s.heap.size ≤ q → A q) (hK : va_K G vwCl (cT cy) s) (hX : xE A s s.heap) (hP : va_P G vwCl (cW ad cy σ) H) (hS : va_S A s.heap H locs) (hn : As.length = n) (hsize : ls.size = nL) (hst : st0 = As.reverse ++ rest) (hW : (rest.map fun v => v.category).sum ≤ 8) (hd : decode cc pc = .ok (.invokestatic index, 3)) (hf : cells + k ≤ R.cells ∧ slots + 6 * k ≤ R.slots)
    (kx : ∀ (E : String) (ce : Cell) (q9 : Addr) (H : Heap) (locs : List Loc), xN code E → va_P G vwCl (cW ad cy σ) H → va_S A s.heap H locs → H[q9]? = some ce → ce.vm = .none → s.vm.findClass E = some ce.cls → vx_W p l e R s m args below meth c H locs (cells + k) (slots + 6 * k) Q (F0 m pc ls rest) q9)
    (kk : code = 0 → ∀ (H : Heap) (locs : List Loc), va_P G vwCl (cW ad cy σ') H → va_S A s.heap H locs → W p l e R s m args below meth c H locs (cells + k) (slots + 6 * k) Q (F0 m (pc + 3) ls rest)) : W p l e R s m args below meth c H locs cells slots Q (F0 m pc ls st0) :=
  vx_callv (vx_runS S (hM H.size) cw ⟨xPre_blind, fun U hU hW => ⟨rfl, by rw [hU], by rw [hU]; exact hP, va_K.moved hW.alike hK, xE_to hX hS (cA_to hAc hA hS rfl) hU hW⟩⟩ rfl hn hsize hst (by simpa [JFrame.monitorRoom] using hW) hd hf) hS (fun q _ h => cA_to hAc hA hS rfl q h) (cA_to hAc hA hS rfl) (fun q _ h => cA_to hAc hA hS rfl q h)
    (fun E ce q9 u t H1 locs1 ht hvm hw hB _ _ hS1 h1 h2 h3 => by
      subst hw; subst ht
      exact kx E ce q9 _ _ hB.1 hB.2.1 hS1 h1 h2 h3)
    (fun u t H1 locs1 ht hvm hw hB _ _ hS1 => by
      obtain ⟨h0, rfl⟩ := hw; subst ht
      exact kk h0 _ _ hB.1 hS1)
theorem k_xv (S : CallFix p m c cc nL s args Ts own) (hM : xMv l y ws rm G ad cy (.ref b :: As) σ code σ' k) (cw : CallW R s args own C index y bytes maxL ret ws rm k (6 * k) n) (hr : ∃ cell : Cell, H[b]? = some cell ∧ cell.vm.isStatics = false ∧ s.vm.findClass C = some cell.cls) (hAc : ∀ j, j < 33 → A (ad j)) (hA : ∀ q, s.heap.size ≤ q → A q) (hK : va_K G vwCl (cT cy) s) (hX : xE A s s.heap) (hP : va_P G vwCl (cW ad cy σ) H) (hS : va_S A s.heap H locs) (hn : As.length = n) (hsize : ls.size = nL) (hst : st0 = As.reverse ++ .ref b :: rest) (hW : (rest.map fun v => v.category).sum ≤ 8) (hd : decode cc pc = .ok (.invokevirtual index, 3)) (hf : cells + k ≤ R.cells ∧ slots + 6 * k ≤ R.slots)
    (kx : ∀ (E : String) (ce : Cell) (q9 : Addr) (H : Heap) (locs : List Loc), xN code E → va_P G vwCl (cW ad cy σ) H → va_S A s.heap H locs → H[q9]? = some ce → ce.vm = .none → s.vm.findClass E = some ce.cls → vx_W p l e R s m args below meth c H locs (cells + k) (slots + 6 * k) Q (F0 m pc ls rest) q9)
    (kk : code = 0 → ∀ (H : Heap) (locs : List Loc), va_P G vwCl (cW ad cy σ') H → va_S A s.heap H locs → W p l e R s m args below meth c H locs (cells + k) (slots + 6 * k) Q (F0 m (pc + 3) ls rest)) : W p l e R s m args below meth c H locs cells slots Q (F0 m pc ls st0) :=
  vx_callv (vx_runV S (hM H.size) cw ⟨xPre_blind, hr, fun U hU hW => ⟨rfl, by rw [hU], by rw [hU]; exact hP, va_K.moved hW.alike hK, xE_to hX hS (cA_to hAc hA hS rfl) hU hW⟩⟩ rfl hn hsize hst (by simpa [JFrame.monitorRoom] using hW) hd hf) hS (fun q _ h => cA_to hAc hA hS rfl q h) (cA_to hAc hA hS rfl) (fun q _ h => cA_to hAc hA hS rfl q h)
    (fun E ce q9 u t H1 locs1 ht hvm hw hB _ _ hS1 h1 h2 h3 => by
      subst hw; subst ht
      exact kx E ce q9 _ _ hB.1 hB.2.1 hS1 h1 h2 h3)
    (fun u t H1 locs1 ht hvm hw hB _ _ hS1 => by
      obtain ⟨h0, rfl⟩ := hw; subst ht
      exact kk h0 _ _ hB.1 hS1)
theorem k_xi (S : CallFix p m c cc nL s args Ts own) (hM : xMi l y ws rm G ad cy (.ref b :: As) σ code r σ' k) (cw : CallW R s args own C index y bytes maxL ret ws rm k (6 * k) n) (hr : ∃ cell : Cell, H[b]? = some cell ∧ cell.vm.isStatics = false ∧ s.vm.findClass C = some cell.cls) (hAc : ∀ j, j < 33 → A (ad j)) (hA : ∀ q, s.heap.size ≤ q → A q) (hK : va_K G vwCl (cT cy) s) (hX : xE A s s.heap) (hP : va_P G vwCl (cW ad cy σ) H) (hS : va_S A s.heap H locs) (hn : As.length = n) (hsize : ls.size = nL) (hst : st0 = As.reverse ++ .ref b :: rest) (hW : (rest.map fun v => v.category).sum ≤ 8) (hd : decode cc pc = .ok (.invokevirtual index, 3)) (hf : cells + k ≤ R.cells ∧ slots + 6 * k ≤ R.slots)
    (kx : ∀ (E : String) (ce : Cell) (q9 : Addr) (H : Heap) (locs : List Loc), xN code E → va_P G vwCl (cW ad cy σ) H → va_S A s.heap H locs → H[q9]? = some ce → ce.vm = .none → s.vm.findClass E = some ce.cls → vx_W p l e R s m args below meth c H locs (cells + k) (slots + 6 * k) Q (F0 m pc ls rest) q9)
    (kk : code = 0 → ∀ (H : Heap) (locs : List Loc), va_P G vwCl (cW ad cy σ') H → va_S A s.heap H locs → W p l e R s m args below meth c H locs (cells + k) (slots + 6 * k) Q (F0 m (pc + 3) ls (.int (iI r) :: rest))) : W p l e R s m args below meth c H locs cells slots Q (F0 m pc ls st0) :=
  vx_calli (vx_runV S (hM H.size) cw ⟨xPre_blind, hr, fun U hU hW => ⟨rfl, by rw [hU], by rw [hU]; exact hP, va_K.moved hW.alike hK, xE_to hX hS (cA_to hAc hA hS rfl) hU hW⟩⟩ rfl hn hsize hst (by simpa [JFrame.monitorRoom] using hW) hd hf) hS (fun q _ h => cA_to hAc hA hS rfl q h) (cA_to hAc hA hS rfl) (fun q _ h => cA_to hAc hA hS rfl q h)
    (fun E ce q9 u t H1 locs1 ht hvm hw hB _ _ hS1 h1 h2 h3 => by
      subst hw; subst ht
      exact kx E ce q9 _ _ hB.1 hB.2.1 hS1 h1 h2 h3)
    (fun r1 u t H1 locs1 ht hvm hw hB _ _ hS1 => by
      obtain ⟨h0, rfl, rfl⟩ := hw; subst ht
      exact kk h0 _ _ hB.1 hS1)
theorem k_xq {rr : Nat} (S : CallFix p m c cc nL s args Ts own) (hM : xMq l y ws rm G ad cy (.ref b :: As) σ code rr σ' k) (cw : CallW R s args own C index y bytes maxL ret ws rm k (6 * k) n) (hr : ∃ cell : Cell, H[b]? = some cell ∧ cell.vm.isStatics = false ∧ s.vm.findClass C = some cell.cls) (hAc : ∀ j, j < 33 → A (ad j)) (hA : ∀ q, s.heap.size ≤ q → A q) (hK : va_K G vwCl (cT cy) s) (hX : xE A s s.heap) (hP : va_P G vwCl (cW ad cy σ) H) (hS : va_S A s.heap H locs) (hn : As.length = n) (hsize : ls.size = nL) (hst : st0 = As.reverse ++ .ref b :: rest) (hW : (rest.map fun v => v.category).sum ≤ 8) (hd : decode cc pc = .ok (.invokevirtual index, 3)) (hf : cells + k ≤ R.cells ∧ slots + 6 * k ≤ R.slots)
    (kx : ∀ (E : String) (ce : Cell) (q9 : Addr) (H : Heap) (locs : List Loc), xN code E → va_P G vwCl (cW ad cy σ) H → va_S A s.heap H locs → H[q9]? = some ce → ce.vm = .none → s.vm.findClass E = some ce.cls → vx_W p l e R s m args below meth c H locs (cells + k) (slots + 6 * k) Q (F0 m pc ls rest) q9)
    (kk : code = 0 → ∀ (H : Heap) (locs : List Loc), va_P G vwCl (cW ad cy σ') H → va_S A s.heap H locs → W p l e R s m args below meth c H locs (cells + k) (slots + 6 * k) Q (F0 m (pc + 3) ls (.ref rr :: rest))) : W p l e R s m args below meth c H locs cells slots Q (F0 m pc ls st0) := by
  intro T hT X
  have hr0 := vx_runV (locs := locs) (meth := meth) (below := below) (e := e) S (hM H.size) cw ⟨xPre_blind, hr, fun U hU hW => ⟨rfl, by rw [hU], by rw [hU]; exact hP, va_K.moved hW.alike hK, xE_to hX hS (cA_to hAc hA hS rfl) hU hW⟩⟩ (g := F0 m pc ls st0) rfl hn hsize hst (by simpa [JFrame.monitorRoom] using hW) hd hf
  have hAA : ∀ q, q < H.size → cA ad H.size q → A q := fun q _ h => cA_to hAc hA hS rfl q h
  have hff : ∀ q, cA ad H.size q → A q := cA_to hAc hA hS rfl
  rcases hr0 T hT X with ⟨v, st₀, t, T', L, h0, X', hL, e1, e2, ⟨⟨r, u, hv, hp, hb⟩, hF⟩, st⟩ | ⟨q, st₀, t, T', L, E, ce, h0, X', hL, e1, e2, ⟨u, hp, hb, hF⟩, hce, hcv, hcl, st⟩
  · cases hv
    obtain ⟨k0, rfl, rfl⟩ := hp
    obtain ⟨k1, k2, k3⟩ := vx_keep h0 e1 hS hAA hff hL hF
    obtain ⟨t2, a1, b1⟩ := kk k0 T'.heap (locs ++ L) (by rw [e1]; exact hb.1) k3 T' rfl X'
    exact ⟨t2, st t2 a1, b1⟩
  · subst hp
    obtain ⟨k1, k2, k3⟩ := vx_keep h0 e1 hS hAA hff hL hF
    obtain ⟨t2, a1, b1⟩ := kx E ce q T'.heap (locs ++ L) hb.1 (by rw [e1]; exact hb.2.1) k3 (by rw [e1]; exact hce) hcv hcl T' rfl X'
    exact ⟨t2, st.trans a1, b1⟩
/-- the ends of a method that may throw -/
theorem x_vret (hx : p.tables.exec = Jvm.exec) (hb : c.code = cc) (hr : meth.sig.returnType = none) (hlocks : meth.locks = false) (hK : va_K G vwCl (cT cy) s) (hP : va_P G vwCl (cW ad cy σ') H) (hS : va_S (cA ad s.heap.size) s.heap H locs) (h0 : code = 0) (hd : decode cc pc = .ok (.return_, 1)) (hc : cells ≤ k) (hs : slots ≤ 6 * k) : W p l e R s m args below meth c H locs cells slots (vx_MQ below (xQv G ad cy code σ' s.heap.size) (xX G ad cy code σ s.heap.size) args s k (6 * k) (cA ad s.heap.size)) (F0 m pc ls []) :=
  vx_ret (W.widen hc hs (W.vret hx hb hr (fun t ht hW => ⟨⟨_, rfl, ⟨h0, rfl⟩, by rw [ht]; exact hP, va_K.moved hW.alike hK⟩, hS.F ht⟩) hS.2.2 hd hlocks))
theorem x_iret (hx : p.tables.exec = Jvm.exec) (hb : c.code = cc) (hr : meth.sig.returnType = some .int) (hlocks : meth.locks = false) (hK : va_K G vwCl (cT cy) s) (hP : va_P G vwCl (cW ad cy σ') H) (hS : va_S (cA ad s.heap.size) s.heap H locs) (h0 : code = 0) {v : Int} (hv : v = r) (hd : decode cc pc = .ok (.ireturn, 1)) (hc : cells ≤ k) (hs : slots ≤ 6 * k) : W p l e R s m args below meth c H locs cells slots (vx_MQ below (xQi G ad cy code r σ' s.heap.size) (xX G ad cy code σ s.heap.size) args s k (6 * k) (cA ad s.heap.size)) (F0 m pc ls [.int (iI v)]) :=
  vx_ret (W.widen hc hs (W.iret hx hb hr (fun t ht hW => ⟨⟨_, _, rfl, ⟨h0, by rw [hv], rfl⟩, by rw [ht]; exact hP, va_K.moved hW.alike hK⟩, hS.F ht⟩) hS.2.2 hd hlocks))
theorem x_aret {n : String} {rr : Nat} (hx : p.tables.exec = Jvm.exec) (hb : c.code = cc) (hr : meth.sig.returnType = some (.object n)) (hlocks : meth.locks = false) (hK : va_K G vwCl (cT cy) s) (hP : va_P G vwCl (cW ad cy σ') H) (hS : va_S (cA ad s.heap.size) s.heap H locs) (h0 : code = 0) (hd : decode cc pc = .ok (.areturn, 1)) (hc : cells ≤ k) (hs : slots ≤ 6 * k) : W p l e R s m args below meth c H locs cells slots (vx_MQ below (xQq G ad cy code rr σ' s.heap.size) (xX G ad cy code σ s.heap.size) args s k (6 * k) (cA ad s.heap.size)) (F0 m pc ls [.ref rr]) :=
  vx_ret (W.widen hc hs (W.aret hx hb hr (Or.inl ⟨n, rfl⟩) (Or.inr ⟨rr, rfl⟩) (fun t ht hW => ⟨⟨some rr, _, rfl, ⟨h0, rfl, rfl⟩, by rw [ht]; exact hP, va_K.moved hW.alike hK⟩, hS.F ht⟩) hS.2.2 hd hlocks))
/-- a callee's exception goes on to the caller -/
theorem x_out {Qc : Array Value → State → Outcome → State → Prop} {E : String} {ce : Cell} {q9 : Addr} (hno : ∀ x ∈ c.exceptionTable.toList, False) (hlocks : meth.locks = false) (hK : va_K G vwCl (cT cy) s) (hP : va_P G vwCl (cW ad cy σ) H) (hS : va_S (cA ad s.heap.size) s.heap H locs) (h1 : H[q9]? = some ce) (h2 : ce.vm = .none) (h3 : s.vm.findClass E = some ce.cls) (hN : xN code E) (hc : cells ≤ k) (hs : slots ≤ 6 * k) : vx_W p l e R s m args below meth c H locs cells slots (vx_MQ below Qc (xX G ad cy code σ s.heap.size) args s k (6 * k) (cA ad s.heap.size)) (F0 m pc ls rest) q9 :=
  vx_out (fun x hx => (hno x hx).elim) hlocks h1 h2 h3 (fun t ht hvm => ⟨σ, rfl, ⟨hN, by rw [ht]; exact hP, va_K.moved hvm hK⟩, hS.F ht⟩) hS.2.2 hc hs
/-- its own exception: throw new E(text) -/
theorem x_thr {Qc : Array Value → State → Outcome → State → Prop} {cls text : String} {ik is ic : Nat} (hfl : l.stackTraces = false) (hx : p.tables.exec = Jvm.exec) (hb : c.code = cc) (hown : s.vm.findClass RX2 = some m.cls) (hcls : Bundle.fit cls = true) (hnames : ∀ n ∈ nUp, Bundle.fit n = true) (hk : (Cond.classLink RX2 ik cls).before args s = true) (hini : (Cond.initialized cls).before args s = true) (hst : (is, text) ∈ xSt)
    (h1 : ∀ w ∈ (vx_atS RX2 ic cls nUp).filter goodWord, w.before args s = true) (h2 : ∀ w ∈ (vx_atS RX2 ic cls nUp).filter (fun w => !goodWord w), w ∈ xB) (hgood : ∀ w ∈ Cond.classLink RX2 ik cls :: Cond.initialized cls :: vx_atS RX2 ic cls nUp, vx_ot w = true)
    (hno : ∀ x ∈ c.exceptionTable.toList, False) (hlocks : meth.locks = false) (hK : va_K G vwCl (cT cy) s) (hX : xE (cA ad s.heap.size) s s.heap) (hP : va_P G vwCl (cW ad cy σ) H) (hS : va_S (cA ad s.heap.size) s.heap H locs) (hsize : ls.size = c.maxLocals) (hN : xN code cls)
    (d0 : decode cc pc = .ok (.new ik, 3)) (d3 : decode cc (pc + 3) = .ok (.dup, 1)) (d4 : decode cc (pc + 4) = .ok (.ldc is, 2)) (d6 : decode cc (pc + 6) = .ok (.invokespecial ic, 3)) (d9 : decode cc (pc + 9) = .ok (.athrow, 1))
    (hRf : 5 < R.frames) (hRl : (rest.map fun v => v.category).sum + 82 ≤ R.locals) (hRc : cells + 1 ≤ R.cells) (hRs : slots + 6 ≤ R.slots) (hc : cells + 1 ≤ k) (hs : slots + 6 ≤ 6 * k) : W p l e R s m args below meth c H locs cells slots (vx_MQ below Qc (xX G ad cy code σ s.heap.size) args s k (6 * k) (cA ad s.heap.size)) (F0 m pc ls rest) := by
  obtain ⟨⟨hU, hN2⟩, hB, hstr⟩ := hX
  obtain ⟨sa, hsa⟩ := hstr _ hst
  exact vx_throwS hx hb hfl hown hcls hnames hk hini hsa (vx_hat h1 h2 (xB_use hB)) hgood hU hN2 hS hsize d0 d3 d4 d6 d9 (fun x hx => (hno x hx).elim) hRf hRl hRc hRs hlocks
    (fun t hvm hsz hkp => ⟨σ, rfl, ⟨hN, hP.kept (fun k q hk => hkp _ (vx_lt hP hk)), va_K.moved hvm hK⟩, ⟨Nat.le_trans hS.1 hsz, fun q h1 h2 => (hkp q (Nat.lt_of_lt_of_le h1 hS.1)).trans (hS.2.1 q h1 h2)⟩⟩) hS.2.2 hc hs
end KX
theorem nUp_fit : ∀ n ∈ nUp, Bundle.fit n = true := by decide +kernel
theorem fitIO : Bundle.fit nIO = true := by decide +kernel
theorem fitIA : Bundle.fit nIA = true := by decide +kernel
theorem fitIS : Bundle.fit nIS = true := by decide +kernel
theorem xbIO : ∀ w ∈ (vx_atS RX2 41 nIO nUp).filter (fun w => !goodWord w), w ∈ xB := by decide +kernel
theorem xbIA : ∀ w ∈ (vx_atS RX2 179 nIA nUp).filter (fun w => !goodWord w), w ∈ xB := by decide +kernel
theorem xbIS : ∀ w ∈ (vx_atS RX2 184 nIS nUp).filter (fun w => !goodWord w), w ∈ xB := by decide +kernel
theorem xgIO : ∀ w ∈ Cond.classLink RX2 37 nIO :: Cond.initialized nIO :: vx_atS RX2 41 nIO nUp, vx_ot w = true := by decide +kernel
theorem xgIA : ∀ w ∈ Cond.classLink RX2 175 nIA :: Cond.initialized nIA :: vx_atS RX2 179 nIA nUp, vx_ot w = true := by decide +kernel
theorem xgIS : ∀ w ∈ Cond.classLink RX2 180 nIS :: Cond.initialized nIS :: vx_atS RX2 184 nIS nUp, vx_ot w = true := by decide +kernel
end
section
theorem zz_last : True := trivial
end
