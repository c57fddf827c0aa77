/-! the law's start: the tables' words, both made objects, the row of one -/
theorem dApp {A : Nat → Prop} {w1 w2 : va_W} (h : va_D A (w1 ++ w2)) : va_D A w1 ∧ va_D A w2 ∧ ∀ (i j : Nat) (p q : Nat × va_E), w1[i]? = some p → w2[j]? = some q → p.1 ≠ q.1 := by
  have l1 : ∀ (i : Nat) (p : Nat × va_E), w1[i]? = some p → (w1 ++ w2)[i]? = some p := fun i p h1 => by
    rw [List.getElem?_append_left (List.getElem?_eq_some_iff.mp h1).1]
    exact h1
  have l2 : ∀ (i : Nat) (p : Nat × va_E), w2[i]? = some p → (w1 ++ w2)[w1.length + i]? = some p := fun i p h1 => by
    rw [List.getElem?_append_right (by omega), Nat.add_sub_cancel_left]
    exact h1
  refine ⟨⟨fun i j p q h1 h2 e => h.1 i j p q (l1 i p h1) (l1 j q h2) e, fun k q h1 => h.2 k q (l1 k q h1)⟩, ⟨fun i j p q h1 h2 e => ?_, fun k q h1 => h.2 _ q (l2 k q h1)⟩, fun i j p q h1 h2 e => ?_⟩
  · have := h.1 _ _ p q (l2 i p h1) (l2 j q h2) e
    omega
  · have h3 := h.1 _ _ p q (l1 i p h1) (l2 j q h2) e
    have h4 := (List.getElem?_eq_some_iff.mp h1).1
    omega
theorem pApp {D : va_G} {cl : List vw_C} {w1 w2 : va_W} {H : Heap} (h : va_P D cl (w1 ++ w2) H) : va_P D cl w1 H ∧ va_P D cl w2 H := ⟨h.by (fun k => k) (fun k q h1 => by
    rw [List.getElem?_append_left (List.getElem?_eq_some_iff.mp h1).1]
    exact h1), h.by (fun k => w1.length + k) (fun k q h1 => by
    rw [List.getElem?_append_right (by omega), Nat.add_sub_cancel_left]
    exact h1)⟩
theorem k_arr {ty : FieldType} {args : Array Value} {s : State} (h : (Cond.arrayClass ty).before args s = true) : ∃ cA : ClassId, ArrOfT s cA ty ∧ s.vm.findClass ("[" ++ ty.toString) = some cA := by
  obtain ⟨cA, kA, comp, h1, h2, h3⟩ := Cond.arrayClass_spec h
  exact ⟨cA, fun n z => ⟨fun k h => (by cases h), kA, h2, comp, h3⟩, h1⟩
theorem k_arq {C : String} {s : State} (h : va_AO C s) : ∃ cA : ClassId, ArrOfT s cA (.object C) ∧ va_RA s cA (.object C) := by
  obtain ⟨comp, cA, kA, h1, h2, h3, h4, h5⟩ := Cond.arrayOver_spec h
  exact ⟨cA, fun n z => ⟨fun k h => (by cases h), kA, h3, comp, h4⟩, kA, comp, h3, h4, h1, h5⟩
theorem k_str {own tx : String} {k : Nat} {args : Array Value} {s : State} (h1 : (Cond.stringRef own k tx).before args s = true) (h2 : (Cond.exactly (.string own k) "java/lang/String").before args s = true) : ∃ a, vk_R own k tx a s := by
  obtain ⟨a, c, cA, kA, q1, -⟩ := Cond.exactly_spec (args := args) (first := s) (o := none) (s := s) (idx := []) (t := .string own k) (cls := "java/lang/String") h2
  exact ⟨a, vk_R.of (A := args) h1 q1⟩
theorem k_start {s : State} {args : Array Value} (hts : ∀ w ∈ wsL_law, w.before args s = true) (hV0 : va_AO RX0 s) (hV1 : va_AO RX1 s) : ∃ (G : va_G) (cy : Nat → ClassId), va_K G vwCl (cT cy) s := by
  obtain ⟨c0, i0, k0⟩ := u_known (C := RX0) (T := TX0) (N := 3) hts inlX0 (hts (.instantiable RX0 3) (by decide +kernel))
  obtain ⟨c1, i1, k1⟩ := u_known (C := RX1) (T := TX1) (N := 17) hts inlX1 (hts (.instantiable RX1 17) (by decide +kernel))
  obtain ⟨c2, i2, k2⟩ := u_known (C := RX2) (T := TX2) (N := 5) hts inlX2 (hts (.instantiable RX2 5) (by decide +kernel))
  obtain ⟨c3, i3, k3⟩ := u_known (C := RX3) (T := TX3) (N := 24) hts inlX3 (hts (.instantiable RX3 24) (by decide +kernel))
  obtain ⟨a0, t0, f0⟩ := k_arr (hts (.arrayClass .int) (by decide +kernel))
  obtain ⟨a1, t1, f1⟩ := k_arr (hts (.arrayClass .long) (by decide +kernel))
  obtain ⟨a2, t2, f2⟩ := k_arq hV0
  obtain ⟨a3, t3, f3⟩ := k_arq hV1
  refine ⟨(fun c => match c with | 0 => c0 | 1 => c1 | 2 => c2 | _ => c3, fun c => match c with | 0 => i0 | 1 => i1 | 2 => i2 | _ => i3), fun c => match c with | 0 => a0 | 1 => a1 | 2 => a2 | _ => a3, fun c q hq => ?_, fun k q hk => ?_⟩
  · have hz : c < 4 := (List.getElem?_eq_some_iff.mp hq).1
    rcases (by omega : c = 0 ∨ c = 1 ∨ c = 2 ∨ c = 3) with rfl | rfl | rfl | rfl
    · cases hq; exact k0
    · cases hq; exact k1
    · cases hq; exact k2
    · cases hq; exact k3
  · have hz : k < 4 := (List.getElem?_eq_some_iff.mp hk).1
    rcases (by omega : k = 0 ∨ k = 1 ∨ k = 2 ∨ k = 3) with rfl | rfl | rfl | rfl
    · cases hk; exact ⟨t0, f0⟩
    · cases hk; exact ⟨t1, f1⟩
    · cases hk; exact ⟨t2, f2⟩
    · cases hk; exact ⟨t3, f3⟩
theorem k_xE {s : State} {args : Array Value} {A : Nat → Prop} (htt : ∀ w ∈ lw_tbl, w.before args s = true) (hgv : (Jvm.Cond.and given_1 narrow_1).before args s = true) (hA : ∀ a : Nat, a < s.heap.size → ¬ A a) : xE A s s.heap := by
  have hf := flat_of_before _ hgv
  refine ⟨⟨vx_Zqof (htt (.laysStatic Bundle.tN "UNASSIGNED_STACK" Bundle.steD) (by decide +kernel)) (htt (.initialized Bundle.tN) (by decide +kernel)) (hf (.isRef (.static Bundle.tN "UNASSIGNED_STACK" Bundle.steD)) (by decide +kernel)) hA, vx_Zqof (htt (.laysStatic Bundle.tN "SUPPRESSED_SENTINEL" Bundle.listD) (by decide +kernel)) (htt (.initialized Bundle.tN) (by decide +kernel)) (hf (.isRef (.static Bundle.tN "SUPPRESSED_SENTINEL" Bundle.listD)) (by decide +kernel)) hA⟩, ?_, ?_⟩
  · have hm : ∀ w ∈ xB, w ∈ lw_tbl := by decide +kernel
    simp only [xB, List.forall_mem_cons] at hm ⊢
    obtain ⟨m1, m2, m3, m4, m5, m6, m7, m8, m9, -⟩ := hm
    exact ⟨va_Nw.of rfl (htt _ m1), va_Nw.of rfl (htt _ m2), va_Nw.of rfl (htt _ m3), va_Nw.of rfl (htt _ m4), va_Nw.of rfl (htt _ m5), va_Nw.of rfl (htt _ m6), va_Nw.of rfl (htt _ m7), va_Nw.of rfl (htt _ m8), va_Nw.of rfl (htt _ m9), fun _ h => absurd h List.not_mem_nil⟩
  · have hm : ∀ q ∈ xSt, Cond.stringRef RX2 q.1 q.2 ∈ lw_tbl := by decide +kernel
    have hm2 : ∀ q ∈ xSt, Cond.exactly (.string RX2 q.1) "java/lang/String" ∈ flatC (Jvm.Cond.and given_1 narrow_1) := by decide +kernel
    exact fun q hq => k_str (htt _ (hm q hq)) (hf _ (hm2 q hq))
theorem k_lN3 {s : State} {args : Array Value} (hgv : (Jvm.Cond.and given_1 narrow_1).before args s = true) : lN3 s := by
  have hf := flat_of_before _ hgv
  exact ⟨va_Nc.of (hf (.not (.castable nIA nIO)) (by decide +kernel)), va_Nc.of (hf (.not (.castable nIS nIO)) (by decide +kernel)), va_Nc.of (hf (.not (.castable nIS nIA)) (by decide +kernel))⟩
theorem cS0_F {i : Nat} (h : i < 8) (b : Nat) : cS0 (9 + i) b = fF0 b := by
  rcases (by omega : i = 0 ∨ i = 1 ∨ i = 2 ∨ i = 3 ∨ i = 4 ∨ i = 5 ∨ i = 6 ∨ i = 7) with rfl | rfl | rfl | rfl | rfl | rfl | rfl | rfl <;> rfl
theorem cS0_P {i : Nat} (h : i < 8) (b : Nat) : cS0 (17 + i) b = 0 := by
  rcases (by omega : i = 0 ∨ i = 1 ∨ i = 2 ∨ i = 3 ∨ i = 4 ∨ i = 5 ∨ i = 6 ∨ i = 7) with rfl | rfl | rfl | rfl | rfl | rfl | rfl | rfl <;> rfl
theorem cS0_T {i : Nat} (h : i < 8) (b : Nat) : cS0 (25 + i) b = 0 := by
  rcases (by omega : i = 0 ∨ i = 1 ∨ i = 2 ∨ i = 3 ∨ i = 4 ∨ i = 5 ∨ i = 6 ∨ i = 7) with rfl | rfl | rfl | rfl | rfl | rfl | rfl | rfl <;> rfl
theorem cS0_C {i : Nat} (h : i < 3) (b : Nat) : cS0 (3 + i) b = fC0 b := by
  rcases (by omega : i = 0 ∨ i = 1 ∨ i = 2) with rfl | rfl | rfl <;> rfl
theorem cS0_N {i : Nat} (h : i < 3) (b : Nat) : cS0 (6 + i) b = fN0 b := by
  rcases (by omega : i = 0 ∨ i = 1 ∨ i = 2) with rfl | rfl | rfl <;> rfl
theorem fF0_0 {b : Nat} (h1 : b ≠ 12) (h2 : b ≠ 15) : fF0 b = 0 := by simp [fF0, h1, h2]
theorem jj_init : JJ cS0 (mS2 3) := by
  refine ⟨⟨⟨by decide, by decide, by decide⟩, fun c hc => ?_, fun i hi h => ?_, fun i hi _ => ?_⟩, 0, ?_⟩
  · refine ⟨?_, ?_, fun k hk => ?_⟩
    · rw [cS0_C hc]; decide
    · rw [cS0_C hc]; decide
    · rw [cS0_N hc, fN0, if_pos hk]; decide
  · exact absurd h (by show ¬ (i : Int) < 0; omega)
  · exact ⟨fun b _ h1 h2 => by rw [cS0_F hi, fF0_0 h1 h2], by rw [cS0_F hi]; rfl, by rw [cS0_F hi]; rfl, fun q => cS0_P hi q, fun q => cS0_T hi q⟩
  · funext a j
    have hz : ∀ (b : Nat), b ≠ 12 → b ≠ 15 → (if j < 8 then cS0 (9 + j) b else 0) = 0 := fun b h1 h2 => by
      split
      · rename_i h
        rw [cS0_F h, fF0_0 h1 h2]
      · rfl
    have hz2 : ∀ (b : Nat), (if j < 8 ∧ (j : Int) < cS0 0 2 then cS0 (9 + j) b else 0) = 0 := fun b => by
      rw [if_neg]
      rintro ⟨-, h⟩
      have h9 : (j : Int) < 0 := h
      omega
    have hm : ∀ a, a ≠ 1 → a ≠ 2 → a ≠ 3 → mS2 3 a j = 0 := fun a h1 h2 h3 => by simp [mS2, h1, h2, h3]
    match a with
    | 0 => rw [hm 0 (by decide) (by decide) (by decide)]; show (0 : Int) = if j = 0 then 0 else if j = 1 then cS0 0 3 else if j = 2 then cS0 0 4 else if j = 6 then cS0 0 2 else 0; (repeat' split) <;> rfl
    | 1 =>
      show mS2 3 1 j = if j < 12 then cS0 (6 + j / 4) (j % 4) else 0
      by_cases h : j < 12
      · rw [if_pos h, cS0_N (by omega), fN0, if_pos (by omega)]; simp [mS2, h]
      · rw [if_neg h]; simp [mS2, h]
    | 2 =>
      show mS2 3 2 j = if j < 3 then cS0 (3 + j) 1 else 0
      by_cases h : j < 3
      · rw [if_pos h, cS0_C h]; simp [mS2, h, fC0]
      · rw [if_neg h]; simp [mS2, h]
    | 3 =>
      show mS2 3 3 j = if j < 3 then cS0 (3 + j) 2 else 0
      by_cases h : j < 3
      · rw [if_pos h, cS0_C h]; simp [mS2, h, fC0]
      · rw [if_neg h]; simp [mS2, h]
    | 4 => rw [hm 4 (by decide) (by decide) (by decide)]; exact (hz 0 (by decide) (by decide)).symm
    | 5 => rw [hm 5 (by decide) (by decide) (by decide)]; exact (hz 1 (by decide) (by decide)).symm
    | 6 => rw [hm 6 (by decide) (by decide) (by decide)]; exact (hz 2 (by decide) (by decide)).symm
    | 7 => rw [hm 7 (by decide) (by decide) (by decide)]; exact (hz 11 (by decide) (by decide)).symm
    | 8 => rw [hm 8 (by decide) (by decide) (by decide)]; exact (hz 9 (by decide) (by decide)).symm
    | 9 => rw [hm 9 (by decide) (by decide) (by decide)]; exact (hz 10 (by decide) (by decide)).symm
    | 10 => rw [hm 10 (by decide) (by decide) (by decide)]; exact (hz 3 (by decide) (by decide)).symm
    | 11 => rw [hm 11 (by decide) (by decide) (by decide)]; exact (hz 8 (by decide) (by decide)).symm
    | 12 =>
      rw [hm 12 (by decide) (by decide) (by decide)]
      show (0 : Int) = if j < 24 then cS0 (25 + j / 3) (pIx (cS0 (9 + j / 3) 8) (j % 3)) else 0
      by_cases h : j < 24
      · rw [if_pos h, cS0_T (by omega)]
      · rw [if_neg h]
    | 13 => rw [hm 13 (by decide) (by decide) (by decide)]; exact (hz2 12).symm
    | 14 => rw [hm 14 (by decide) (by decide) (by decide)]; exact (hz 13 (by decide) (by decide)).symm
    | 15 => rw [hm 15 (by decide) (by decide) (by decide)]; exact (hz 16 (by decide) (by decide)).symm
    | 16 => rw [hm 16 (by decide) (by decide) (by decide)]; exact (hz 14 (by decide) (by decide)).symm
    | 17 => rw [hm 17 (by decide) (by decide) (by decide)]; exact (hz2 15).symm
    | 18 => rw [hm 18 (by decide) (by decide) (by decide)]; exact (hz 5 (by decide) (by decide)).symm
    | 19 =>
      rw [hm 19 (by decide) (by decide) (by decide)]
      show (0 : Int) = if j < 40 then cS0 (17 + j / 5) (j % 5) else 0
      by_cases h : j < 40
      · rw [if_pos h, cS0_P (by omega)]
      · rw [if_neg h]
    | 20 => rw [hm 20 (by decide) (by decide) (by decide)]; exact (hz 4 (by decide) (by decide)).symm
    | a + 21 => rw [hm (a + 21) (by omega) (by omega) (by omega)]; rfl
set_option maxHeartbeats 4000000 in
set_option maxRecDepth 100000 in
theorem whole_start {p : Program} {e : Env} {s : State} {m : MethodId} {below : List Frame} {meth : Method} {c : Code} (l : Launch) (hflags : l.flags = flags0) {b L : Nat} {xs : Nat → Int32} (hL : L ≤ 2048) (C0 : lw_At p s m meth c b L xs) : W p l e room_1 s m #[Value.ref b] below meth c s.heap [] 0 0 (lw_Z below #[Value.ref b] s) (entryFrame m ([Value.ref b] : List Value).toArray 7) := by
  obtain ⟨hx, hb, hr, hml, hown, htt, hX, hbl, hlk, hgv⟩ := C0
  have hts : ∀ w ∈ wsL_law, w.before #[Value.ref b] s = true := fun w h => htt w (wsL_law_in w h)
  have hfl : l.stackTraces = false := by
    unfold Launch.stackTraces
    rw [hflags]
    decide +kernel
  have hV0 : va_AO RX0 s := va_AO.of (htt (.arrayOver (.object RX0)) (by decide +kernel))
  have hV1 : va_AO RX1 s := va_AO.of (htt (.arrayOver (.object RX1)) (by decide +kernel))
  have hN : va_Nw nW s := va_Nw.of rfl (htt nW (by decide +kernel))
  obtain ⟨G, cy, hK⟩ := k_start hts hV0 hV1
  obtain ⟨A, hAe⟩ : ∃ A : Nat → Prop, A = fun q => s.heap.size ≤ q := ⟨_, rfl⟩
  have hA : ∀ q, s.heap.size ≤ q → A q := fun q h => by rw [hAe]; exact h
  have hA2 : ∀ q, A q → s.heap.size ≤ q := fun q h => by rw [hAe] at h; exact h
  have hXE : xE A s s.heap := k_xE htt hgv (fun a h1 h2 => absurd h1 (Nat.not_lt.mpr (hA2 a h2)))
  have hN3 : lN3 s := k_lN3 hgv
  have hbA : ¬ A b := fun h => absurd hbl (Nat.not_lt.mpr (hA2 b h))
  have hl := lv_entry ([.ref b]) (n := 7) (Nat.le_of_ble_eq_true rfl)
  rw [lg_entry_eq]
  generalize (lg_sl ([.ref b]) ++ List.replicate (7 - (lg_sl ([.ref b])).length) Slot.unset).toArray = ls at hl ⊢
  have hl : lv_has ls 7 [(0, .ref b)] := hl
  have hS : va_S A s.heap s.heap [] := va_S.rf
  have hP : va_P G vwCl [] s.heap := fun k q h => by simp at h
  have hD : va_D A [] := ⟨fun i j p q h => by simp at h, fun k q h => by simp at h⟩
  refine va_new (ci := 2) (fs := [.null, .null, .int 0, .int 0, .int 0]) (C := RX2) (T := TX2) (N := 5) hx hb hts inlX2 tyX2 tyX2_ok hown (hts (.classLink RL 8 RX2) (by decide +kernel)) (hts (.instantiable RX2 5) (by decide +kernel)) (hts (.initialized RX2) (by decide +kernel)) hK hP hD hS hA rfl (fun j hj => by rcases (by omega : j = 0 ∨ j = 1 ∨ j = 2 ∨ j = 3 ∨ j = 4) with rfl | rfl | rfl | rfl | rfl <;> rfl) (Nat.le_of_ble_eq_true rfl) (Nat.le_of_ble_eq_true rfl) dL_law_0 (fun q0 H hP hD hS => ?_)
  refine lv_dup hx hb dL_law_3 rfl ?_
  refine va_callv (va_runI (As := []) (rest := [.ref q0]) ⟨hx, hb, hml, hown, hts⟩ (c_X2_init l G cy q0 H.size) (cwI 0 hts gL_law_X2_init rfl rfl rfl (hts (.initialized RX2) (by decide +kernel)) (hts (.methodLink RL 83 yX2_init) (by decide +kernel)) (hts (.instanceMethod yX2_init) (by decide +kernel)) rfl (by decide +kernel) ⟨Nat.le_of_ble_eq_true rfl, Nat.le_of_ble_eq_true rfl⟩) ⟨jPc_blind, fun U hU hW => ⟨rfl, by rw [hU], by rw [hU]; exact last_P hP, va_K.moved hW.alike hK, va_AO.moved hW.alike hV0, va_AO.moved hW.alike hV1, va_Nw.warmM hW hN⟩⟩ rfl rfl hl.1 rfl (lv_room (Nat.le_of_ble_eq_true rfl)) dL_law_4 ⟨Nat.le_of_ble_eq_true rfl, Nat.le_of_ble_eq_true rfl⟩) hS (fun q _ h => freeA hD hS hA q h) (freeA hD hS hA) (fun ad t H1 locs ht hvm hw hB hz1 hk1 hS1 => ?_)
  obtain ⟨hw0, hI⟩ := hw
  obtain ⟨hP1, _, hD1⟩ := hB
  rw [ht] at hP1
  obtain ⟨hP, hD⟩ := joinA hP hD hk1 (freeA hD hS hA) hP1 hD1
  have hS := hS1
  rw [← hw0]
  refine lv_astore_n (lv' := [(1, .ref (ad 0)), (0, .ref b)]) hx hb dL_law_7 rfl hl (by decide) rfl (fun ls hl => ?_)
  refine va_new (ci := 3) (fs := [.int 0, .int 0, .int 0, .null, .null, .null, .int 0, .null, .null, .null, .null, .null, .null, .null, .null, .null, .null, .null, .null, .null, .null, .null, .null, .null]) (C := RX3) (T := TX3) (N := 24) hx hb hts inlX3 tyX3 tyX3_ok hown (hts (.classLink RL 84 RX3) (by decide +kernel)) (hts (.instantiable RX3 24) (by decide +kernel)) (hts (.initialized RX3) (by decide +kernel)) hK hP hD hS hA rfl (fun j hj => by rcases (by omega : j = 0 ∨ j = 1 ∨ j = 2 ∨ j = 3 ∨ j = 4 ∨ j = 5 ∨ j = 6 ∨ j = 7 ∨ j = 8 ∨ j = 9 ∨ j = 10 ∨ j = 11 ∨ j = 12 ∨ j = 13 ∨ j = 14 ∨ j = 15 ∨ j = 16 ∨ j = 17 ∨ j = 18 ∨ j = 19 ∨ j = 20 ∨ j = 21 ∨ j = 22 ∨ j = 23) with rfl | rfl | rfl | rfl | rfl | rfl | rfl | rfl | rfl | rfl | rfl | rfl | rfl | rfl | rfl | rfl | rfl | rfl | rfl | rfl | rfl | rfl | rfl | rfl <;> rfl) (Nat.le_of_ble_eq_true rfl) (Nat.le_of_ble_eq_true rfl) dL_law_8 (fun q1 H2 hP hD hS => ?_)
  refine lv_dup hx hb dL_law_11 rfl ?_
  refine va_callv (va_runI (As := []) (rest := [.ref q1]) ⟨hx, hb, hml, hown, hts⟩ (c_X3_init l G cy q1 H2.size) (cwI 0 hts gL_law_X3_init rfl rfl rfl (hts (.initialized RX3) (by decide +kernel)) (hts (.methodLink RL 86 yX3_init) (by decide +kernel)) (hts (.instanceMethod yX3_init) (by decide +kernel)) rfl (by decide +kernel) ⟨Nat.le_of_ble_eq_true rfl, Nat.le_of_ble_eq_true rfl⟩) ⟨iPc_blind, fun U hU hW => ⟨rfl, by rw [hU], by rw [hU]; exact last_P hP, va_K.moved hW.alike hK⟩⟩ rfl rfl hl.1 rfl (lv_room (Nat.le_of_ble_eq_true rfl)) dL_law_12 ⟨Nat.le_of_ble_eq_true rfl, Nat.le_of_ble_eq_true rfl⟩) hS (fun q _ h => freeA hD hS hA q h) (freeA hD hS hA) (fun adM t H3 locs ht hvm hw hB hz1 hk1 hS1 => ?_)
  obtain ⟨hw1, hIM⟩ := hw
  obtain ⟨hP1, _, hD1⟩ := hB
  rw [ht] at hP1
  obtain ⟨hP, hD⟩ := joinA hP hD hk1 (freeA hD hS hA) hP1 hD1
  have hS := hS1
  rw [← hw1]
  refine lv_astore_n (lv' := [(2, .ref (adM 0)), (1, .ref (ad 0)), (0, .ref b)]) hx hb dL_law_15 rfl hl (by decide) rfl (fun ls hl => ?_)
  refine k_iconst hx hb dL_law_16 ?_
  refine k_newL hx hb (hts (.arrayClass .long) (by decide +kernel)) hK hP hD hS hA 1 (by decide) rfl (by decide) (Nat.le_of_ble_eq_true rfl) (Nat.le_of_ble_eq_true rfl) dL_law_17 (fun ao H4 hP hD hS => ?_)
  refine lv_astore_n (lv' := [(3, .ref ao), (2, .ref (adM 0)), (1, .ref (ad 0)), (0, .ref b)]) hx hb dL_law_19 rfl hl (by decide) rfl (fun ls hl => ?_)
  refine k_iconst hx hb dL_law_20 ?_
  refine lv_istore (lv' := [(4, .int (iI 0)), (3, .ref ao), (2, .ref (adM 0)), (1, .ref (ad 0)), (0, .ref b)]) hx hb dL_law_21 hl (by decide) rfl (fun ls hl => ?_)
  obtain ⟨hPa, hPo⟩ := pApp hP
  obtain ⟨hPc, hPm⟩ := pApp hPa
  obtain ⟨hDa, hDo, hao⟩ := dApp hD
  obtain ⟨hDc, hDm, hcm⟩ := dApp hDa
  have hPc : va_P G vwCl (cW ad cy cS0) H4 := hPc
  have hDc : va_D A (cW ad cy cS0) := hDc
  have hL9 : LwS ad adM ao A := ⟨⟨hI, hIM⟩, fun j hj e => hao j 0 (ad j, cE ad cy cS0 j) (ao, eR0 cy 1) (by
      rw [List.getElem?_append_left (by simp [cW]; omega)]
      exact cW_at hj) rfl e.symm, fun j hj e => hao (33 + j) 0 (adM j, mE adM cy (mS2 3) j) (ao, eR0 cy 1) (by
      rw [List.getElem?_append_right (by simp [cW])]
      rw [show 33 + j - (([] : va_W) ++ cW ad cy cS0).length = j by simp [cW]]
      exact mW_at hj) rfl e.symm, fun i hi j hj e => hcm i j (ad i, cE ad cy cS0 i) (adM j, mE adM cy (mS2 3) j) (cW_at hi) (mW_at hj) e, fun j hj => hDc.2 j _ (cW_at hj), fun j hj => hDm.2 j _ (mW_at hj), hDo.2 0 (ao, eR0 cy 1) rfl⟩
  exact law_loop (G := G) (ad := ad) (adM := adM) (cy := cy) (ao := ao) (A := A) ⟨⟨hx, hb, hml, hown, hts⟩, ⟨hX, hbl, hbA, hL⟩, hL9, hA, hK, hXE, hN3, hfl⟩ hr hlk hA2 512 (fo := fun _ => iL 0) (i := 0) jj_init ⟨hPc, hPm, hPo⟩ hS (lv_sub hl [4, 3, 2, 1, 0] rfl) (by omega) (by omega) (by omega) (by omega) (by omega)
