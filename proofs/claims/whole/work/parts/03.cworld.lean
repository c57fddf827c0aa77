/-! the class's world: cells 0 the lender, 1 its crops' row, 2 its farmers' row, 3+c a crop, 6+c its needs, 9+i a farmer, 17+i what was repaid, 25+i the instalments.
The state's row j is what the cell j holds, slot by slot -/
abbrev cHl (ad : Nat → Nat) (σ : Sg) : List Value := [.ref (ad 1), .ref (ad 2), .int (iI (σ 0 2)), .int (iI (σ 0 3)), .int (iI (σ 0 4))]
abbrev cCr (ad : Nat → Nat) (σ : Sg) (c : Nat) : List Value := [.ref (ad (6 + c)), .int (iI (σ (3 + c) 1)), .int (iI (σ (3 + c) 2))]
abbrev cFa (ad : Nat → Nat) (σ : Sg) (i : Nat) : List Value := [.int (iI (σ (9 + i) 0)), .long (iL (σ (9 + i) 1)), .long (iL (σ (9 + i) 2)), .long (iL (σ (9 + i) 3)), .long (iL (σ (9 + i) 4)), .long (iL (σ (9 + i) 5)), .ref (ad (17 + i)), .ref (ad (25 + i)), .int (iI (σ (9 + i) 8)), .int (iI (σ (9 + i) 9)), .int (iI (σ (9 + i) 10)), .int (iI (σ (9 + i) 11)), .int (iI (σ (9 + i) 12)), .int (iI (σ (9 + i) 13)), .int (iI (σ (9 + i) 14)), .int (iI (σ (9 + i) 15)), .int (iI (σ (9 + i) 16))]
abbrev cNd (cy : Nat → ClassId) (σ : Sg) (c : Nat) : va_E := .inl (cy 0, 4, .inl (fun q => iI (σ (6 + c) q)))
abbrev cRp (cy : Nat → ClassId) (σ : Sg) (i : Nat) : va_E := .inl (cy 1, 5, .inr (.inl (fun q => iL (σ (17 + i) q))))
abbrev cIn (cy : Nat → ClassId) (σ : Sg) (i : Nat) : va_E := .inl (cy 1, 3, .inr (.inl (fun q => iL (σ (25 + i) q))))
abbrev cCs (ad : Nat → Nat) (cy : Nat → ClassId) : va_E := .inl (cy 2, 3, .inr (.inr (.inr (.inr (fun q => some (ad (3 + q)))))))
abbrev cFs (ad : Nat → Nat) (cy : Nat → ClassId) : va_E := .inl (cy 3, 8, .inr (.inr (.inr (.inr (fun q => some (ad (9 + q)))))))
def cE (ad : Nat → Nat) (cy : Nat → ClassId) (σ : Sg) (j : Nat) : va_E :=
  if j = 0 then .inr (2, cHl ad σ)
  else if j = 1 then cCs ad cy
  else if j = 2 then cFs ad cy
  else if j < 6 then .inr (0, cCr ad σ (j - 3))
  else if j < 9 then cNd cy σ (j - 6)
  else if j < 17 then .inr (1, cFa ad σ (j - 9))
  else if j < 25 then cRp cy σ (j - 17)
  else cIn cy σ (j - 25)
def cW (ad : Nat → Nat) (cy : Nat → ClassId) (σ : Sg) : va_W := (List.range 33).map (fun j => (ad j, cE ad cy σ j))
abbrev cT (cy : Nat → ClassId) : List (ClassId × FieldType) := [(cy 0, .int), (cy 1, .long), (cy 2, .object RX0), (cy 3, .object RX1)]
def cA (ad : Nat → Nat) (sz : Nat) : Nat → Prop := fun q => (∃ j, j < 33 ∧ q = ad j) ∨ sz ≤ q
def cI (ad : Nat → Nat) : Prop := ∀ i j, i < 33 → j < 33 → ad i = ad j → i = j
theorem cW_at {ad : Nat → Nat} {cy : Nat → ClassId} {σ : Sg} {j : Nat} (h : j < 33) : (cW ad cy σ)[j]? = some (ad j, cE ad cy σ j) := by
  simp [cW, List.getElem?_range h]
theorem cW_some {ad : Nat → Nat} {cy : Nat → ClassId} {σ : Sg} {k : Nat} {q : Nat × va_E} (h : (cW ad cy σ)[k]? = some q) : k < 33 ∧ q = (ad k, cE ad cy σ k) := by
  by_cases hk : k < 33
  · rw [cW_at hk] at h
    exact ⟨hk, (Option.some.inj h).symm⟩
  · rw [List.getElem?_eq_none (by simp [cW]; omega)] at h
    cases h
theorem cE_hl {ad : Nat → Nat} {cy : Nat → ClassId} {σ : Sg} : cE ad cy σ 0 = .inr (2, cHl ad σ) := rfl
theorem cE_cr {ad : Nat → Nat} {cy : Nat → ClassId} {σ : Sg} {c : Nat} (h : c < 3) : cE ad cy σ (3 + c) = .inr (0, cCr ad σ c) := by
  have e1 : 3 + c ≠ 0 := by omega
  have e2 : 3 + c ≠ 1 := by omega
  have e3 : 3 + c ≠ 2 := by omega
  have e4 : 3 + c < 6 := by omega
  have e5 : 3 + c - 3 = c := by omega
  simp only [cE, e1, e2, e3, e4, e5, if_true, if_false]
theorem cE_nd {ad : Nat → Nat} {cy : Nat → ClassId} {σ : Sg} {c : Nat} (h : c < 3) : cE ad cy σ (6 + c) = cNd cy σ c := by
  have e1 : 6 + c ≠ 0 := by omega
  have e2 : 6 + c ≠ 1 := by omega
  have e3 : 6 + c ≠ 2 := by omega
  have e4 : ¬ 6 + c < 6 := by omega
  have e5 : 6 + c < 9 := by omega
  have e6 : 6 + c - 6 = c := by omega
  simp only [cE, e1, e2, e3, e4, e5, e6, if_true, if_false]
theorem cE_fa {ad : Nat → Nat} {cy : Nat → ClassId} {σ : Sg} {i : Nat} (h : i < 8) : cE ad cy σ (9 + i) = .inr (1, cFa ad σ i) := by
  have e1 : 9 + i ≠ 0 := by omega
  have e2 : 9 + i ≠ 1 := by omega
  have e3 : 9 + i ≠ 2 := by omega
  have e4 : ¬ 9 + i < 6 := by omega
  have e5 : ¬ 9 + i < 9 := by omega
  have e6 : 9 + i < 17 := by omega
  have e7 : 9 + i - 9 = i := by omega
  simp only [cE, e1, e2, e3, e4, e5, e6, e7, if_true, if_false]
theorem cE_rp {ad : Nat → Nat} {cy : Nat → ClassId} {σ : Sg} {i : Nat} (h : i < 8) : cE ad cy σ (17 + i) = cRp cy σ i := by
  have e1 : 17 + i ≠ 0 := by omega
  have e2 : 17 + i ≠ 1 := by omega
  have e3 : 17 + i ≠ 2 := by omega
  have e4 : ¬ 17 + i < 6 := by omega
  have e5 : ¬ 17 + i < 9 := by omega
  have e6 : ¬ 17 + i < 17 := by omega
  have e7 : 17 + i < 25 := by omega
  have e8 : 17 + i - 17 = i := by omega
  simp only [cE, e1, e2, e3, e4, e5, e6, e7, e8, if_true, if_false]
theorem cE_in {ad : Nat → Nat} {cy : Nat → ClassId} {σ : Sg} {i : Nat} (h : i < 8) : cE ad cy σ (25 + i) = cIn cy σ i := by
  have e1 : 25 + i ≠ 0 := by omega
  have e2 : 25 + i ≠ 1 := by omega
  have e3 : 25 + i ≠ 2 := by omega
  have e4 : ¬ 25 + i < 6 := by omega
  have e5 : ¬ 25 + i < 9 := by omega
  have e6 : ¬ 25 + i < 17 := by omega
  have e7 : ¬ 25 + i < 25 := by omega
  have e8 : 25 + i - 25 = i := by omega
  simp only [cE, e1, e2, e3, e4, e5, e6, e7, e8, if_true, if_false]
theorem cW_hl {ad : Nat → Nat} {cy : Nat → ClassId} {σ : Sg} : (cW ad cy σ)[0]? = some (ad 0, .inr (2, cHl ad σ)) := cW_at (by decide)
theorem cW_cs {ad : Nat → Nat} {cy : Nat → ClassId} {σ : Sg} : (cW ad cy σ)[1]? = some (ad 1, cCs ad cy) := cW_at (by decide)
theorem cW_fs {ad : Nat → Nat} {cy : Nat → ClassId} {σ : Sg} : (cW ad cy σ)[2]? = some (ad 2, cFs ad cy) := cW_at (by decide)
theorem cW_cr {ad : Nat → Nat} {cy : Nat → ClassId} {σ : Sg} {c : Nat} (h : c < 3) : (cW ad cy σ)[3 + c]? = some (ad (3 + c), .inr (0, cCr ad σ c)) := by rw [cW_at (by omega), cE_cr h]
theorem cW_nd {ad : Nat → Nat} {cy : Nat → ClassId} {σ : Sg} {c : Nat} (h : c < 3) : (cW ad cy σ)[6 + c]? = some (ad (6 + c), cNd cy σ c) := by rw [cW_at (by omega), cE_nd h]
theorem cW_fa {ad : Nat → Nat} {cy : Nat → ClassId} {σ : Sg} {i : Nat} (h : i < 8) : (cW ad cy σ)[9 + i]? = some (ad (9 + i), .inr (1, cFa ad σ i)) := by rw [cW_at (by omega), cE_fa h]
theorem cW_rp {ad : Nat → Nat} {cy : Nat → ClassId} {σ : Sg} {i : Nat} (h : i < 8) : (cW ad cy σ)[17 + i]? = some (ad (17 + i), cRp cy σ i) := by rw [cW_at (by omega), cE_rp h]
theorem cW_in {ad : Nat → Nat} {cy : Nat → ClassId} {σ : Sg} {i : Nat} (h : i < 8) : (cW ad cy σ)[25 + i]? = some (ad (25 + i), cIn cy σ i) := by rw [cW_at (by omega), cE_in h]
theorem cD {ad : Nat → Nat} (hI : cI ad) {A : Nat → Prop} (hAc : ∀ j, j < 33 → A (ad j)) (cy : Nat → ClassId) (σ : Sg) : va_D A (cW ad cy σ) := by
  refine ⟨fun i j p q hp hq he => ?_, fun k q hk => ?_⟩
  · obtain ⟨h1, rfl⟩ := cW_some hp
    obtain ⟨h2, rfl⟩ := cW_some hq
    exact hI i j h1 h2 he
  · obtain ⟨h1, rfl⟩ := cW_some hk
    exact hAc k h1
/-- a cell reads its own row alone -/
theorem cE_up {ad : Nat → Nat} {cy : Nat → ClassId} {σ : Sg} {j b : Nat} {v : Int} (k : Nat) (hk : k < 33) (hne : k ≠ j) : cE ad cy (up σ j b v) k = cE ad cy σ k := by
  unfold cE
  split
  · rename_i h
    subst h
    simp [cHl, up_a hne]
  · split
    · rfl
    · split
      · rfl
      · split
        · have e : 3 + (k - 3) ≠ j := by omega
          simp [cCr, up_a e]
        · split
          · have e : 6 + (k - 6) ≠ j := by omega
            simp [cNd, up_a e]
          · split
            · have e : 9 + (k - 9) ≠ j := by omega
              simp [cFa, up_a e]
            · split
              · have e : 17 + (k - 17) ≠ j := by omega
                simp [cRp, up_a e]
              · have e : 25 + (k - 25) ≠ j := by omega
                simp [cIn, up_a e]
/-- one cell of the world changed -/
theorem cW_set {ad : Nat → Nat} {cy : Nat → ClassId} {σ : Sg} {j b : Nat} {v : Int} {x : va_E} (hj : j < 33) (hx : x = cE ad cy (up σ j b v) j) : (cW ad cy σ).set j (ad j, x) = cW ad cy (up σ j b v) := by
  apply List.ext_getElem?
  intro k
  by_cases hk : k < 33
  · rw [cW_at hk, List.getElem?_set]
    by_cases e : j = k
    · subst e
      have hlen : j < (cW ad cy σ).length := by simp [cW]; exact hk
      simp [hlen, hx]
    · simp only [e, if_false]
      rw [cW_at hk, cE_up k hk (fun h => e h.symm)]
  · rw [List.getElem?_eq_none (by simp [cW]; omega), List.getElem?_eq_none (by simp [cW]; omega)]
def cFx (b : Nat) : Bool := b == 0 || (8 ≤ b && b ≤ 16)
def cFy (b : Nat) : Bool := 1 ≤ b && b ≤ 5
theorem cW_putI {ad : Nat → Nat} {cy : Nat → ClassId} {σ : Sg} {i b : Nat} {v : Int} (hi : i < 8) (hb : cFx b = true) : (cW ad cy σ).set (9 + i) (ad (9 + i), .inr (1, (cFa ad σ i).set b (.int (iI v)))) = cW ad cy (up σ (9 + i) b v) := by
  refine cW_set (by omega) ?_
  rw [cE_fa hi]
  have hb' : b = 0 ∨ b = 8 ∨ b = 9 ∨ b = 10 ∨ b = 11 ∨ b = 12 ∨ b = 13 ∨ b = 14 ∨ b = 15 ∨ b = 16 := by simp [cFx] at hb; omega
  rcases hb' with rfl | rfl | rfl | rfl | rfl | rfl | rfl | rfl | rfl | rfl <;> simp [cFa, up]
theorem cW_putL {ad : Nat → Nat} {cy : Nat → ClassId} {σ : Sg} {i b : Nat} {v : Int} (hi : i < 8) (hb : cFy b = true) : (cW ad cy σ).set (9 + i) (ad (9 + i), .inr (1, (cFa ad σ i).set b (.long (iL v)))) = cW ad cy (up σ (9 + i) b v) := by
  refine cW_set (by omega) ?_
  rw [cE_fa hi]
  have hb' : b = 1 ∨ b = 2 ∨ b = 3 ∨ b = 4 ∨ b = 5 := by simp [cFy] at hb; omega
  rcases hb' with rfl | rfl | rfl | rfl | rfl <;> simp [cFa, up]
theorem cW_putH {ad : Nat → Nat} {cy : Nat → ClassId} {σ : Sg} {b : Nat} {v : Int} (hb : b = 2 ∨ b = 3 ∨ b = 4) : (cW ad cy σ).set 0 (ad 0, .inr (2, (cHl ad σ).set b (.int (iI v)))) = cW ad cy (up σ 0 b v) := by
  refine cW_set (by omega) ?_
  rw [cE_hl]
  rcases hb with rfl | rfl | rfl <;> simp [cHl, up]
theorem cW_putC {ad : Nat → Nat} {cy : Nat → ClassId} {σ : Sg} {c b : Nat} {v : Int} (hc : c < 3) (hb : b = 1 ∨ b = 2) : (cW ad cy σ).set (3 + c) (ad (3 + c), .inr (0, (cCr ad σ c).set b (.int (iI v)))) = cW ad cy (up σ (3 + c) b v) := by
  refine cW_set (by omega) ?_
  rw [cE_cr hc]
  rcases hb with rfl | rfl <;> simp [cCr, up]
theorem cW_putN {ad : Nat → Nat} {cy : Nat → ClassId} {σ : Sg} {c b : Nat} {v : Int} (hc : c < 3) : (cW ad cy σ).set (6 + c) (ad (6 + c), .inl (cy 0, 4, .inl (upd (fun q => iI (σ (6 + c) q)) b (iI v)))) = cW ad cy (up σ (6 + c) b v) := by
  refine cW_set (by omega) ?_
  rw [cE_nd hc]
  have e : upd (fun q => iI (σ (6 + c) q)) b (iI v) = fun q => iI (up σ (6 + c) b v (6 + c) q) := by
    funext q
    by_cases h : q = b <;> simp [upd, up, h]
  rw [e]
theorem vpL_up {σ : Sg} {r b : Nat} {v : Int} : vp_updL (fun q => iL (σ r q)) b (iL v) = fun q => iL (up σ r b v r q) := by
  funext q
  by_cases h : q = b <;> simp [vp_updL, up, h]
theorem cW_putRp {ad : Nat → Nat} {cy : Nat → ClassId} {σ : Sg} {i b : Nat} {v : Int} (hi : i < 8) : (cW ad cy σ).set (17 + i) (ad (17 + i), .inl (cy 1, 5, .inr (.inl (vp_updL (fun q => iL (σ (17 + i) q)) b (iL v))))) = cW ad cy (up σ (17 + i) b v) := by
  refine cW_set (by omega) ?_
  rw [cE_rp hi, vpL_up]
theorem cW_putIn {ad : Nat → Nat} {cy : Nat → ClassId} {σ : Sg} {i b : Nat} {v : Int} (hi : i < 8) : (cW ad cy σ).set (25 + i) (ad (25 + i), .inl (cy 1, 3, .inr (.inl (vp_updL (fun q => iL (σ (25 + i) q)) b (iL v))))) = cW ad cy (up σ (25 + i) b v) := by
  refine cW_set (by omega) ?_
  rw [cE_in hi, vpL_up]
section KC
variable {p : Program} {l : Launch} {e : Env} {R : Room} {s : State} {m : MethodId} {args : Array Value} {below : List Frame} {meth : Method} {c : Code} {H : Heap} {locs : List Loc} {cells slots : Nat} {Q : State → Prop} {cc : ByteArray} {pc : Nat} {ls : Array Slot} {rest : List Value}
variable {G : va_G} {ad : Nat → Nat} {cy : Nat → ClassId} {σ : Sg} {A : Nat → Prop} {H0 : Heap} {own : String} {index : Nat} {Ts : List Cond}
/-- a field of a farmer -/
theorem k_gF (hx : p.tables.exec = Jvm.exec) (hb : c.code = cc) (hts : ∀ w ∈ Ts, w.before args s = true) (hown : s.vm.findClass own = some m.cls) (hin : ∀ w ∈ wsX10, w ∈ Ts) (hK : va_K G vwCl (cT cy) s) (hP : va_P G vwCl (cW ad cy σ) H) {i : Nat} (hi : i < 8) (b : Nat) (hbN : b < 17) (hlink : (Cond.fieldLink own index RX1 (TX1 b).2.1 (TX1 b).2.2.1).before args s = true) (hd : decode cc pc = .ok (.getfield index, 3)) (hs : (TX1 b).1 = RX1) {v : Value} (hv : (cFa ad σ i)[b]? = some v) (kk : W p l e R s m args below meth c H locs cells slots Q (F0 m (pc + 3) ls (v :: rest))) : W p l e R s m args below meth c H locs cells slots Q (F0 m pc ls (.ref (ad (9 + i)) :: rest)) :=
  va_get (C := RX1) (T := TX1) (N := 17) (ci := 1) hx hb hts hin hown hK hP (9 + i) (cW_fa hi) rfl b hbN hlink (fun x h => by rw [hs] at h; exact h) hv hd kk
theorem k_pFi (hx : p.tables.exec = Jvm.exec) (hb : c.code = cc) (hts : ∀ w ∈ Ts, w.before args s = true) (hown : s.vm.findClass own = some m.cls) (hin : ∀ w ∈ wsX10, w ∈ Ts) (hI : cI ad) (hAc : ∀ j, j < 33 → A (ad j)) (hK : va_K G vwCl (cT cy) s) (hP : va_P G vwCl (cW ad cy σ) H) (hS : va_S A H0 H locs) {i : Nat} (hi : i < 8) (b : Nat) (hbx : cFx b = true) (hbN : b < 17) (hlink : (Cond.fieldLink own index RX1 (TX1 b).2.1 (TX1 b).2.2.1).before args s = true) (hd : decode cc pc = .ok (.putfield index, 3)) (hs : (TX1 b).1 = RX1) (hf : (TX1 b).2.2.2 = false) (ht : parseFieldDescriptor (TX1 b).2.2.1 = some .int) {v : Int} (kk : ∀ (H : Heap) (locs : List Loc), va_P G vwCl (cW ad cy (up σ (9 + i) b v)) H → va_S A H0 H locs → W p l e R s m args below meth c H locs cells slots Q (F0 m (pc + 3) ls rest)) : W p l e R s m args below meth c H locs cells slots Q (F0 m pc ls (.int (iI v) :: .ref (ad (9 + i)) :: rest)) :=
  va_put (C := RX1) (T := TX1) (N := 17) (ci := 1) (ty := .int) hx hb hts hin tyX1 tyX1_ok nmX1 hown hK hP (cD hI hAc cy σ) hS (9 + i) (cW_fa hi) rfl b hbN hlink (fun x h => by rw [hs] at h; exact h) hf ht rfl rfl (by simp [cFa]; omega) hd (fun H1 locs1 hP1 _ hS1 => kk H1 locs1 (by rw [← cW_putI hi hbx]; exact hP1) hS1)
theorem k_pFl (hx : p.tables.exec = Jvm.exec) (hb : c.code = cc) (hts : ∀ w ∈ Ts, w.before args s = true) (hown : s.vm.findClass own = some m.cls) (hin : ∀ w ∈ wsX10, w ∈ Ts) (hI : cI ad) (hAc : ∀ j, j < 33 → A (ad j)) (hK : va_K G vwCl (cT cy) s) (hP : va_P G vwCl (cW ad cy σ) H) (hS : va_S A H0 H locs) {i : Nat} (hi : i < 8) (b : Nat) (hbx : cFy b = true) (hbN : b < 17) (hlink : (Cond.fieldLink own index RX1 (TX1 b).2.1 (TX1 b).2.2.1).before args s = true) (hd : decode cc pc = .ok (.putfield index, 3)) (hs : (TX1 b).1 = RX1) (hf : (TX1 b).2.2.2 = false) (ht : parseFieldDescriptor (TX1 b).2.2.1 = some .long) {v : Int} (kk : ∀ (H : Heap) (locs : List Loc), va_P G vwCl (cW ad cy (up σ (9 + i) b v)) H → va_S A H0 H locs → W p l e R s m args below meth c H locs cells slots Q (F0 m (pc + 3) ls rest)) : W p l e R s m args below meth c H locs cells slots Q (F0 m pc ls (.long (iL v) :: .ref (ad (9 + i)) :: rest)) :=
  va_put (C := RX1) (T := TX1) (N := 17) (ci := 1) (ty := .long) hx hb hts hin tyX1 tyX1_ok nmX1 hown hK hP (cD hI hAc cy σ) hS (9 + i) (cW_fa hi) rfl b hbN hlink (fun x h => by rw [hs] at h; exact h) hf ht rfl rfl (by simp [cFa]; omega) hd (fun H1 locs1 hP1 _ hS1 => kk H1 locs1 (by rw [← cW_putL hi hbx]; exact hP1) hS1)
/-- a field of the lender -/
theorem k_gH (hx : p.tables.exec = Jvm.exec) (hb : c.code = cc) (hts : ∀ w ∈ Ts, w.before args s = true) (hown : s.vm.findClass own = some m.cls) (hin : ∀ w ∈ wsX20, w ∈ Ts) (hK : va_K G vwCl (cT cy) s) (hP : va_P G vwCl (cW ad cy σ) H) (b : Nat) (hbN : b < 5) (hlink : (Cond.fieldLink own index RX2 (TX2 b).2.1 (TX2 b).2.2.1).before args s = true) (hd : decode cc pc = .ok (.getfield index, 3)) (hs : (TX2 b).1 = RX2) {v : Value} (hv : (cHl ad σ)[b]? = some v) (kk : W p l e R s m args below meth c H locs cells slots Q (F0 m (pc + 3) ls (v :: rest))) : W p l e R s m args below meth c H locs cells slots Q (F0 m pc ls (.ref (ad 0) :: rest)) :=
  va_get (C := RX2) (T := TX2) (N := 5) (ci := 2) hx hb hts hin hown hK hP 0 cW_hl rfl b hbN hlink (fun x h => by rw [hs] at h; exact h) hv hd kk
theorem k_pH (hx : p.tables.exec = Jvm.exec) (hb : c.code = cc) (hts : ∀ w ∈ Ts, w.before args s = true) (hown : s.vm.findClass own = some m.cls) (hin : ∀ w ∈ wsX20, w ∈ Ts) (hI : cI ad) (hAc : ∀ j, j < 33 → A (ad j)) (hK : va_K G vwCl (cT cy) s) (hP : va_P G vwCl (cW ad cy σ) H) (hS : va_S A H0 H locs) (b : Nat) (hbx : b = 2 ∨ b = 3 ∨ b = 4) (hbN : b < 5) (hlink : (Cond.fieldLink own index RX2 (TX2 b).2.1 (TX2 b).2.2.1).before args s = true) (hd : decode cc pc = .ok (.putfield index, 3)) (hs : (TX2 b).1 = RX2) (hf : (TX2 b).2.2.2 = false) (ht : parseFieldDescriptor (TX2 b).2.2.1 = some .int) {v : Int} (kk : ∀ (H : Heap) (locs : List Loc), va_P G vwCl (cW ad cy (up σ 0 b v)) H → va_S A H0 H locs → W p l e R s m args below meth c H locs cells slots Q (F0 m (pc + 3) ls rest)) : W p l e R s m args below meth c H locs cells slots Q (F0 m pc ls (.int (iI v) :: .ref (ad 0) :: rest)) :=
  va_put (C := RX2) (T := TX2) (N := 5) (ci := 2) (ty := .int) hx hb hts hin tyX2 tyX2_ok nmX2 hown hK hP (cD hI hAc cy σ) hS 0 cW_hl rfl b hbN hlink (fun x h => by rw [hs] at h; exact h) hf ht rfl rfl (by simp [cHl]; omega) hd (fun H1 locs1 hP1 _ hS1 => kk H1 locs1 (by rw [← cW_putH hbx]; exact hP1) hS1)
/-- a field of a crop -/
theorem k_gC (hx : p.tables.exec = Jvm.exec) (hb : c.code = cc) (hts : ∀ w ∈ Ts, w.before args s = true) (hown : s.vm.findClass own = some m.cls) (hin : ∀ w ∈ wsX00, w ∈ Ts) (hK : va_K G vwCl (cT cy) s) (hP : va_P G vwCl (cW ad cy σ) H) {i : Nat} (hi : i < 3) (b : Nat) (hbN : b < 3) (hlink : (Cond.fieldLink own index RX0 (TX0 b).2.1 (TX0 b).2.2.1).before args s = true) (hd : decode cc pc = .ok (.getfield index, 3)) (hs : (TX0 b).1 = RX0) {v : Value} (hv : (cCr ad σ i)[b]? = some v) (kk : W p l e R s m args below meth c H locs cells slots Q (F0 m (pc + 3) ls (v :: rest))) : W p l e R s m args below meth c H locs cells slots Q (F0 m pc ls (.ref (ad (3 + i)) :: rest)) :=
  va_get (C := RX0) (T := TX0) (N := 3) (ci := 0) hx hb hts hin hown hK hP (3 + i) (cW_cr hi) rfl b hbN hlink (fun x h => by rw [hs] at h; exact h) hv hd kk
theorem k_pC (hx : p.tables.exec = Jvm.exec) (hb : c.code = cc) (hts : ∀ w ∈ Ts, w.before args s = true) (hown : s.vm.findClass own = some m.cls) (hin : ∀ w ∈ wsX00, w ∈ Ts) (hI : cI ad) (hAc : ∀ j, j < 33 → A (ad j)) (hK : va_K G vwCl (cT cy) s) (hP : va_P G vwCl (cW ad cy σ) H) (hS : va_S A H0 H locs) {i : Nat} (hi : i < 3) (b : Nat) (hbx : b = 1 ∨ b = 2) (hbN : b < 3) (hlink : (Cond.fieldLink own index RX0 (TX0 b).2.1 (TX0 b).2.2.1).before args s = true) (hd : decode cc pc = .ok (.putfield index, 3)) (hs : (TX0 b).1 = RX0) (hf : (TX0 b).2.2.2 = false) (ht : parseFieldDescriptor (TX0 b).2.2.1 = some .int) {v : Int} (kk : ∀ (H : Heap) (locs : List Loc), va_P G vwCl (cW ad cy (up σ (3 + i) b v)) H → va_S A H0 H locs → W p l e R s m args below meth c H locs cells slots Q (F0 m (pc + 3) ls rest)) : W p l e R s m args below meth c H locs cells slots Q (F0 m pc ls (.int (iI v) :: .ref (ad (3 + i)) :: rest)) :=
  va_put (C := RX0) (T := TX0) (N := 3) (ci := 0) (ty := .int) hx hb hts hin tyX0 tyX0_ok nmX0 hown hK hP (cD hI hAc cy σ) hS (3 + i) (cW_cr hi) rfl b hbN hlink (fun x h => by rw [hs] at h; exact h) hf ht rfl rfl (by simp [cCr]; omega) hd (fun H1 locs1 hP1 _ hS1 => kk H1 locs1 (by rw [← cW_putC hi hbx]; exact hP1) hS1)
/-- the arrays -/
theorem k_nld (hx : p.tables.exec = Jvm.exec) (hb : c.code = cc) (hK : va_K G vwCl (cT cy) s) (hP : va_P G vwCl (cW ad cy σ) H) {i : Nat} (hi : i < 3) {x : Int} (h0 : 0 ≤ x) (h1 : x < 4) (hd : decode cc pc = .ok (.iaload, 1)) (kk : W p l e R s m args below meth c H locs cells slots Q (F0 m (pc + 1) ls (.int (iI (σ (6 + i) x.toNat)) :: rest))) : W p l e R s m args below meth c H locs cells slots Q (F0 m pc ls (.int (iI x) :: .ref (ad (6 + i)) :: rest)) :=
  va_iald hx hb hK hP (6 + i) 0 (cW_nd hi) rfl (iI_in h0 h1 (by decide)) hd (by rw [iI_cl ⟨by omega, by omega⟩]; exact kk)
theorem k_nst (hx : p.tables.exec = Jvm.exec) (hb : c.code = cc) (hI : cI ad) (hAc : ∀ j, j < 33 → A (ad j)) (hK : va_K G vwCl (cT cy) s) (hP : va_P G vwCl (cW ad cy σ) H) (hS : va_S A H0 H locs) {i : Nat} (hi : i < 3) {x v : Int} (h0 : 0 ≤ x) (h1 : x < 4) (hd : decode cc pc = .ok (.iastore, 1)) (kk : ∀ (H : Heap) (locs : List Loc), va_P G vwCl (cW ad cy (up σ (6 + i) x.toNat v)) H → va_S A H0 H locs → W p l e R s m args below meth c H locs cells slots Q (F0 m (pc + 1) ls rest)) : W p l e R s m args below meth c H locs cells slots Q (F0 m pc ls (.int (iI v) :: .int (iI x) :: .ref (ad (6 + i)) :: rest)) :=
  va_iast hx hb hK hP (cD hI hAc cy σ) hS (6 + i) 0 (cW_nd hi) rfl (iI_in h0 h1 (by decide)) hd (fun H1 locs1 hP1 _ hS1 => kk H1 locs1 (by rw [← cW_putN hi, ← iI_cl (x := x) ⟨by omega, by omega⟩]; exact hP1) hS1)
theorem k_rld (hx : p.tables.exec = Jvm.exec) (hb : c.code = cc) (hK : va_K G vwCl (cT cy) s) (hP : va_P G vwCl (cW ad cy σ) H) {i : Nat} (hi : i < 8) {x : Int} (h0 : 0 ≤ x) (h1 : x < 5) (hd : decode cc pc = .ok (.laload, 1)) (kk : W p l e R s m args below meth c H locs cells slots Q (F0 m (pc + 1) ls (.long (iL (σ (17 + i) x.toNat)) :: rest))) : W p l e R s m args below meth c H locs cells slots Q (F0 m pc ls (.int (iI x) :: .ref (ad (17 + i)) :: rest)) :=
  va_lald hx hb hK hP (17 + i) 1 (cW_rp hi) rfl (iI_in h0 h1 (by decide)) hd (by rw [iI_cl ⟨by omega, by omega⟩]; exact kk)
theorem k_rst (hx : p.tables.exec = Jvm.exec) (hb : c.code = cc) (hI : cI ad) (hAc : ∀ j, j < 33 → A (ad j)) (hK : va_K G vwCl (cT cy) s) (hP : va_P G vwCl (cW ad cy σ) H) (hS : va_S A H0 H locs) {i : Nat} (hi : i < 8) {x v : Int} (h0 : 0 ≤ x) (h1 : x < 5) (hd : decode cc pc = .ok (.lastore, 1)) (kk : ∀ (H : Heap) (locs : List Loc), va_P G vwCl (cW ad cy (up σ (17 + i) x.toNat v)) H → va_S A H0 H locs → W p l e R s m args below meth c H locs cells slots Q (F0 m (pc + 1) ls rest)) : W p l e R s m args below meth c H locs cells slots Q (F0 m pc ls (.long (iL v) :: .int (iI x) :: .ref (ad (17 + i)) :: rest)) :=
  va_last hx hb hK hP (cD hI hAc cy σ) hS (17 + i) 1 (cW_rp hi) rfl (iI_in h0 h1 (by decide)) hd (fun H1 locs1 hP1 _ hS1 => kk H1 locs1 (by rw [← cW_putRp hi, ← iI_cl (x := x) ⟨by omega, by omega⟩]; exact hP1) hS1)
theorem k_tld (hx : p.tables.exec = Jvm.exec) (hb : c.code = cc) (hK : va_K G vwCl (cT cy) s) (hP : va_P G vwCl (cW ad cy σ) H) {i : Nat} (hi : i < 8) {x : Int} (h0 : 0 ≤ x) (h1 : x < 3) (hd : decode cc pc = .ok (.laload, 1)) (kk : W p l e R s m args below meth c H locs cells slots Q (F0 m (pc + 1) ls (.long (iL (σ (25 + i) x.toNat)) :: rest))) : W p l e R s m args below meth c H locs cells slots Q (F0 m pc ls (.int (iI x) :: .ref (ad (25 + i)) :: rest)) :=
  va_lald hx hb hK hP (25 + i) 1 (cW_in hi) rfl (iI_in h0 h1 (by decide)) hd (by rw [iI_cl ⟨by omega, by omega⟩]; exact kk)
theorem k_tst (hx : p.tables.exec = Jvm.exec) (hb : c.code = cc) (hI : cI ad) (hAc : ∀ j, j < 33 → A (ad j)) (hK : va_K G vwCl (cT cy) s) (hP : va_P G vwCl (cW ad cy σ) H) (hS : va_S A H0 H locs) {i : Nat} (hi : i < 8) {x v : Int} (h0 : 0 ≤ x) (h1 : x < 3) (hd : decode cc pc = .ok (.lastore, 1)) (kk : ∀ (H : Heap) (locs : List Loc), va_P G vwCl (cW ad cy (up σ (25 + i) x.toNat v)) H → va_S A H0 H locs → W p l e R s m args below meth c H locs cells slots Q (F0 m (pc + 1) ls rest)) : W p l e R s m args below meth c H locs cells slots Q (F0 m pc ls (.long (iL v) :: .int (iI x) :: .ref (ad (25 + i)) :: rest)) :=
  va_last hx hb hK hP (cD hI hAc cy σ) hS (25 + i) 1 (cW_in hi) rfl (iI_in h0 h1 (by decide)) hd (fun H1 locs1 hP1 _ hS1 => kk H1 locs1 (by rw [← cW_putIn hi, ← iI_cl (x := x) ⟨by omega, by omega⟩]; exact hP1) hS1)
theorem k_cld (hx : p.tables.exec = Jvm.exec) (hb : c.code = cc) (hK : va_K G vwCl (cT cy) s) (hP : va_P G vwCl (cW ad cy σ) H) {x : Int} (h0 : 0 ≤ x) (h1 : x < 3) (hd : decode cc pc = .ok (.aaload, 1)) (kk : W p l e R s m args below meth c H locs cells slots Q (F0 m (pc + 1) ls (.ref (ad (3 + x.toNat)) :: rest))) : W p l e R s m args below meth c H locs cells slots Q (F0 m pc ls (.int (iI x) :: .ref (ad 1) :: rest)) :=
  va_aldq hx hb hK hP 1 2 cW_cs rfl (iI_in h0 h1 (by decide)) hd (by rw [iI_cl ⟨by omega, by omega⟩]; exact kk)
theorem k_fld (hx : p.tables.exec = Jvm.exec) (hb : c.code = cc) (hK : va_K G vwCl (cT cy) s) (hP : va_P G vwCl (cW ad cy σ) H) {x : Int} (h0 : 0 ≤ x) (h1 : x < 8) (hd : decode cc pc = .ok (.aaload, 1)) (kk : W p l e R s m args below meth c H locs cells slots Q (F0 m (pc + 1) ls (.ref (ad (9 + x.toNat)) :: rest))) : W p l e R s m args below meth c H locs cells slots Q (F0 m pc ls (.int (iI x) :: .ref (ad 2) :: rest)) :=
  va_aldq hx hb hK hP 2 3 cW_fs rfl (iI_in h0 h1 (by decide)) hd (by rw [iI_cl ⟨by omega, by omega⟩]; exact kk)
/-- the same, the place a natural number -/
theorem k_nldN (hx : p.tables.exec = Jvm.exec) (hb : c.code = cc) (hK : va_K G vwCl (cT cy) s) (hP : va_P G vwCl (cW ad cy σ) H) {i : Nat} (hi : i < 3) {x : Nat} (h1 : x < 4) (hd : decode cc pc = .ok (.iaload, 1)) (kk : W p l e R s m args below meth c H locs cells slots Q (F0 m (pc + 1) ls (.int (iI (σ (6 + i) x)) :: rest))) : W p l e R s m args below meth c H locs cells slots Q (F0 m pc ls (.int (iI (x : Int)) :: .ref (ad (6 + i)) :: rest)) :=
  k_nld (x := (x : Int)) hx hb hK hP hi (Int.natCast_nonneg x) (by omega) hd kk
theorem k_nstN (hx : p.tables.exec = Jvm.exec) (hb : c.code = cc) (hI : cI ad) (hAc : ∀ j, j < 33 → A (ad j)) (hK : va_K G vwCl (cT cy) s) (hP : va_P G vwCl (cW ad cy σ) H) (hS : va_S A H0 H locs) {i : Nat} (hi : i < 3) {x : Nat} {v : Int} (h1 : x < 4) (hd : decode cc pc = .ok (.iastore, 1)) (kk : ∀ (H : Heap) (locs : List Loc), va_P G vwCl (cW ad cy (up σ (6 + i) x v)) H → va_S A H0 H locs → W p l e R s m args below meth c H locs cells slots Q (F0 m (pc + 1) ls rest)) : W p l e R s m args below meth c H locs cells slots Q (F0 m pc ls (.int (iI v) :: .int (iI (x : Int)) :: .ref (ad (6 + i)) :: rest)) :=
  k_nst (x := (x : Int)) hx hb hI hAc hK hP hS hi (Int.natCast_nonneg x) (by omega) hd kk
theorem k_rldN (hx : p.tables.exec = Jvm.exec) (hb : c.code = cc) (hK : va_K G vwCl (cT cy) s) (hP : va_P G vwCl (cW ad cy σ) H) {i : Nat} (hi : i < 8) {x : Nat} (h1 : x < 5) (hd : decode cc pc = .ok (.laload, 1)) (kk : W p l e R s m args below meth c H locs cells slots Q (F0 m (pc + 1) ls (.long (iL (σ (17 + i) x)) :: rest))) : W p l e R s m args below meth c H locs cells slots Q (F0 m pc ls (.int (iI (x : Int)) :: .ref (ad (17 + i)) :: rest)) :=
  k_rld (x := (x : Int)) hx hb hK hP hi (Int.natCast_nonneg x) (by omega) hd kk
theorem k_rstN (hx : p.tables.exec = Jvm.exec) (hb : c.code = cc) (hI : cI ad) (hAc : ∀ j, j < 33 → A (ad j)) (hK : va_K G vwCl (cT cy) s) (hP : va_P G vwCl (cW ad cy σ) H) (hS : va_S A H0 H locs) {i : Nat} (hi : i < 8) {x : Nat} {v : Int} (h1 : x < 5) (hd : decode cc pc = .ok (.lastore, 1)) (kk : ∀ (H : Heap) (locs : List Loc), va_P G vwCl (cW ad cy (up σ (17 + i) x v)) H → va_S A H0 H locs → W p l e R s m args below meth c H locs cells slots Q (F0 m (pc + 1) ls rest)) : W p l e R s m args below meth c H locs cells slots Q (F0 m pc ls (.long (iL v) :: .int (iI (x : Int)) :: .ref (ad (17 + i)) :: rest)) :=
  k_rst (x := (x : Int)) hx hb hI hAc hK hP hS hi (Int.natCast_nonneg x) (by omega) hd kk
theorem k_tldN (hx : p.tables.exec = Jvm.exec) (hb : c.code = cc) (hK : va_K G vwCl (cT cy) s) (hP : va_P G vwCl (cW ad cy σ) H) {i : Nat} (hi : i < 8) {x : Nat} (h1 : x < 3) (hd : decode cc pc = .ok (.laload, 1)) (kk : W p l e R s m args below meth c H locs cells slots Q (F0 m (pc + 1) ls (.long (iL (σ (25 + i) x)) :: rest))) : W p l e R s m args below meth c H locs cells slots Q (F0 m pc ls (.int (iI (x : Int)) :: .ref (ad (25 + i)) :: rest)) :=
  k_tld (x := (x : Int)) hx hb hK hP hi (Int.natCast_nonneg x) (by omega) hd kk
theorem k_tstN (hx : p.tables.exec = Jvm.exec) (hb : c.code = cc) (hI : cI ad) (hAc : ∀ j, j < 33 → A (ad j)) (hK : va_K G vwCl (cT cy) s) (hP : va_P G vwCl (cW ad cy σ) H) (hS : va_S A H0 H locs) {i : Nat} (hi : i < 8) {x : Nat} {v : Int} (h1 : x < 3) (hd : decode cc pc = .ok (.lastore, 1)) (kk : ∀ (H : Heap) (locs : List Loc), va_P G vwCl (cW ad cy (up σ (25 + i) x v)) H → va_S A H0 H locs → W p l e R s m args below meth c H locs cells slots Q (F0 m (pc + 1) ls rest)) : W p l e R s m args below meth c H locs cells slots Q (F0 m pc ls (.long (iL v) :: .int (iI (x : Int)) :: .ref (ad (25 + i)) :: rest)) :=
  k_tst (x := (x : Int)) hx hb hI hAc hK hP hS hi (Int.natCast_nonneg x) (by omega) hd kk
theorem k_cldN (hx : p.tables.exec = Jvm.exec) (hb : c.code = cc) (hK : va_K G vwCl (cT cy) s) (hP : va_P G vwCl (cW ad cy σ) H) {x : Nat} (h1 : x < 3) (hd : decode cc pc = .ok (.aaload, 1)) (kk : W p l e R s m args below meth c H locs cells slots Q (F0 m (pc + 1) ls (.ref (ad (3 + x)) :: rest))) : W p l e R s m args below meth c H locs cells slots Q (F0 m pc ls (.int (iI (x : Int)) :: .ref (ad 1) :: rest)) :=
  k_cld (x := (x : Int)) hx hb hK hP (Int.natCast_nonneg x) (by omega) hd kk
theorem k_fldN (hx : p.tables.exec = Jvm.exec) (hb : c.code = cc) (hK : va_K G vwCl (cT cy) s) (hP : va_P G vwCl (cW ad cy σ) H) {x : Nat} (h1 : x < 8) (hd : decode cc pc = .ok (.aaload, 1)) (kk : W p l e R s m args below meth c H locs cells slots Q (F0 m (pc + 1) ls (.ref (ad (9 + x)) :: rest))) : W p l e R s m args below meth c H locs cells slots Q (F0 m pc ls (.int (iI (x : Int)) :: .ref (ad 2) :: rest)) :=
  k_fld (x := (x : Int)) hx hb hK hP (Int.natCast_nonneg x) (by omega) hd kk
/-- contracts over the class's whole world -/
abbrev cPre (G : va_G) (ad : Nat → Nat) (cy : Nat → ClassId) (as : List Value) (σ : Sg) (sz : Nat) : Array Value → State → Prop := va_Pc as (fun U => U.heap.size = sz ∧ va_P G vwCl (cW ad cy σ) U.heap ∧ va_K G vwCl (cT cy) U)
abbrev cB (G : va_G) (ad : Nat → Nat) (cy : Nat → ClassId) : Sg → State → Prop := fun u t => va_P G vwCl (cW ad cy u) t.heap ∧ va_K G vwCl (cT cy) t
abbrev cMv (l : Launch) (y : MethodName) (ws : List Cond) (rm : Room) (G : va_G) (ad : Nat → Nat) (cy : Nat → ClassId) (as : List Value) (σ σ' : Sg) : Prop := ∀ sz, Met l y ws rm (cPre G ad cy as σ sz) (va_Qv (fun u : Sg => u = σ') (cB G ad cy) (cA ad sz)) 0 0 (cA ad sz)
abbrev cMi (l : Launch) (y : MethodName) (ws : List Cond) (rm : Room) (G : va_G) (ad : Nat → Nat) (cy : Nat → ClassId) (as : List Value) (σ : Sg) (r : Int) (σ' : Sg) : Prop := ∀ sz, Met l y ws rm (cPre G ad cy as σ sz) (va_Qi (fun (v : Int32) (u : Sg) => v = iI r ∧ u = σ') (cB G ad cy) (cA ad sz)) 0 0 (cA ad sz)
abbrev cMl (l : Launch) (y : MethodName) (ws : List Cond) (rm : Room) (G : va_G) (ad : Nat → Nat) (cy : Nat → ClassId) (as : List Value) (σ : Sg) (r : Int) (σ' : Sg) : Prop := ∀ sz, Met l y ws rm (cPre G ad cy as σ sz) (va_Ql (fun (v : Int64) (u : Sg) => v = iL r ∧ u = σ') (cB G ad cy) (cA ad sz)) 0 0 (cA ad sz)
theorem cPre_blind {as : List Value} {sz : Nat} : FrameBlind (cPre G ad cy as σ sz) := fun a U g mk q => ⟨q.1, q.2.1, q.2.2.1, va_K.moved (u := U) (U := U.calling g mk a) (Vm.Alike.refl U.vm) q.2.2.2⟩
theorem cA_to {sz : Nat} (hAc : ∀ j, j < 33 → A (ad j)) (hA : ∀ q, H0.size ≤ q → A q) (hS : va_S A H0 H locs) (hsz : sz = H.size) : ∀ q, cA ad sz q → A q := fun q h => by
  rcases h with ⟨j, hj, rfl⟩ | h
  · exact hAc j hj
  · exact hA q (by have := hS.1; omega)
/-- a cell of the world is a receiver -/
theorem cRecvF {i : Nat} (hK : va_K G vwCl (cT cy) s) (hP : va_P G vwCl (cW ad cy σ) H) (hi : i < 8) : ∃ cell : Cell, H[ad (9 + i)]? = some cell ∧ cell.vm.isStatics = false ∧ s.vm.findClass RX1 = some cell.cls := va_recv hK hP (ci := 1) (q := (RX1, TX1, 17)) rfl (cW_fa hi)
theorem cRecvC {i : Nat} (hK : va_K G vwCl (cT cy) s) (hP : va_P G vwCl (cW ad cy σ) H) (hi : i < 3) : ∃ cell : Cell, H[ad (3 + i)]? = some cell ∧ cell.vm.isStatics = false ∧ s.vm.findClass RX0 = some cell.cls := va_recv hK hP (ci := 0) (q := (RX0, TX0, 3)) rfl (cW_cr hi)
theorem cRecvH (hK : va_K G vwCl (cT cy) s) (hP : va_P G vwCl (cW ad cy σ) H) : ∃ cell : Cell, H[ad 0]? = some cell ∧ cell.vm.isStatics = false ∧ s.vm.findClass RX2 = some cell.cls := va_recv hK hP (ci := 2) (q := (RX2, TX2, 5)) rfl cW_hl
variable {y : MethodName} {bytes : ByteArray} {maxL nL n : Nat} {ret : Option FieldType} {ws : List Cond} {rm : Room} {C : String} {b : Addr} {As st0 : List Value} {σ' : Sg} {r : Int}
theorem k_cv (S : CallFix p m c cc nL s args Ts own) (hM : cMv l y ws rm G ad cy (.ref b :: As) σ σ') (cw : CallW R s args own C index y bytes maxL ret ws rm 0 0 n) (hr : ∃ cell : Cell, H[b]? = some cell ∧ cell.vm.isStatics = false ∧ s.vm.findClass C = some cell.cls) (hAc : ∀ j, j < 33 → A (ad j)) (hA : ∀ q, H0.size ≤ q → A q) (hK : va_K G vwCl (cT cy) s) (hP : va_P G vwCl (cW ad cy σ) H) (hS : va_S A H0 H locs) (hn : As.length = n) (hsize : ls.size = nL) (hst : st0 = As.reverse ++ .ref b :: rest) (hW : (rest.map fun v => v.category).sum ≤ 8) (hd : decode cc pc = .ok (.invokevirtual index, 3)) (hf : cells ≤ R.cells ∧ slots ≤ R.slots) (kk : ∀ (H : Heap) (locs : List Loc), va_P G vwCl (cW ad cy σ') H → va_S A H0 H locs → W p l e R s m args below meth c H locs cells slots Q (F0 m (pc + 3) ls rest)) : W p l e R s m args below meth c H locs cells slots Q (F0 m pc ls st0) :=
  va_callv (va_runV S (hM H.size) cw ⟨cPre_blind, hr, fun U hU hW => ⟨rfl, by rw [hU], by rw [hU]; exact hP, va_K.moved hW.alike hK⟩⟩ rfl hn hsize hst (by simpa [JFrame.monitorRoom] using hW) hd hf) hS (fun q _ h => cA_to hAc hA hS rfl q h) (cA_to hAc hA hS rfl) (fun u t H1 locs1 ht hvm hw hB _ _ hS1 => by
    subst hw
    subst ht
    exact kk _ _ hB.1 hS1)
theorem k_ci (S : CallFix p m c cc nL s args Ts own) (hM : cMi l y ws rm G ad cy (.ref b :: As) σ r σ') (cw : CallW R s args own C index y bytes maxL ret ws rm 0 0 n) (hr : ∃ cell : Cell, H[b]? = some cell ∧ cell.vm.isStatics = false ∧ s.vm.findClass C = some cell.cls) (hAc : ∀ j, j < 33 → A (ad j)) (hA : ∀ q, H0.size ≤ q → A q) (hK : va_K G vwCl (cT cy) s) (hP : va_P G vwCl (cW ad cy σ) H) (hS : va_S A H0 H locs) (hn : As.length = n) (hsize : ls.size = nL) (hst : st0 = As.reverse ++ .ref b :: rest) (hW : (rest.map fun v => v.category).sum ≤ 8) (hd : decode cc pc = .ok (.invokevirtual index, 3)) (hf : cells ≤ R.cells ∧ slots ≤ R.slots) (kk : ∀ (H : Heap) (locs : List Loc), va_P G vwCl (cW ad cy σ') H → va_S A H0 H locs → W p l e R s m args below meth c H locs cells slots Q (F0 m (pc + 3) ls (.int (iI r) :: rest))) : W p l e R s m args below meth c H locs cells slots Q (F0 m pc ls st0) :=
  va_calli (va_runV S (hM H.size) cw ⟨cPre_blind, hr, fun U hU hW => ⟨rfl, by rw [hU], by rw [hU]; exact hP, va_K.moved hW.alike hK⟩⟩ rfl hn hsize hst (by simpa [JFrame.monitorRoom] using hW) hd hf) hS (fun q _ h => cA_to hAc hA hS rfl q h) (cA_to hAc hA hS rfl) (fun r1 u t H1 locs1 ht hvm hw hB _ _ hS1 => by
    obtain ⟨rfl, rfl⟩ := hw
    subst ht
    exact kk _ _ hB.1 hS1)
theorem k_cl (S : CallFix p m c cc nL s args Ts own) (hM : cMl l y ws rm G ad cy (.ref b :: As) σ r σ') (cw : CallW R s args own C index y bytes maxL ret ws rm 0 0 n) (hr : ∃ cell : Cell, H[b]? = some cell ∧ cell.vm.isStatics = false ∧ s.vm.findClass C = some cell.cls) (hAc : ∀ j, j < 33 → A (ad j)) (hA : ∀ q, H0.size ≤ q → A q) (hK : va_K G vwCl (cT cy) s) (hP : va_P G vwCl (cW ad cy σ) H) (hS : va_S A H0 H locs) (hn : As.length = n) (hsize : ls.size = nL) (hst : st0 = As.reverse ++ .ref b :: rest) (hW : (rest.map fun v => v.category).sum ≤ 8) (hd : decode cc pc = .ok (.invokevirtual index, 3)) (hf : cells ≤ R.cells ∧ slots ≤ R.slots) (kk : ∀ (H : Heap) (locs : List Loc), va_P G vwCl (cW ad cy σ') H → va_S A H0 H locs → W p l e R s m args below meth c H locs cells slots Q (F0 m (pc + 3) ls (.long (iL r) :: rest))) : W p l e R s m args below meth c H locs cells slots Q (F0 m pc ls st0) :=
  va_calll (va_runV S (hM H.size) cw ⟨cPre_blind, hr, fun U hU hW => ⟨rfl, by rw [hU], by rw [hU]; exact hP, va_K.moved hW.alike hK⟩⟩ rfl hn hsize hst (by simpa [JFrame.monitorRoom] using hW) hd hf) hS (fun q _ h => cA_to hAc hA hS rfl q h) (cA_to hAc hA hS rfl) (fun r1 u t H1 locs1 ht hvm hw hB _ _ hS1 => by
    obtain ⟨rfl, rfl⟩ := hw
    subst ht
    exact kk _ _ hB.1 hS1)
end KC
