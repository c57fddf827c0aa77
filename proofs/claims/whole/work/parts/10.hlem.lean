/-! steps that touch one farmer's rows alone -/
def fLoc (f : Sg → Nat → Sg) : Prop := ∀ (σ : Sg) (i r : Nat), r ≠ 9 + i → r ≠ 17 + i → r ≠ 25 + i → f σ i r = σ r
theorem itr_loc {f : Sg → Nat → Sg} (hf : fLoc f) (σ : Sg) (r : Nat) : ∀ k : Nat, (∀ i, i < k → r ≠ 9 + i ∧ r ≠ 17 + i ∧ r ≠ 25 + i) → itr f σ k r = σ r := by
  intro k
  induction k with
  | zero => intro _; rfl
  | succ k ih =>
    intro h
    obtain ⟨a, b, d⟩ := h k (by omega)
    rw [itr, hf _ k r a b d]
    exact ih (fun i hi => h i (by omega))
theorem itr_lt {f : Sg → Nat → Sg} (hf : fLoc f) (σ : Sg) (k : Nat) {r : Nat} (hr : r < 9) : itr f σ k r = σ r := itr_loc hf σ r k (fun i _ => by omega)
theorem itr_at9 {f : Sg → Nat → Sg} (hf : fLoc f) (σ : Sg) {k : Nat} (hk : k < 8) : itr f σ k (9 + k) = σ (9 + k) := itr_loc hf σ _ k (fun i hi => by omega)
theorem itr_at17 {f : Sg → Nat → Sg} (hf : fLoc f) (σ : Sg) {k : Nat} (hk : k < 8) : itr f σ k (17 + k) = σ (17 + k) := itr_loc hf σ _ k (fun i hi => by omega)
theorem itr_at25 {f : Sg → Nat → Sg} (hf : fLoc f) (σ : Sg) {k : Nat} (hk : k < 8) : itr f σ k (25 + k) = σ (25 + k) := itr_loc hf σ _ k (fun i hi => by omega)
theorem up_r {σ : Sg} {a b : Nat} {v : Int} {r : Nat} (h : r ≠ a) : up σ a b v r = σ r := by funext y; exact up_a h
theorem fCharge_r {σ : Sg} {i : Nat} {x : Int} {r : Nat} (h : r ≠ 9 + i) : fCharge σ i x r = σ r := by rw [fCharge, up_r h, up_r h]
theorem fLower_r {σ : Sg} {i : Nat} {x : Int} {src r : Nat} (h : r ≠ 9 + i) (h2 : r ≠ 17 + i) : fLower σ i x src r = σ r := by rw [fLower, up_r h2, up_r h]
theorem fReceive_r {σ : Sg} {i : Nat} {x : Int} {src r : Nat} (h : r ≠ 9 + i) (h2 : r ≠ 17 + i) : fReceive σ i x src r = σ r := by rw [fReceive, up_r h, fLower_r h h2]
theorem fRepay_r {σ : Sg} {i : Nat} {x : Int} {r : Nat} (h : r ≠ 9 + i) (h2 : r ≠ 17 + i) : fRepay σ i x r = σ r := by rw [fRepay, fLower_r h h2, up_r h]
theorem locInterest : fLoc fInterest := fun σ i r h _ _ => by rw [fInterest, fCharge_r h]
theorem fHarvest_r {σ : Sg} {i c r : Nat} (h : r ≠ 9 + i) (h2 : r ≠ 17 + i) : fHarvest σ i c r = σ r := by
  unfold fHarvest
  split
  · rw [fReceive_r h h2, fHarvest0, up_r h, up_r h]
  · rw [fHarvest0, up_r h, up_r h]
theorem locHarv : fLoc fHarv := fun σ i r h h2 _ => by
  unfold fHarv
  split
  · rfl
  · exact fHarvest_r h h2
theorem fTake_r {σ : Sg} {i r : Nat} (h : r ≠ 9 + i) : fTake σ i r = σ r := by
  unfold fTake
  split
  · rfl
  · exact up_r h
theorem locSettle : fLoc fSettle := fun σ i r h h2 _ => by rw [fSettle, fRepay_r h h2, fSettle0, up_r h, fTake_r h, up_r h]
theorem locForget : fLoc fForget := fun σ i r h _ _ => by rw [fForget, up_r h, up_r h, up_r h, up_r h, up_r h]
theorem fNeed_up {σ : Sg} {r b : Nat} {v : Int} {c : Nat} (h : r ≠ 6 + c) : ∀ n : Nat, fNeed (up σ r b v) c n = fNeed σ c n := by
  intro n
  induction n with
  | zero => rfl
  | succ k ih => rw [fNeed, fNeed, ih, up_a (fun e => h e.symm)]
theorem fNeedUp_up {σ : Sg} {r b : Nat} {v : Int} {c : Nat} {st : Int} (h : r ≠ 6 + c) : fNeedUp (up σ r b v) c st = fNeedUp σ c st := fNeed_up h _
theorem cCrop_in {n : Int} (h1 : 0 ≤ n) (h2 : n < 3) : cCrop n = 0 := by
  unfold cCrop
  rw [if_neg (by omega)]
/-- what the groups' paying keeps -/
def cOk1 (σ : Sg) (i : Nat) : Prop := (0 ≤ σ (9 + i) 1 ∧ σ (9 + i) 1 ≤ 2147483647) ∧ (0 ≤ σ (9 + i) 2 ∧ σ (9 + i) 2 ≤ 2147483647) ∧ (0 ≤ σ (9 + i) 5 ∧ σ (9 + i) 5 ≤ 20000) ∧ nB (σ (9 + i) 12) ∧ nB (σ (9 + i) 15) ∧ nB (σ (9 + i) 8) ∧ nB (σ (9 + i) 0)
def cOk (σ : Sg) : Prop := ∀ i, i < 8 → cOk1 σ i
theorem fPayC_b {σ : Sg} {i j : Nat} (hi : cOk1 σ i) (hj : cOk1 σ j) : 0 ≤ fPayC σ i j ∧ fPayC σ i j ≤ σ (9 + j) 2 ∧ fPayC σ i j ≤ σ (9 + i) 1 ∧ fPayC σ i j ≤ 20000 - σ (9 + i) 5 := by
  obtain ⟨a1, a2, a3, -⟩ := hi
  obtain ⟨b1, b2, b3, -⟩ := hj
  have m1 := mn_le1 (σ (9 + i) 1) (20000 - σ (9 + i) 5)
  have m2 := mn_le2 (σ (9 + i) 1) (20000 - σ (9 + i) 5)
  have m3 := mn_ge (σ (9 + i) 1) (20000 - σ (9 + i) 5) 0 (by omega) (by omega)
  have n1 := mn_le1 (σ (9 + j) 2) (mn (σ (9 + i) 1) (20000 - σ (9 + i) 5))
  have n2 := mn_le2 (σ (9 + j) 2) (mn (σ (9 + i) 1) (20000 - σ (9 + i) 5))
  have n3 := mn_ge (σ (9 + j) 2) (mn (σ (9 + i) 1) (20000 - σ (9 + i) 5)) 0 (by omega) (by omega)
  unfold fPayC
  omega
theorem ok_pay {σ : Sg} {i j : Nat} (hi : i < 8) (hj : j < 8) (hij : i ≠ j) (h : cOk σ) : cOk (fPay σ i j) := by
  have b := fPayC_b (h i hi) (h j hj)
  intro k hk
  obtain ⟨a1, a2, a3, a4, a5, a6, a7⟩ := h k hk
  by_cases e : k = i
  · subst e
    refine ⟨?_, ?_, ?_, ?_, ?_, ?_, ?_⟩ <;> simp [fPay, fLower, up, hij] <;> omega
  · by_cases e2 : k = j
    · subst e2
      refine ⟨?_, ?_, ?_, ?_, ?_, ?_, ?_⟩ <;> simp [fPay, fLower, up, e] <;> omega
    · refine ⟨?_, ?_, ?_, ?_, ?_, ?_, ?_⟩ <;> simp [fPay, fLower, up, e, e2] <;> omega
theorem ok_coll {σ : Sg} {i j : Nat} (hi : i < 8) (hj : j < 8) (h : cOk σ) : cOk (fColl j σ i) := by
  unfold fColl
  split
  · exact h
  · split
    · exact ok_pay hi hj (by assumption) h
    · exact h
theorem itr_ok {P : Sg → Prop} {f : Sg → Nat → Sg} (hf : ∀ σ i, i < 8 → P σ → P (f σ i)) {σ : Sg} (h : P σ) : ∀ k : Nat, k ≤ 8 → P (itr f σ k) := by
  intro k
  induction k with
  | zero => intro _; exact h
  | succ k ih => intro hk; exact hf _ _ (by omega) (ih (by omega))
theorem fParts_r {σ : Sg} {i r : Nat} (h : r ≠ 25 + i) : ∀ k, fParts σ i k r = σ r := by
  intro k
  induction k with
  | zero => rfl
  | succ k ih => rw [fParts, up_r h, ih]
theorem ok_roll {σ : Sg} {i : Nat} (h : cOk σ) : cOk (fRoll σ i) := by
  intro k hk
  obtain ⟨a1, a2, a3, a4, a5, a6, a7⟩ := h k hk
  have e : ∀ b, fParts σ i 3 (9 + k) b = σ (9 + k) b := fun b => by
    by_cases h : 9 + k = 25 + i
    · omega
    · rw [fParts_r h]
  have e25 : 9 + k ≠ 25 + i := by omega
  by_cases e1 : k = i
  · subst e1
    refine ⟨?_, ?_, ?_, ?_, ?_, ?_, ?_⟩ <;> simp [fRoll, up, e, e25] <;> omega
  · refine ⟨?_, ?_, ?_, ?_, ?_, ?_, ?_⟩ <;> simp [fRoll, up, e, e1, e25] <;> omega
theorem ok_rest {σ : Sg} {i : Nat} (hi : i < 8) (hc : (σ 0 2).toNat ≤ 8) (h : cOk σ) : cOk (fRest σ i) := by
  unfold fRest
  split
  · exact h
  · split
    · exact itr_ok (fun σ k hk hs => ok_coll hk hi hs) h _ hc
    · exact ok_roll h
