/-! what the loops over the farmers keep -/
theorem fColl_r {σ : Sg} {i j r : Nat} (h : r ≠ 9 + i) (h2 : r ≠ 9 + j) (h3 : r ≠ 17 + j) : fColl j σ i r = σ r := by
  unfold fColl
  split
  · rfl
  · split
    · rw [fPay, fLower_r h2 h3, up_r h, up_r h]
    · rfl
theorem itrC_lt {j : Nat} {σ : Sg} {r : Nat} (h : r < 9) : ∀ k : Nat, itr (fColl j) σ k r = σ r := by
  intro k
  induction k with
  | zero => rfl
  | succ k ih => rw [itr, fColl_r (by omega) (by omega) (by omega), ih]
theorem fMR_nB (σ : Sg) (i : Nat) : nB (fMayRoll σ i) := by unfold fMayRoll; split <;> decide
theorem fRest_lt {σ : Sg} {i r : Nat} (h : r < 9) : fRest σ i r = σ r := by
  unfold fRest
  split
  · rfl
  · split
    · exact itrC_lt h _
    · rw [fRoll, up_r (by omega), up_r (by omega), up_r (by omega), fParts_r (by omega)]
theorem itrR_lt {σ : Sg} {r : Nat} (h : r < 9) : ∀ k : Nat, itr fRest σ k r = σ r := by
  intro k
  induction k with
  | zero => rfl
  | succ k ih => rw [itr, fRest_lt h, ih]
/-- what a harvest asks -/
def cHv (σ : Sg) : Prop := (0 ≤ σ 0 2 ∧ σ 0 2 ≤ 8) ∧ (∀ c, c < 3 → cCrB σ c) ∧ ∀ i, i < 8 → (-1 ≤ σ (9 + i) 12 ∧ σ (9 + i) 12 < 3) ∧ (0 ≤ σ (9 + i) 13 ∧ σ (9 + i) 13 ≤ 50) ∧ (0 ≤ σ (9 + i) 14 ∧ σ (9 + i) 14 ≤ 90) ∧ (0 ≤ σ (9 + i) 15 ∧ σ (9 + i) 15 ≤ 200) ∧ nB (σ (9 + i) 2)
theorem fNext0_r {σ : Sg} {r : Nat} (h : r < 9) (h0 : r ≠ 0) : fNext0 σ r = σ r := by rw [fNext0, itr_lt locInterest _ _ h, up_r h0]
theorem fNext0_0 {σ : Sg} {b : Nat} (h : b ≠ 4) : fNext0 σ 0 b = σ 0 b := by rw [fNext0, itr_lt locInterest _ _ (by decide), up_b h]
theorem fNext0_st {σ : Sg} : fNext0 σ 0 4 = σ 0 4 + 1 := by rw [fNext0, itr_lt locInterest _ _ (by decide), up_s]
/-- behind the n-th step: the rows of those that had theirs -/
theorem itr_done {f : Sg → Nat → Sg} (hf : fLoc f) (σ : Sg) {i b : Nat} (hi : i < 8) : ∀ n : Nat, n ≤ 8 → i < n → itr f σ n (9 + i) b = f (itr f σ i) i (9 + i) b := by
  intro n
  induction n with
  | zero => intro _ h; omega
  | succ n ih =>
    intro hn h
    by_cases e : i = n
    · subst e; rfl
    · rw [itr, hf _ n (9 + i) (by omega) (by omega) (by omega)]
      exact ih (by omega) (by omega)
theorem fInterest_b {σ : Sg} {i b : Nat} (h2 : b ≠ 2) (h4 : b ≠ 4) : fInterest σ i (9 + i) b = σ (9 + i) b := by rw [fInterest, fCharge, up_b h4, up_b h2]
theorem fInterest_2 {σ : Sg} {i : Nat} : fInterest σ i (9 + i) 2 = σ (9 + i) 2 + σ (9 + i) 2 * 2 / 100 := by simp [fInterest, fCharge, up]
theorem fNext0_b {σ : Sg} {i b : Nat} (hi : i < 8) (hc : (σ 0 2).toNat ≤ 8) (h2 : b ≠ 2) (h4 : b ≠ 4) : fNext0 σ (9 + i) b = σ (9 + i) b := by
  rw [fNext0]
  by_cases e : i < (σ 0 2).toNat
  · rw [itr_done locInterest _ hi _ hc e, fInterest_b h2 h4, itr_at9 locInterest _ hi, up_r (by omega)]
  · rw [itr_loc locInterest _ _ _ (fun j hj => by omega), up_r (by omega)]
theorem fNext0_2 {σ : Sg} {i : Nat} (hi : i < 8) (hc : (σ 0 2).toNat ≤ 8) : fNext0 σ (9 + i) 2 = σ (9 + i) 2 ∨ fNext0 σ (9 + i) 2 = σ (9 + i) 2 + σ (9 + i) 2 * 2 / 100 := by
  rw [fNext0]
  by_cases e : i < (σ 0 2).toNat
  · right
    rw [itr_done locInterest _ hi _ hc e, fInterest_2, itr_at9 locInterest _ hi, up_r (by omega)]
  · left
    rw [itr_loc locInterest _ _ _ (fun j hj => by omega), up_r (by omega)]
theorem hv_next {σ : Sg} (hB : cBd σ) : cHv (fNext0 σ) := by
  have hc := hB.1.1
  refine ⟨by rw [fNext0_0 (by decide)]; exact hc, fun c h => ?_, fun i hi => ?_⟩
  · have := hB.2.1 c h
    unfold cCrB at this ⊢
    rw [fNext0_r (by omega) (by omega), fNext0_r (r := 6 + c) (by omega) (by omega)]
    exact this
  · obtain ⟨g0, g1, g2, g3, g5, g8, g9, g11, g12, g13, g14, g15, g16, gt⟩ := hB.2.2 i hi
    have h2 := fNext0_2 (σ := σ) hi (by omega)
    rw [fNext0_b hi (by omega) (by decide) (by decide), fNext0_b hi (by omega) (by decide) (by decide), fNext0_b hi (by omega) (by decide) (by decide), fNext0_b hi (by omega) (by decide) (by decide)]
    exact ⟨g12, g13, g14, g15, by rcases h2 with h | h <;> rw [h] <;> omega⟩
theorem fTakeV_c {σ τ : Sg} {i : Nat} (h1 : σ (9 + i) 8 = τ (9 + i) 8) (h2 : σ (25 + i) = τ (25 + i)) : fTakeV σ i = fTakeV τ i := by unfold fTakeV; rw [h1, h2]
theorem fTakeV_up {σ : Sg} {i : Nat} : fTakeV (up σ (9 + i) 5 0) i = fTakeV σ i := fTakeV_c (up_b (by decide)) (up_r (by omega))
theorem settle_ok {σ : Sg} (hB : cBd σ) {k : Nat} (hk : k < 8) : (0 ≤ itr fSettle σ k (9 + k) 8 ∧ itr fSettle σ k (9 + k) 8 ≤ 3) ∧ nB (itr fSettle σ k (9 + k) 1) ∧ lB (itr fSettle σ k (9 + k) 2 + fTakeV (up (itr fSettle σ k) (9 + k) 5 0) k) := by
  obtain ⟨g0, g1, g2, g3, g5, g8, g9, g11, g12, g13, g14, g15, g16, gt⟩ := hB.2.2 k hk
  rw [fTakeV_up, fTakeV_c (τ := σ) (by rw [itr_at9 locSettle σ hk]) (itr_at25 locSettle σ hk), itr_at9 locSettle σ hk]
  omega
/-- one farmer's settling -/
theorem fSettle_b {σ : Sg} {i b : Nat} (h : b ≠ 1 ∧ b ≠ 2 ∧ b ≠ 5 ∧ b ≠ 8) : fSettle σ i (9 + i) b = σ (9 + i) b := by
  simp [fSettle, fRepay, fLower, fSettle0, up, h, fTake_o]
theorem fSettle_5 {σ : Sg} {i : Nat} : fSettle σ i (9 + i) 5 = 0 := by
  simp [fSettle, fRepay, fLower, fSettle0, up, fTake_o]
theorem fSettle_1 {σ : Sg} {i : Nat} : fSettle σ i (9 + i) 1 = σ (9 + i) 1 - mn (σ (9 + i) 2 + fTakeV σ i) (σ (9 + i) 1) := by
  simp [fSettle, fRepay, fLower, fSettle0, up, fTake_o, ← fTakeV_up (σ := σ)]
theorem fSettle_2 {σ : Sg} {i : Nat} : fSettle σ i (9 + i) 2 = σ (9 + i) 2 + fTakeV σ i - mn (σ (9 + i) 2 + fTakeV σ i) (σ (9 + i) 1) := by
  simp [fSettle, fRepay, fLower, fSettle0, up, fTake_o, ← fTakeV_up (σ := σ)]
theorem fSettle_8 {σ : Sg} {i : Nat} (h : 0 ≤ σ (9 + i) 8 ∧ σ (9 + i) 8 ≤ 3) : fSettle σ i (9 + i) 8 = if σ (9 + i) 8 = 0 then 0 else σ (9 + i) 8 - 1 := by
  have e : fTake (up σ (9 + i) 5 0) i (9 + i) 8 = if σ (9 + i) 8 = 0 then 0 else σ (9 + i) 8 - 1 := by
    unfold fTake
    rw [up_b (σ := σ) (by decide)]
    by_cases h0 : σ (9 + i) 8 = 0
    · rw [if_pos (by omega), if_pos h0, up_b (by decide), h0]
    · rw [if_neg (by omega), if_neg h0, up_s]
  simp [fSettle, fRepay, fLower, fSettle0, up]
  simpa [up] using e
theorem fClose0_r {σ : Sg} {r : Nat} (h : r < 9) : fClose0 σ r = σ r := by rw [fClose0, itr_lt locSettle _ _ h]
theorem fClose0_9 {σ : Sg} {i : Nat} (hi : i < 8) (hc : (σ 0 2).toNat ≤ 8) (b : Nat) : fClose0 σ (9 + i) b = fSettle (itr fSettle σ i) i (9 + i) b ∨ fClose0 σ (9 + i) b = σ (9 + i) b := by
  rw [fClose0]
  by_cases e : i < (σ 0 2).toNat
  · left; exact itr_done locSettle _ hi _ hc e
  · right; rw [itr_loc locSettle _ _ _ (fun j hj => by omega)]
theorem ok_close0 {σ : Sg} (hB : cBd σ) : cOk (fClose0 σ) := by
  intro i hi
  have hc := hB.1.1
  obtain ⟨g0, g1, g2, g3, g5, g8, g9, g11, g12, g13, g14, g15, g16, gt⟩ := hB.2.2 i hi
  by_cases e : i < (σ 0 2).toNat
  · have hd : ∀ b, fClose0 σ (9 + i) b = fSettle (itr fSettle σ i) i (9 + i) b := fun b => itr_done locSettle _ hi _ (by omega) e
    have r9 := itr_at9 locSettle σ hi
    have ht : fTakeV (itr fSettle σ i) i = fTakeV σ i := fTakeV_c (by rw [r9]) (itr_at25 locSettle σ hi)
    have m1 := mn_le1 (σ (9 + i) 2 + fTakeV σ i) (σ (9 + i) 1)
    have m2 := mn_le2 (σ (9 + i) 2 + fTakeV σ i) (σ (9 + i) 1)
    have m3 := mn_ge (σ (9 + i) 2 + fTakeV σ i) (σ (9 + i) 1) 0 (by omega) (by omega)
    unfold cOk1
    rw [hd, hd, hd, hd, hd, hd, hd, fSettle_1, fSettle_2, fSettle_5, fSettle_b (b := 12) (by decide), fSettle_b (b := 15) (by decide), fSettle_b (b := 0) (by decide), fSettle_8 (σ := itr fSettle σ i) (i := i) (by rw [r9]; exact g8), r9, ht]
    refine ⟨by omega, by omega, by omega, by omega, by omega, ?_, by omega⟩
    split <;> omega
  · have hd : fClose0 σ (9 + i) = σ (9 + i) := itr_loc locSettle _ _ _ (fun j hj => by omega)
    unfold cOk1
    rw [hd]
    omega
theorem ok_rests {σ : Sg} (hB : cBd σ) : ∀ k : Nat, k ≤ 8 → cOk (itr fRest (fClose0 σ) k) := by
  have hc := hB.1.1
  intro k
  induction k with
  | zero => intro _; exact ok_close0 hB
  | succ k ih =>
    intro hk
    exact ok_rest (by omega) (by rw [itrR_lt (by decide), fClose0_r (by decide)]; omega) (ih (by omega))
theorem fClose1_r {σ : Sg} {r : Nat} (h : r < 9) : fClose1 σ r = σ r := by rw [fClose1, itrR_lt h, fClose0_r h]
theorem fClose2_r {σ : Sg} {r : Nat} (h : r < 9) : fClose2 σ r = σ r := by rw [fClose2, itr_lt locForget _ _ h, fClose1_r h]
