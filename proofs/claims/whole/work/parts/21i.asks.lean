/-! the tie: what the loops of the reference ask -/
theorem q_next1 {σ M : Sg} (h : JJ σ M) : ∀ k : Nat, k < 8 → 0 ≤ itr gIStep (up (up M 0 0 0) 0 2 ((M 0 2) + 1)) k 6 k ∧ itr gIStep (up (up M 0 0 0) 0 2 ((M 0 2) + 1)) k 6 k ≤ 2147483647 := by
  obtain ⟨hI, rf, rfl⟩ := h
  intro k hk
  rw [mOf_rf, mR_02, mU_k, i_interest k (by omega), mR_6 hk, itr_at9 locInterest _ hk, up_r (by omega)]
  have := (inv_bd hI).2.2 k hk
  unfold cFaB at this
  omega
theorem gH_r {M : Sg} {k r : Nat} (h5 : r ≠ 5) (h6 : r ≠ 6) (h7 : r ≠ 7) (h8 : r ≠ 8) (h19 : r ≠ 19) : gHStep M k r = M r := by
  unfold gHStep
  split
  · rfl
  · unfold gHarvest
    split
    · rw [gCome, gLower, up_r h5, up_r h19, up_r h6, gHarvest0, up_r h7, up_r h8]
    · rw [gHarvest0, up_r h7, up_r h8]
theorem gH_6 {M : Sg} {k j : Nat} (h : j ≠ k) : gHStep M k 6 j = M 6 j := by
  unfold gHStep
  split
  · rfl
  · unfold gHarvest
    split
    · rw [gCome, gLower, up_a (by decide), up_a (by decide), up_b (by rw [Int.toNat_natCast]; exact h), gHarvest0, up_a (by decide), up_a (by decide)]
    · rw [gHarvest0, up_a (by decide), up_a (by decide)]
theorem itrH_r {M : Sg} {r : Nat} (h5 : r ≠ 5) (h6 : r ≠ 6) (h7 : r ≠ 7) (h8 : r ≠ 8) (h19 : r ≠ 19) : ∀ k : Nat, itr gHStep M k r = M r := by
  intro k
  induction k with
  | zero => rfl
  | succ k ih => rw [itr, gH_r h5 h6 h7 h8 h19, ih]
theorem itrH_6 {M : Sg} {j : Nat} : ∀ k : Nat, k ≤ j → itr gHStep M k 6 j = M 6 j := by
  intro k
  induction k with
  | zero => intro _; rfl
  | succ k ih =>
    intro hk
    rw [itr, gH_6 (by omega), ih (by omega)]
theorem q_next2 {σ M : Sg} (h : JJ σ M) : ∀ k : Nat, k < 8 → hvOk (itr gHStep (gNext0 M) k) k := by
  obtain ⟨hI, rf, rfl⟩ := h
  intro k hk
  have hG := hI.1
  unfold cGl at hG
  have hv := hv_next (inv_bd hI)
  obtain ⟨-, hC, hF⟩ := hv
  have hf := hF k hk
  rw [s_next0 (by omega)]
  unfold hvOk
  rw [itrH_r (r := 13) (by decide) (by decide) (by decide) (by decide) (by decide), itrH_r (r := 14) (by decide) (by decide) (by decide) (by decide) (by decide), itrH_r (r := 17) (by decide) (by decide) (by decide) (by decide) (by decide), itrH_r (r := 16) (by decide) (by decide) (by decide) (by decide) (by decide), itrH_6 k (Nat.le_refl _), mR_14 hk, mR_16 hk, mR_6 hk]
  refine ⟨?_, by omega, ?_, by omega, by omega, fun c hc => ?_⟩
  · show -1 ≤ (if k < 8 ∧ (k : Int) < _ then fNext0 σ (9 + k) 12 else 0) ∧ (if k < 8 ∧ (k : Int) < _ then fNext0 σ (9 + k) 12 else 0) < 3
    split <;> omega
  · show 0 ≤ (if k < 8 ∧ (k : Int) < _ then fNext0 σ (9 + k) 15 else 0) ∧ (if k < 8 ∧ (k : Int) < _ then fNext0 σ (9 + k) 15 else 0) ≤ 200
    split <;> omega
  · have := hC c hc
    unfold cCrB at this
    rw [itrH_r (r := 2) (by decide) (by decide) (by decide) (by decide) (by decide), itrH_r (r := 3) (by decide) (by decide) (by decide) (by decide) (by decide), mR_2 hc, mR_3 hc]
    exact ⟨this.1, this.2.1⟩
theorem q8_of {σ : Sg} (hI : jInv σ) : q8 σ := fun i hi => ((inv_bd hI).2.2 i hi).2.2.2.2.2.1
theorem q_close1 {σ M : Sg} (h : JJ σ M) : ∀ k : Nat, k < 8 → sOk (itr gS1 (up M 0 0 0) k) k := by
  obtain ⟨hI, rf, rfl⟩ := h
  intro k hk
  have hB := (inv_bd hI).2.2 k hk
  unfold cFaB at hB
  have e9 := itr_at9 locSettle σ hk
  have e25 := itr_at25 locSettle σ hk
  rw [mOf_rf, (i_settle (q8_of hI) k (by omega)).1]
  unfold sOk
  rw [show (3 * (k : Int)).toNat = 3 * k + 0 by omega, mR_11 hk, mR_5 hk, mR_6 hk, mR_12 hk (by decide), e9, e25]
  refine ⟨by omega, by omega, by omega, fun h0 => ?_⟩
  have ev : fTakeV σ k = σ (25 + k) (pIx (σ (9 + k) 8) 0) := by
    rw [fTakeV, if_neg (by omega)]
    rcases (by omega : σ (9 + k) 8 = 1 ∨ σ (9 + k) 8 = 2 ∨ σ (9 + k) 8 = 3) with h | h | h <;> rw [h] <;> rfl
  rw [← ev]
  omega
/-- behind the count the groups' step does nothing -/
theorem fRest_hi {σ : Sg} {n i k r : Nat} (hn : (σ 0 2).toNat = n) (hi : i < n) (hk : n ≤ k) (hk8 : k < 8) (hr : r = 9 + k ∨ r = 17 + k ∨ r = 25 + k) : fRest σ i r = σ r := by
  unfold fRest
  split
  · rfl
  · split
    · rw [hn]
      have : ∀ j : Nat, j ≤ n → itr (fColl i) σ j r = σ r := by
        intro j
        induction j with
        | zero => intro _; rfl
        | succ j ih =>
          intro hj
          rw [itr, fColl_r (by omega) (by omega) (by omega), ih (by omega)]
      exact this n (Nat.le_refl _)
    · rw [fRoll, up_r (by omega), up_r (by omega), up_r (by omega), fParts_r (by omega)]
theorem itrR_hi {σ : Sg} {n k r : Nat} (hn : (σ 0 2).toNat = n) (hk : n ≤ k) (hk8 : k < 8) (hr : r = 9 + k ∨ r = 17 + k ∨ r = 25 + k) : ∀ j : Nat, j ≤ n → itr fRest σ j r = σ r := by
  intro j
  induction j with
  | zero => intro _; rfl
  | succ j ih =>
    intro hj
    rw [itr, fRest_hi (n := n) (by rw [itrR_lt (by decide)]; exact hn) (by omega) hk hk8 hr, ih (by omega)]
theorem s_close0 {rf : Int} {σ : Sg} (hI : jInv σ) : gClose0 (mOf rf σ) = mOf 0 (fClose0 σ) := by
  have hG := hI.1
  unfold cGl at hG
  rw [gClose0, mOf_rf, mR_06, (i_settle (q8_of hI) _ (by omega)).1]
  rfl
theorem fClose0_hi {σ : Sg} {k r : Nat} (hk : (σ 0 2).toNat ≤ k) (hk8 : k < 8) (hr : r = 9 + k ∨ r = 17 + k ∨ r = 25 + k) : fClose0 σ r = σ r := by
  rw [fClose0, itr_loc locSettle _ _ _ (fun j hj => by omega)]
theorem s_rests {rf : Int} {σ : Sg} (hI : jInv σ) : ∀ k : Nat, k ≤ 8 → ∃ j : Nat, j ≤ 8 ∧ itr gS2 (gClose0 (mOf rf σ)) k = mOf 0 (itr fRest (fClose0 σ) j) := by
  have hG := hI.1
  unfold cGl at hG
  have hq : qR (σ 0 2) (fClose0 σ) := ⟨by rw [fClose0_r (by decide)], ok_close0 (inv_bd hI)⟩
  have hlo : ∀ k : Nat, (k : Int) ≤ σ 0 2 → itr gS2 (gClose0 (mOf rf σ)) k = mOf 0 (itr fRest (fClose0 σ) k) := fun k hk => by
    rw [s_close0 hI]
    exact (i_rest (by omega) hq k hk).1
  have hhi : ∀ d : Nat, (σ 0 2).toNat + d ≤ 8 → itr gS2 (gClose0 (mOf rf σ)) ((σ 0 2).toNat + d) = mOf 0 (itr fRest (fClose0 σ) (σ 0 2).toNat) := by
    intro d
    induction d with
    | zero => intro _; exact hlo _ (by omega)
    | succ d ih =>
      intro hd
      have e := ih (by omega)
      rw [show (σ 0 2).toNat + (d + 1) = ((σ 0 2).toNat + d) + 1 by omega, itr, e, gS2, mR_6 (by omega), itrR_hi (n := (σ 0 2).toNat) (k := (σ 0 2).toNat + d) (by rw [fClose0_r (by decide)]) (by omega) (by omega) (Or.inl rfl) _ (Nat.le_refl _), fClose0_hi (by omega) (by omega) (Or.inl rfl), (hI.2.2.2 ((σ 0 2).toNat + d) (by omega) (by omega)).1 2 (by decide) (by decide) (by decide), if_neg (by decide)]
  intro k hk
  by_cases h : (k : Int) ≤ σ 0 2
  · exact ⟨k, hk, hlo k h⟩
  · refine ⟨(σ 0 2).toNat, by omega, ?_⟩
    have := hhi (k - (σ 0 2).toNat) (by omega)
    rw [show (σ 0 2).toNat + (k - (σ 0 2).toNat) = k by omega] at this
    exact this
theorem mOk_of {rf : Int} {σ : Sg} (h : cOk σ) : mOk (mOf rf σ) := by
  intro i hi
  obtain ⟨a1, a2, a3, a4, a5, a6, a7⟩ := h i hi
  rw [mR_5 hi, mR_6 hi, mR_18 hi, mR_4 hi, mR_11 hi]
  refine ⟨a1, a2, a3, a7, ?_, ?_, a6⟩
  · show nB (if i < 8 ∧ (i : Int) < σ 0 2 then σ (9 + i) 12 else 0)
    split <;> omega
  · show nB (if i < 8 ∧ (i : Int) < σ 0 2 then σ (9 + i) 15 else 0)
    split <;> omega
theorem q_close2 {σ M : Sg} (h : JJ σ M) : ∀ k : Nat, k ≤ 8 → mOk (itr gS2 (gClose0 M) k) := by
  obtain ⟨hI, rf, rfl⟩ := h
  intro k hk
  obtain ⟨j, hj, e⟩ := s_rests (rf := rf) hI k hk
  rw [e]
  exact mOk_of (ok_rests (inv_bd hI) j hj)
theorem q_close3 {σ M : Sg} (h : JJ σ M) : ∀ k : Nat, k < 8 → ∀ j : Nat, j ≤ 8 → mOk (itr (gPay (k : Int)) (itr gS2 (gClose0 M) k) j) := by
  obtain ⟨hI, rf, rfl⟩ := h
  intro k hk j hj
  obtain ⟨i, hi, e⟩ := s_rests (rf := rf) hI k (by omega)
  rw [e, i_coll hk j hj]
  exact mOk_of (itr_ok (P := cOk) (fun τ x hx hs => ok_coll hx hk hs) (ok_rests (inv_bd hI) i hi) j hj)
