/-! the tie: the season's end, loops -/
/-- settling, the called sum not yet forgotten -/
def fSetB0 (σ : Sg) (i : Nat) : Sg := up (fTake σ i) (9 + i) 2 (σ (9 + i) 2 + fTakeV σ i)
def fSetB (σ : Sg) (i : Nat) : Sg := fLower (up (fSetB0 σ i) (9 + i) 1 (σ (9 + i) 1 - mn (σ (9 + i) 2 + fTakeV σ i) (σ (9 + i) 1))) i (mn (σ (9 + i) 2 + fTakeV σ i) (σ (9 + i) 1)) 0
theorem fTake_5 {σ : Sg} {i : Nat} : fTake (up σ (9 + i) 5 0) i = up (fTake σ i) (9 + i) 5 0 := by
  unfold fTake
  rw [up_b (σ := σ) (by decide)]
  split
  · rfl
  · funext x y
    simp only [up]
    (repeat' split) <;> first | rfl | omega
theorem up_swap {σ : Sg} {a a2 b b2 : Nat} {v w : Int} (h : a ≠ a2 ∨ b ≠ b2) : up (up σ a b v) a2 b2 w = up (up σ a2 b2 w) a b v := by
  funext x y
  simp only [up]
  (repeat' split) <;> first | rfl | omega
theorem fLower_5 {σ : Sg} {i k : Nat} {x : Int} : fLower (up σ (9 + i) 5 0) i x k = up (fLower σ i x k) (9 + i) 5 0 := by
  rw [fLower, fLower, up_b (by decide), up_swap (b := 5) (b2 := 2) (Or.inr (by decide)), up_swap (a := 9 + i) (a2 := 17 + i) (Or.inl (by omega))]
  rw [show up σ (9 + i) 5 0 (17 + i) k = σ (17 + i) k from up_a (by omega)]
theorem fSettle_B {σ : Sg} {i : Nat} : fSettle σ i = up (fSetB σ i) (9 + i) 5 0 := by
  rw [fSettle, fRepay, fSettle0, fTakeV_up, fTake_5, fSetB, fSetB0, ← fLower_5]
  have e1 : up (up (fTake σ i) (9 + i) 5 0) (9 + i) 2 (σ (9 + i) 2 + fTakeV σ i) (9 + i) 1 = σ (9 + i) 1 := by
    rw [up_b (by decide), up_b (by decide), fTake_o (by decide)]
  rw [e1, up_swap (b := 5) (b2 := 2) (Or.inr (by decide)), up_swap (b := 5) (b2 := 1) (Or.inr (by decide))]
theorem s_settle0 {rf : Int} {σ : Sg} {i : Nat} (hi : i < 8) (h8 : 0 ≤ σ (9 + i) 8 ∧ σ (9 + i) 8 ≤ 3) : gSettle0 (mOf rf σ) (i : Int) = mOf rf (fSetB0 σ i) := by
  rw [gSettle0, Int.toNat_natCast, mR_11 hi, mR_6 hi]
  by_cases h : 0 < σ (9 + i) 8
  · have e0 : (3 * (i : Int)).toNat = 3 * i + 0 := by omega
    rw [if_pos h, e0, mR_12 hi (by decide)]
    have ev : fTakeV σ i = σ (25 + i) (pIx (σ (9 + i) 8) 0) := by
      rw [fTakeV, if_neg (by omega)]
      rcases (by omega : σ (9 + i) 8 = 1 ∨ σ (9 + i) 8 = 2 ∨ σ (9 + i) 8 = 3) with h | h | h <;> rw [h] <;> rfl
    rw [← ev, mU_2 hi, s_shift (σ := up σ (9 + i) 2 (σ (9 + i) 2 + fTakeV σ i)) hi (n := σ (9 + i) 8) (up_b (by decide)) (by omega), fSetB0, fTake, if_neg (by omega), up_swap (b := 2) (b2 := 8) (Or.inr (by decide))]
  · have ev : fTakeV σ i = 0 := by rw [fTakeV, if_pos (by omega)]
    rw [if_neg h, fSetB0, ev, fTake, if_pos (by omega)]
    congr 1
    funext x y
    simp only [up]
    (repeat' split) <;> first | rfl | (rename_i h1 h2; subst h1; subst h2; omega)
theorem s_settle {rf : Int} {σ : Sg} {i : Nat} (hi : i < 8) (h8 : 0 ≤ σ (9 + i) 8 ∧ σ (9 + i) 8 ≤ 3) : gS1 (mOf rf σ) i = mOf rf (fSettle σ i) := by
  have e6 : fSetB0 σ i (9 + i) 2 = σ (9 + i) 2 + fTakeV σ i := by rw [fSetB0, up_s]
  rw [gS1, gSettle, s_settle0 hi h8, Int.toNat_natCast, mR_6 hi, mR_5 hi, e6, mU_1 hi, s_lower (s := 0) (k := 0) hi (by decide) rfl, mU_5 hi, fSettle_B, fSetB]
theorem s_roll {rf : Int} {σ : Sg} {i : Nat} (hi : i < 8) : gRoll (mOf rf σ) (i : Int) = mOf rf (fRoll σ i) := by
  have e0 : (3 * (i : Int)).toNat = 3 * i := by omega
  have e1 : (3 * (i : Int) + 1).toNat = 3 * i + 1 := by omega
  have e2 : (3 * (i : Int) + 2).toNat = 3 * i + 2 := by omega
  rw [gRoll, fRoll, Int.toNat_natCast, mR_6 hi, e0, e1, e2]
  rw [← mU_2 hi]
  congr 1
  funext x y
  by_cases h12 : x = 12
  · subst h12
    rw [up_a (by decide)]
    show _ = if y < 24 then up (up (fParts σ i 3) (25 + i) 2 (σ (9 + i) 2 - σ (9 + i) 2 / 3 * 2)) (9 + i) 8 3 (25 + y / 3) (pIx (up (up (fParts σ i 3) (25 + i) 2 (σ (9 + i) 2 - σ (9 + i) 2 / 3 * 2)) (9 + i) 8 3 (9 + y / 3) 8) (y % 3)) else 0
    by_cases h : y < 24
    · rw [if_pos h, up_a (a := 9 + i) (by omega)]
      by_cases e : y / 3 = i
      · rw [e, up_s]
        rcases (by omega : y = 3 * i ∨ y = 3 * i + 1 ∨ y = 3 * i + 2) with rfl | rfl | rfl
        · rw [up_b (by omega), up_b (by omega), up_s, show 3 * i % 3 = 0 by omega]
          show _ = up (up (up (up σ (25 + i) 0 (σ (9 + i) 2 / 3)) (25 + i) 1 (σ (9 + i) 2 / 3)) (25 + i) 2 (σ (9 + i) 2 / 3)) (25 + i) 2 _ (25 + i) 0
          rw [up_b (by decide), up_b (by decide), up_b (by decide), up_s]
        · rw [up_b (by omega), up_s, show (3 * i + 1) % 3 = 1 by omega]
          show _ = up (up (up (up σ (25 + i) 0 (σ (9 + i) 2 / 3)) (25 + i) 1 (σ (9 + i) 2 / 3)) (25 + i) 2 (σ (9 + i) 2 / 3)) (25 + i) 2 _ (25 + i) 1
          rw [up_b (by decide), up_b (by decide), up_s]
        · rw [up_s, show (3 * i + 2) % 3 = 2 by omega]
          show _ = up (fParts σ i 3) (25 + i) 2 (σ (9 + i) 2 - σ (9 + i) 2 / 3 * 2) (25 + i) 2
          rw [up_s, Int.mul_comm]
      · have q9 : up (up (fParts σ i 3) (25 + i) 2 (σ (9 + i) 2 - σ (9 + i) 2 / 3 * 2)) (9 + i) 8 3 (9 + y / 3) 8 = σ (9 + y / 3) 8 := by
          rw [up_a (by omega), up_a (by omega), fParts_r (by omega)]
        rw [q9, up_a (a := 25 + i) (by omega), fParts_r (by omega), up_b (by omega), up_b (by omega), up_b (by omega)]
        show (if y < 24 then _ else _) = _
        rw [if_pos h]
    · rw [if_neg h, up_b (by omega), up_b (by omega), up_b (by omega)]
      show (if y < 24 then _ else _) = _
      rw [if_neg h]
  · have hR : mOf rf (up (up (fParts σ i 3) (25 + i) 2 (σ (9 + i) 2 - σ (9 + i) 2 / 3 * 2)) (9 + i) 8 3) x y = mOf rf (up σ (9 + i) 8 3) x y := by
      have r : ∀ r, r ≠ 25 + i → up (up (fParts σ i 3) (25 + i) 2 (σ (9 + i) 2 - σ (9 + i) 2 / 3 * 2)) (9 + i) 8 3 r = up σ (9 + i) 8 3 r := fun r h => by
        by_cases hr : r = 9 + i
        · subst hr
          funext z
          by_cases hz : z = 8
          · subst hz; rw [up_s, up_s]
          · rw [up_b hz, up_b hz, up_a h, fParts_r h]
        · rw [up_r hr, up_r hr, up_r h, fParts_r h]
      match x with
      | 0 => show (if y = 0 then rf else if y = 1 then _ else if y = 2 then _ else if y = 6 then _ else 0) = _; rw [r 0 (by omega)]; rfl
      | 1 => show (if y < 12 then _ else 0) = (if y < 12 then _ else 0); split <;> first | rfl | (rw [r _ (by omega)])
      | 2 => show (if y < 3 then _ else 0) = (if y < 3 then _ else 0); split <;> first | rfl | (rw [r _ (by omega)])
      | 3 => show (if y < 3 then _ else 0) = (if y < 3 then _ else 0); split <;> first | rfl | (rw [r _ (by omega)])
      | 4 => show (if y < 8 then _ else 0) = (if y < 8 then _ else 0); split <;> first | rfl | (rw [r _ (by omega)])
      | 5 => show (if y < 8 then _ else 0) = (if y < 8 then _ else 0); split <;> first | rfl | (rw [r _ (by omega)])
      | 6 => show (if y < 8 then _ else 0) = (if y < 8 then _ else 0); split <;> first | rfl | (rw [r _ (by omega)])
      | 7 => show (if y < 8 then _ else 0) = (if y < 8 then _ else 0); split <;> first | rfl | (rw [r _ (by omega)])
      | 8 => show (if y < 8 then _ else 0) = (if y < 8 then _ else 0); split <;> first | rfl | (rw [r _ (by omega)])
      | 9 => show (if y < 8 then _ else 0) = (if y < 8 then _ else 0); split <;> first | rfl | (rw [r _ (by omega)])
      | 10 => show (if y < 8 then _ else 0) = (if y < 8 then _ else 0); split <;> first | rfl | (rw [r _ (by omega)])
      | 11 => show (if y < 8 then _ else 0) = (if y < 8 then _ else 0); split <;> first | rfl | (rw [r _ (by omega)])
      | 14 => show (if y < 8 then _ else 0) = (if y < 8 then _ else 0); split <;> first | rfl | (rw [r _ (by omega)])
      | 15 => show (if y < 8 then _ else 0) = (if y < 8 then _ else 0); split <;> first | rfl | (rw [r _ (by omega)])
      | 16 => show (if y < 8 then _ else 0) = (if y < 8 then _ else 0); split <;> first | rfl | (rw [r _ (by omega)])
      | 18 => show (if y < 8 then _ else 0) = (if y < 8 then _ else 0); split <;> first | rfl | (rw [r _ (by omega)])
      | 20 => show (if y < 8 then _ else 0) = (if y < 8 then _ else 0); split <;> first | rfl | (rw [r _ (by omega)])
      | 12 => exact absurd rfl h12
      | 13 => show (if y < 8 ∧ (y : Int) < _ then _ else 0) = (if y < 8 ∧ (y : Int) < _ then _ else 0); rw [r 0 (by omega)]; split <;> first | rfl | (rw [r _ (by omega)])
      | 17 => show (if y < 8 ∧ (y : Int) < _ then _ else 0) = (if y < 8 ∧ (y : Int) < _ then _ else 0); rw [r 0 (by omega)]; split <;> first | rfl | (rw [r _ (by omega)])
      | 19 => show (if y < 40 then _ else 0) = (if y < 40 then _ else 0); split <;> first | rfl | (rw [r _ (by omega)])
      | x + 21 => rfl
    rw [hR, ← mU_8' hi h12]
    by_cases hx : x = 11
    · subst hx
      by_cases hy : y = i
      · subst hy; rw [up_s, up_s]
      · rw [up_b hy, up_b hy, up_a (by decide), up_a (by decide), up_a (by decide)]
    · rw [up_a hx, up_a hx, up_a h12, up_a h12, up_a h12]
theorem s_pay {rf : Int} {σ : Sg} {i j : Nat} (hi : i < 8) (hj : j < 8) : gPay (j : Int) (mOf rf σ) i = mOf rf (fColl j σ i) := by
  rw [gPay, fColl]
  by_cases e : i = j
  · rw [if_pos (by rw [e]), if_pos e]
  · rw [if_neg (fun h => e (by omega)), if_neg e, Int.toNat_natCast, mR_4 hi, mR_4 hj]
    have ec : gCallC (mOf rf σ) i (j : Int) = fPayC σ i j := by
      rw [gCallC, fPayC, Int.toNat_natCast, mR_18 hi, mR_5 hi, mR_6 hj, mn_comm, mn_comm (20000 - _)]
    by_cases h : σ (9 + i) 0 = σ (9 + j) 0
    · rw [if_pos h, if_pos h, ec, mR_5 hi, mR_18 hi, mU_1 hi, mU_5 hi, s_lower (s := 4) (k := 4) hj (by decide) rfl, fPay]
    · rw [if_neg h, if_neg h]
theorem s_forget {rf : Int} {σ : Sg} {i : Nat} (hi : i < 8) (hc : (i : Int) < σ 0 2) : gS3 (mOf rf σ) i = mOf rf (fForget σ i) := by
  rw [gS3, gClear, Int.toNat_natCast, mU_12 hi hc, mU_13 hi, mU_16 hi, mU_14 hi, mU_15 hi (by rw [up_a (by omega), up_a (by omega), up_a (by omega), up_a (by omega)]; exact hc)]
  congr 1
  rw [fForget]
  funext x y
  simp only [up]
  (repeat' split) <;> first | rfl | omega
/-- both sides' loops -/
theorem itr_tie {f g : Sg → Nat → Sg} {rf : Int} (Q : Sg → Prop) (N : Nat) (hg : ∀ (σ : Sg) (k : Nat), k < N → Q σ → g (mOf rf σ) k = mOf rf (f σ k)) (hf : ∀ (σ : Sg) (k : Nat), k < N → Q σ → Q (f σ k)) {σ : Sg} (h : Q σ) : ∀ k : Nat, k ≤ N → itr g (mOf rf σ) k = mOf rf (itr f σ k) ∧ Q (itr f σ k) := by
  intro k
  induction k with
  | zero => intro _; exact ⟨rfl, h⟩
  | succ k ih =>
    intro hk
    obtain ⟨e, q⟩ := ih (by omega)
    exact ⟨by rw [itr, itr, e, hg _ k (by omega) q], hf _ k (by omega) q⟩
theorem i_interest {rf : Int} {σ : Sg} (k : Nat) (hk : k ≤ 8) : itr gIStep (mOf rf σ) k = mOf rf (itr fInterest σ k) := (itr_tie (fun _ => True) 8 (fun σ k hk _ => s_interest hk) (fun _ _ _ _ => trivial) trivial k hk).1
def qH (n : Int) (σ : Sg) : Prop := σ 0 2 = n ∧ ∀ i, i < 8 → -1 ≤ σ (9 + i) 12 ∧ σ (9 + i) 12 < 3
theorem fReceive_b {σ : Sg} {i src r b : Nat} {x : Int} (h1 : b ≠ 1) (h2 : b ≠ 2) (h3 : b ≠ src) : fReceive σ i x src r b = σ r b := by rw [fReceive, up_b h1, fLower, up_b h3, up_b h2]
theorem fHarv_b {σ : Sg} {i r b : Nat} (h1 : b ≠ 1) (h2 : b ≠ 2) (h9 : b ≠ 9) (h11 : b ≠ 11) : fHarv σ i r b = σ r b := by
  unfold fHarv
  split
  · rfl
  · unfold fHarvest
    split
    · rw [fReceive_b h1 h2 h1, fHarvest0, up_b h11, up_b h9]
    · rw [fHarvest0, up_b h11, up_b h9]
theorem i_harv {rf : Int} {σ : Sg} {n : Int} (hn : n ≤ 8) (h : qH n σ) (k : Nat) (hk : (k : Int) ≤ n) : itr gHStep (mOf rf σ) k = mOf rf (itr fHarv σ k) ∧ qH n (itr fHarv σ k) := itr_tie (qH n) n.toNat (fun σ k hk h => s_harv (by omega) (by rw [h.1]; omega) (h.2 k (by omega))) (fun σ k hk h => ⟨by rw [locHarv σ k 0 (by omega) (by omega) (by omega)]; exact h.1, fun i hi => by rw [fHarv_b (by decide) (by decide) (by decide) (by decide)]; exact h.2 i hi⟩) h k (by omega)
def q8 (σ : Sg) : Prop := ∀ i, i < 8 → 0 ≤ σ (9 + i) 8 ∧ σ (9 + i) 8 ≤ 3
theorem i_settle {rf : Int} {σ : Sg} (h : q8 σ) (k : Nat) (hk : k ≤ 8) : itr gS1 (mOf rf σ) k = mOf rf (itr fSettle σ k) ∧ q8 (itr fSettle σ k) := itr_tie q8 8 (fun σ k hk h => s_settle hk (h k hk)) (fun σ k hk h i hi => by
  by_cases e : i = k
  · subst e
    rw [fSettle_8 (h i hi)]
    have := h i hi
    split <;> omega
  · rw [locSettle σ k (9 + i) (by omega) (by omega) (by omega)]
    exact h i hi) h k hk
theorem i_coll {rf : Int} {σ : Sg} {j : Nat} (hj : j < 8) (k : Nat) (hk : k ≤ 8) : itr (gPay (j : Int)) (mOf rf σ) k = mOf rf (itr (fColl j) σ k) := (itr_tie (fun _ => True) 8 (fun σ k hk _ => s_pay hk hj) (fun _ _ _ _ => trivial) trivial k hk).1
theorem s_rest {rf : Int} {σ : Sg} {i : Nat} (hi : i < 8) (hc : (i : Int) < σ 0 2) (hn : σ 0 2 ≤ 8) (h2 : 0 ≤ σ (9 + i) 2) : gS2 (mOf rf σ) i = mOf rf (fRest σ i) := by
  rw [gS2, fRest, mR_6 hi, mR_13 hi hc, mR_17 hi hc, mR_11 hi]
  by_cases h : σ (9 + i) 2 = 0
  · rw [if_neg (by omega), if_pos h]
  · rw [if_pos (by omega), if_neg h, fMayRoll]
    by_cases hm : ¬ σ (9 + i) 12 = -1 ∧ σ (9 + i) 15 < 60 ∧ σ (9 + i) 8 = 0
    · rw [if_pos hm, if_pos hm, if_neg (by decide), s_roll hi]
    · rw [if_neg hm, if_neg hm, if_pos rfl, gCall, mR_06, i_coll hi _ (by omega)]
def qR (n : Int) (σ : Sg) : Prop := σ 0 2 = n ∧ cOk σ
theorem i_rest {rf : Int} {σ : Sg} {n : Int} (hn : n ≤ 8) (h : qR n σ) (k : Nat) (hk : (k : Int) ≤ n) : itr gS2 (mOf rf σ) k = mOf rf (itr fRest σ k) ∧ qR n (itr fRest σ k) := itr_tie (qR n) n.toNat (fun σ k hk h => s_rest (by omega) (by rw [h.1]; omega) (by rw [h.1]; exact hn) (h.2 k (by omega)).2.1.1) (fun σ k hk h => ⟨by rw [fRest_lt (by decide)]; exact h.1, ok_rest (by omega) (by rw [h.1]; omega) h.2⟩) h k (by omega)
theorem i_forget {rf : Int} {σ : Sg} {n : Int} (hn : n ≤ 8) (h : σ 0 2 = n) (k : Nat) (hk : (k : Int) ≤ n) : itr gS3 (mOf rf σ) k = mOf rf (itr fForget σ k) := (itr_tie (fun σ => σ 0 2 = n) n.toNat (fun σ k hk h => s_forget (by omega) (by rw [h]; omega)) (fun σ k hk h => by rw [locForget σ k 0 (by omega) (by omega) (by omega)]; exact h) h k (by omega)).1
