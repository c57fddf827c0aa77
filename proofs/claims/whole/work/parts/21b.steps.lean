/-! the tie: steps -/
theorem mR_4 {rf : Int} {σ : Sg} {i : Nat} (hi : i < 8) : mOf rf σ 4 i = σ (9 + i) 0 := if_pos hi
theorem mR_5 {rf : Int} {σ : Sg} {i : Nat} (hi : i < 8) : mOf rf σ 5 i = σ (9 + i) 1 := if_pos hi
theorem mR_6 {rf : Int} {σ : Sg} {i : Nat} (hi : i < 8) : mOf rf σ 6 i = σ (9 + i) 2 := if_pos hi
theorem mR_7 {rf : Int} {σ : Sg} {i : Nat} (hi : i < 8) : mOf rf σ 7 i = σ (9 + i) 11 := if_pos hi
theorem mR_8 {rf : Int} {σ : Sg} {i : Nat} (hi : i < 8) : mOf rf σ 8 i = σ (9 + i) 9 := if_pos hi
theorem mR_9 {rf : Int} {σ : Sg} {i : Nat} (hi : i < 8) : mOf rf σ 9 i = σ (9 + i) 10 := if_pos hi
theorem mR_10 {rf : Int} {σ : Sg} {i : Nat} (hi : i < 8) : mOf rf σ 10 i = σ (9 + i) 3 := if_pos hi
theorem mR_11 {rf : Int} {σ : Sg} {i : Nat} (hi : i < 8) : mOf rf σ 11 i = σ (9 + i) 8 := if_pos hi
theorem mR_14 {rf : Int} {σ : Sg} {i : Nat} (hi : i < 8) : mOf rf σ 14 i = σ (9 + i) 13 := if_pos hi
theorem mR_15 {rf : Int} {σ : Sg} {i : Nat} (hi : i < 8) : mOf rf σ 15 i = σ (9 + i) 16 := if_pos hi
theorem mR_16 {rf : Int} {σ : Sg} {i : Nat} (hi : i < 8) : mOf rf σ 16 i = σ (9 + i) 14 := if_pos hi
theorem mR_18 {rf : Int} {σ : Sg} {i : Nat} (hi : i < 8) : mOf rf σ 18 i = σ (9 + i) 5 := if_pos hi
theorem mR_20 {rf : Int} {σ : Sg} {i : Nat} (hi : i < 8) : mOf rf σ 20 i = σ (9 + i) 4 := if_pos hi
theorem mR_13 {rf : Int} {σ : Sg} {i : Nat} (hi : i < 8) (hc : (i : Int) < σ 0 2) : mOf rf σ 13 i = σ (9 + i) 12 := if_pos ⟨hi, hc⟩
theorem mR_17 {rf : Int} {σ : Sg} {i : Nat} (hi : i < 8) (hc : (i : Int) < σ 0 2) : mOf rf σ 17 i = σ (9 + i) 15 := if_pos ⟨hi, hc⟩
theorem mR_2 {rf : Int} {σ : Sg} {c : Nat} (hc : c < 3) : mOf rf σ 2 c = σ (3 + c) 1 := if_pos hc
theorem mR_3 {rf : Int} {σ : Sg} {c : Nat} (hc : c < 3) : mOf rf σ 3 c = σ (3 + c) 2 := if_pos hc
theorem mR_1 {rf : Int} {σ : Sg} {c k : Nat} (hc : c < 3) (hk : k < 4) : mOf rf σ 1 (4 * c + k) = σ (6 + c) k := by
  show (if 4 * c + k < 12 then σ (6 + (4 * c + k) / 4) ((4 * c + k) % 4) else 0) = _
  rw [if_pos (by omega), show (4 * c + k) / 4 = c by omega, show (4 * c + k) % 4 = k by omega]
theorem mR_19 {rf : Int} {σ : Sg} {i k : Nat} (hi : i < 8) (hk : k < 5) : mOf rf σ 19 (5 * i + k) = σ (17 + i) k := by
  show (if 5 * i + k < 40 then σ (17 + (5 * i + k) / 5) ((5 * i + k) % 5) else 0) = _
  rw [if_pos (by omega), show (5 * i + k) / 5 = i by omega, show (5 * i + k) % 5 = k by omega]
theorem mR_12 {rf : Int} {σ : Sg} {i k : Nat} (hi : i < 8) (hk : k < 3) : mOf rf σ 12 (3 * i + k) = σ (25 + i) (pIx (σ (9 + i) 8) k) := by
  show (if 3 * i + k < 24 then σ (25 + (3 * i + k) / 3) (pIx (σ (9 + (3 * i + k) / 3) 8) ((3 * i + k) % 3)) else 0) = _
  rw [if_pos (by omega), show (3 * i + k) / 3 = i by omega, show (3 * i + k) % 3 = k by omega]
theorem mR_06 {rf : Int} {σ : Sg} : mOf rf σ 0 6 = σ 0 2 := rfl
theorem mR_01 {rf : Int} {σ : Sg} : mOf rf σ 0 1 = σ 0 3 := rfl
theorem mR_02 {rf : Int} {σ : Sg} : mOf rf σ 0 2 = σ 0 4 := rfl
theorem nI5 {i k : Nat} : (5 * (i : Int) + (k : Int)).toNat = 5 * i + k := by omega
theorem s_charge {rf x : Int} {σ : Sg} {i : Nat} (hi : i < 8) : gCharge (mOf rf σ) (i : Int) x = mOf rf (fCharge σ i x) := by
  rw [gCharge, Int.toNat_natCast, mR_6 hi, mR_20 hi, mU_2 hi, mU_4 hi]
  rfl
theorem s_lower {rf x s : Int} {σ : Sg} {i k : Nat} (hi : i < 8) (hk : k < 5) (hs : s = (k : Int)) : gLower (mOf rf σ) (i : Int) x s = mOf rf (fLower σ i x k) := by
  rw [hs, gLower, Int.toNat_natCast, nI5, mR_6 hi, mR_19 hi hk, mU_2 hi, mU_P hi hk]
  rfl
theorem s_come {rf x s : Int} {σ : Sg} {i k : Nat} (hi : i < 8) (hk : k < 5) (hs : s = (k : Int)) : gCome (mOf rf σ) (i : Int) x s = mOf rf (fReceive σ i x k) := by
  rw [gCome, s_lower hi hk hs, Int.toNat_natCast, mR_6 hi, mR_5 hi, mn_comm, mU_1 hi]
  rfl
theorem s_interest {rf : Int} {σ : Sg} {i : Nat} (hi : i < 8) : gIStep (mOf rf σ) i = mOf rf (fInterest σ i) := by
  rw [gIStep, mR_6 hi, s_charge hi]
  rfl
theorem s_harvest0 {rf : Int} {σ : Sg} {i : Nat} (hi : i < 8) (hc : (i : Int) < σ 0 2) (h12 : 0 ≤ σ (9 + i) 12 ∧ σ (9 + i) 12 < 3) : gHarvest0 (mOf rf σ) (i : Int) = mOf rf (fHarvest0 σ i (σ (9 + i) 12).toNat) := by
  rw [gHarvest0, gWhole, Int.toNat_natCast, mR_13 hi hc, mR_14 hi, mR_17 hi hc, mR_8 hi, mR_3 (by omega), mU_9 hi, mU_11 hi]
  rfl
theorem s_harvest {rf : Int} {σ : Sg} {i : Nat} (hi : i < 8) (hc : (i : Int) < σ 0 2) (h12 : 0 ≤ σ (9 + i) 12 ∧ σ (9 + i) 12 < 3) : gHarvest (mOf rf σ) (i : Int) = mOf rf (fHarvest σ i (σ (9 + i) 12).toNat) := by
  rw [gHarvest, s_harvest0 hi hc h12, gWhole, Int.toNat_natCast, mR_13 hi hc, mR_14 hi, mR_17 hi hc, mR_16 hi, mR_2 (by omega), mR_3 (by omega), s_come (s := 1) (k := 1) hi (by decide) rfl, fHarvest]
  split <;> rfl
theorem s_harv {rf : Int} {σ : Sg} {i : Nat} (hi : i < 8) (hc : (i : Int) < σ 0 2) (h12 : -1 ≤ σ (9 + i) 12 ∧ σ (9 + i) 12 < 3) : gHStep (mOf rf σ) i = mOf rf (fHarv σ i) := by
  rw [gHStep, fHarv, mR_13 hi hc]
  by_cases h : σ (9 + i) 12 = -1
  · rw [if_pos h, if_pos h]
  · rw [if_neg h, if_neg h, s_harvest hi hc (by omega)]
set_option maxHeartbeats 1000000 in
theorem mU_8' {rf v : Int} {σ : Sg} {i x y : Nat} (hi : i < 8) (h : x ≠ 12) : up (mOf rf σ) 11 i v x y = mOf rf (up σ (9 + i) 8 v) x y := by
  match x with
  | 0 => simp only [up, mOf]; (repeat' split) <;> first | rfl | omega
  | 1 => simp only [up, mOf]; (repeat' split) <;> first | rfl | omega
  | 2 => simp only [up, mOf]; (repeat' split) <;> first | rfl | omega
  | 3 => simp only [up, mOf]; (repeat' split) <;> first | rfl | omega
  | 4 => simp only [up, mOf]; (repeat' split) <;> first | rfl | omega
  | 5 => simp only [up, mOf]; (repeat' split) <;> first | rfl | omega
  | 6 => simp only [up, mOf]; (repeat' split) <;> first | rfl | omega
  | 7 => simp only [up, mOf]; (repeat' split) <;> first | rfl | omega
  | 8 => simp only [up, mOf]; (repeat' split) <;> first | rfl | omega
  | 9 => simp only [up, mOf]; (repeat' split) <;> first | rfl | omega
  | 10 => simp only [up, mOf]; (repeat' split) <;> first | rfl | omega
  | 11 => simp only [up, mOf]; (repeat' split) <;> first | rfl | omega
  | 12 => exact absurd rfl h
  | 13 => simp only [up, mOf]; (repeat' split) <;> first | rfl | omega
  | 14 => simp only [up, mOf]; (repeat' split) <;> first | rfl | omega
  | 15 => simp only [up, mOf]; (repeat' split) <;> first | rfl | omega
  | 16 => simp only [up, mOf]; (repeat' split) <;> first | rfl | omega
  | 17 => simp only [up, mOf]; (repeat' split) <;> first | rfl | omega
  | 18 => simp only [up, mOf]; (repeat' split) <;> first | rfl | omega
  | 19 => simp only [up, mOf]; (repeat' split) <;> first | rfl | omega
  | 20 => simp only [up, mOf]; (repeat' split) <;> first | rfl | omega
  | x + 21 => simp only [up, mOf]; (repeat' split) <;> first | rfl | omega
theorem s_shift {rf : Int} {σ : Sg} {i : Nat} (hi : i < 8) {n : Int} (hn : σ (9 + i) 8 = n) (h0 : 0 < n ∧ n ≤ 3) : up (gShift (mOf rf σ) (i : Int) (n.toNat - 1)) 11 i (n - 1) = mOf rf (up σ (9 + i) 8 (n - 1)) := by
  funext x y
  by_cases h12 : x = 12
  · subst h12
    rw [up_a (by decide)]
    have hR : mOf rf (up σ (9 + i) 8 (n - 1)) 12 y = if y < 24 then σ (25 + y / 3) (pIx (if y / 3 = i then n - 1 else σ (9 + y / 3) 8) (y % 3)) else 0 := by
      show (if y < 24 then up σ (9 + i) 8 (n - 1) (25 + y / 3) (pIx (up σ (9 + i) 8 (n - 1) (9 + y / 3) 8) (y % 3)) else 0) = _
      by_cases h : y < 24
      · rw [if_pos h, if_pos h, up_a (by omega)]
        by_cases e : y / 3 = i
        · rw [if_pos e, e, up_s]
        · rw [if_neg e, up_a (by omega)]
      · rw [if_neg h, if_neg h]
    have hL : ∀ q, mOf rf σ 12 q = if q < 24 then σ (25 + q / 3) (pIx (if q / 3 = i then n else σ (9 + q / 3) 8) (q % 3)) else 0 := fun q => by
      show (if q < 24 then σ (25 + q / 3) (pIx (σ (9 + q / 3) 8) (q % 3)) else 0) = _
      by_cases e : q / 3 = i
      · rw [if_pos e, e, hn]
      · rw [if_neg e]
    rw [hR]
    have e1 : (3 * (i : Int) + ((0 : Nat) + 1) - 1).toNat = 3 * i := by omega
    have e2 : (3 * (i : Int) + ((0 : Nat) + 1)).toNat = 3 * i + 1 := by omega
    have e3 : (3 * (i : Int) + ((1 : Nat) + 1) - 1).toNat = 3 * i + 1 := by omega
    have e4 : (3 * (i : Int) + ((1 : Nat) + 1)).toNat = 3 * i + 2 := by omega
    have v0 : mOf rf σ 12 (3 * i) = σ (25 + i) (pIx n 0) := by rw [hL, if_pos (by omega), show 3 * i / 3 = i by omega, if_pos rfl, show 3 * i % 3 = 0 by omega]
    have v1 : mOf rf σ 12 (3 * i + 1) = σ (25 + i) (pIx n 1) := by rw [hL, if_pos (by omega), show (3 * i + 1) / 3 = i by omega, if_pos rfl, show (3 * i + 1) % 3 = 1 by omega]
    have v2 : mOf rf σ 12 (3 * i + 2) = σ (25 + i) (pIx n 2) := by rw [hL, if_pos (by omega), show (3 * i + 2) / 3 = i by omega, if_pos rfl, show (3 * i + 2) % 3 = 2 by omega]
    by_cases e : y / 3 = i
    · rw [if_pos e, e, if_pos (by omega)]
      rcases (by omega : n = 1 ∨ n = 2 ∨ n = 3) with rfl | rfl | rfl <;> rcases (by omega : y = 3 * i ∨ y = 3 * i + 1 ∨ y = 3 * i + 2) with rfl | rfl | rfl
      · rw [show 3 * i % 3 = 0 by omega]; exact v0
      · rw [show (3 * i + 1) % 3 = 1 by omega]; exact v1
      · rw [show (3 * i + 2) % 3 = 2 by omega]; exact v2
      · rw [show 3 * i % 3 = 0 by omega]
        show up (mOf rf σ) 12 (3 * (i : Int) + ((0 : Nat) + 1) - 1).toNat (mOf rf σ 12 (3 * (i : Int) + ((0 : Nat) + 1)).toNat) 12 (3 * i) = _
        rw [e1, e2, up_s]; exact v1
      · rw [show (3 * i + 1) % 3 = 1 by omega]
        show up (mOf rf σ) 12 (3 * (i : Int) + ((0 : Nat) + 1) - 1).toNat (mOf rf σ 12 (3 * (i : Int) + ((0 : Nat) + 1)).toNat) 12 (3 * i + 1) = _
        rw [e1, e2, up_b (by omega)]; exact v1
      · rw [show (3 * i + 2) % 3 = 2 by omega]
        show up (mOf rf σ) 12 (3 * (i : Int) + ((0 : Nat) + 1) - 1).toNat (mOf rf σ 12 (3 * (i : Int) + ((0 : Nat) + 1)).toNat) 12 (3 * i + 2) = _
        rw [e1, e2, up_b (by omega)]; exact v2
      · rw [show 3 * i % 3 = 0 by omega]
        show up (up (mOf rf σ) 12 (3 * (i : Int) + ((0 : Nat) + 1) - 1).toNat (mOf rf σ 12 (3 * (i : Int) + ((0 : Nat) + 1)).toNat)) 12 (3 * (i : Int) + ((1 : Nat) + 1) - 1).toNat (up (mOf rf σ) 12 (3 * (i : Int) + ((0 : Nat) + 1) - 1).toNat (mOf rf σ 12 (3 * (i : Int) + ((0 : Nat) + 1)).toNat) 12 (3 * (i : Int) + ((1 : Nat) + 1)).toNat) 12 (3 * i) = _
        rw [e1, e2, e3, e4, up_b (by omega), up_s]; exact v1
      · rw [show (3 * i + 1) % 3 = 1 by omega]
        show up (up (mOf rf σ) 12 (3 * (i : Int) + ((0 : Nat) + 1) - 1).toNat (mOf rf σ 12 (3 * (i : Int) + ((0 : Nat) + 1)).toNat)) 12 (3 * (i : Int) + ((1 : Nat) + 1) - 1).toNat (up (mOf rf σ) 12 (3 * (i : Int) + ((0 : Nat) + 1) - 1).toNat (mOf rf σ 12 (3 * (i : Int) + ((0 : Nat) + 1)).toNat) 12 (3 * (i : Int) + ((1 : Nat) + 1)).toNat) 12 (3 * i + 1) = _
        rw [e1, e2, e3, e4, up_s, up_b (by omega)]; exact v2
      · rw [show (3 * i + 2) % 3 = 2 by omega]
        show up (up (mOf rf σ) 12 (3 * (i : Int) + ((0 : Nat) + 1) - 1).toNat (mOf rf σ 12 (3 * (i : Int) + ((0 : Nat) + 1)).toNat)) 12 (3 * (i : Int) + ((1 : Nat) + 1) - 1).toNat (up (mOf rf σ) 12 (3 * (i : Int) + ((0 : Nat) + 1) - 1).toNat (mOf rf σ 12 (3 * (i : Int) + ((0 : Nat) + 1)).toNat) 12 (3 * (i : Int) + ((1 : Nat) + 1)).toNat) 12 (3 * i + 2) = _
        rw [e1, e2, e3, e4, up_b (by omega), up_b (by omega)]; exact v2
    · rw [if_neg e]
      have hk : ∀ j : Nat, j ≤ 2 → gShift (mOf rf σ) (i : Int) j 12 y = mOf rf σ 12 y := fun j => by
        induction j with
        | zero => intro _; rfl
        | succ j ih =>
          intro hj
          rw [gShift, up_b (by omega)]
          exact ih (by omega)
      rw [hk _ (by omega)]
      rfl
  · by_cases h11 : x = 11 ∧ y = i
    · obtain ⟨rfl, rfl⟩ := h11
      rw [up_s]
      show _ = if y < 8 then up σ (9 + y) 8 (n - 1) (9 + y) 8 else 0
      rw [if_pos hi, up_s]
    · have e0 : up (gShift (mOf rf σ) (i : Int) (n.toNat - 1)) 11 i (n - 1) x y = mOf rf σ x y := by
        by_cases hx : x = 11
        · subst hx
          rw [up_b (fun h => h11 ⟨rfl, h⟩), gShift_r (by decide)]
        · rw [up_a hx, gShift_r h12]
      rw [e0, ← mU_8' hi h12]
      by_cases hx : x = 11
      · subst hx
        rw [up_b (fun h => h11 ⟨rfl, h⟩)]
      · rw [up_a hx]
