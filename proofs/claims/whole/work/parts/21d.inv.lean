/-! the tie: what holds at every call -/
theorem nums : ∀ s, s < 21 → ∀ k, k < 5 → uU s k ≤ 701107943 ∧ bB s k ≤ 1152563534 ∧ 20000000 ≤ bB s k ∧ 30000000 * hH s k + 20000000 ≤ uU s k ∧ 0 ≤ hH s k ∧ hH s k ≤ 21 := by decide +kernel
theorem fSum3 (σ : Sg) (i : Nat) : fSum σ i 3 = (if 3 - σ (9 + i) 8 ≤ 0 then σ (25 + i) 0 else 0) + (if 3 - σ (9 + i) 8 ≤ 1 then σ (25 + i) 1 else 0) + (if 3 - σ (9 + i) 8 ≤ 2 then σ (25 + i) 2 else 0) := by
  show 0 + (if 3 - σ (9 + i) 8 ≤ ((0 : Nat) : Int) then σ (25 + i) 0 else 0) + (if 3 - σ (9 + i) 8 ≤ ((1 : Nat) : Int) then σ (25 + i) 1 else 0) + (if 3 - σ (9 + i) 8 ≤ ((2 : Nat) : Int) then σ (25 + i) 2 else 0) = _
  rw [Int.zero_add]
  rfl
theorem fSum_c {σ τ : Sg} {i : Nat} (h8 : τ (9 + i) 8 = σ (9 + i) 8) (h25 : τ (25 + i) = σ (25 + i)) : fSum τ i 3 = fSum σ i 3 := by rw [fSum3, fSum3, h8, h25]
theorem take_sum {σ : Sg} {i : Nat} (h8 : 0 ≤ σ (9 + i) 8 ∧ σ (9 + i) 8 ≤ 3) (hp : ∀ q, q < 3 → 0 ≤ σ (25 + i) q) : 0 ≤ fTakeV σ i ∧ fTakeV σ i ≤ fSum σ i 3 ∧ 0 ≤ fSum σ i 3 := by
  have p0 := hp 0 (by decide)
  have p1 := hp 1 (by decide)
  have p2 := hp 2 (by decide)
  rw [fSum3, fTakeV]
  rcases (by omega : σ (9 + i) 8 = 0 ∨ σ (9 + i) 8 = 1 ∨ σ (9 + i) 8 = 2 ∨ σ (9 + i) 8 = 3) with h | h | h | h <;> rw [h]
  · rw [if_pos (by omega), if_neg (by omega), if_neg (by omega), if_neg (by omega)]; omega
  · rw [if_neg (by omega), if_neg (by omega), if_neg (by omega), if_pos (by omega)]
    show 0 ≤ σ (25 + i) 2 ∧ σ (25 + i) 2 ≤ _ ∧ _
    omega
  · rw [if_neg (by omega), if_neg (by omega), if_pos (by omega), if_pos (by omega)]
    show 0 ≤ σ (25 + i) 1 ∧ σ (25 + i) 1 ≤ _ ∧ _
    omega
  · rw [if_neg (by omega), if_pos (by omega), if_pos (by omega), if_pos (by omega)]
    show 0 ≤ σ (25 + i) 0 ∧ σ (25 + i) 0 ≤ _ ∧ _
    omega
theorem jFa_c {h u b : Int} {σ τ : Sg} {i : Nat} (hf : jFa h u b σ i) (e9 : τ (9 + i) = σ (9 + i)) (e25 : τ (25 + i) = σ (25 + i)) : jFa h u b τ i := by
  unfold jFa at hf ⊢
  rw [fSum_c (σ := σ) (by rw [e9]) e25, e9, e25]
  exact hf
theorem jZ_c {σ τ : Sg} {i : Nat} (hf : jZ σ i) (e9 : τ (9 + i) = σ (9 + i)) (e17 : τ (17 + i) = σ (17 + i)) (e25 : τ (25 + i) = σ (25 + i)) : jZ τ i := by
  unfold jZ at hf ⊢
  rw [e9, e17, e25]
  exact hf
theorem sk_b {σ : Sg} (h : cGl σ) : sN σ < 21 ∧ kN σ < 5 := by
  obtain ⟨-, h3, h4⟩ := h
  unfold sN kN
  omega
theorem jz_bd {σ : Sg} {i : Nat} (h : jZ σ i) : cFaB σ i := by
  obtain ⟨z, z12, z15, zp, zt⟩ := h
  have ht : fTakeV σ i = 0 := by
    rw [fTakeV, z 8 (by decide) (by decide) (by decide), if_pos (Or.inr (by decide))]
  unfold cFaB
  rw [ht, z 0 (by decide) (by decide) (by decide), z 1 (by decide) (by decide) (by decide), z 2 (by decide) (by decide) (by decide), z 3 (by decide) (by decide) (by decide), z 5 (by decide) (by decide) (by decide), z 8 (by decide) (by decide) (by decide), z 10 (by decide) (by decide) (by decide), z 9 (by decide) (by decide) (by decide), z 11 (by decide) (by decide) (by decide), z12, z 13 (by decide) (by decide) (by decide), z 14 (by decide) (by decide) (by decide), z15, z 16 (by decide) (by decide) (by decide)]
  decide
theorem inv_bd {σ : Sg} (h : jInv σ) : cBd σ := by
  obtain ⟨hG, hC, hF, hZ⟩ := h
  refine ⟨hG, hC, fun i hi => ?_⟩
  by_cases hc : (i : Int) < σ 0 2
  · obtain ⟨⟨g0, g1, g2, g3, g5, g8, g10, g11, g12, g13, g14, g15, g16, gp⟩, P1, P2, P3, P4, P5, P6, P7⟩ := hF i hi hc
    obtain ⟨hs, hk⟩ := sk_b hG
    obtain ⟨n1, n2, n3, n4, n5, n6⟩ := nums _ hs _ hk
    obtain ⟨t1, t2, t3⟩ := take_sum g8 gp
    have hd : σ (9 + i) 2 + fTakeV σ i ≤ 2100000000 := by
      by_cases hp : 0 < σ (9 + i) 1
      · have := P5 hp
        omega
      · omega
    exact ⟨g0, ⟨g1, by omega⟩, ⟨g2, by omega⟩, ⟨g3, by omega⟩, g5, g8, ⟨g10.1, g10.2, by omega⟩, g11, g12, g13, g14, g15, g16, t1, hd⟩
  · exact jz_bd (hZ i hi (by omega))
theorem q_cBd {σ M : Sg} (h : JJ σ M) : cBd σ := inv_bd h.1
theorem q_count {σ M : Sg} (h : JJ σ M) : M 0 6 = σ 0 2 := by obtain ⟨_, rf, rfl⟩ := h; rfl
theorem q_season {σ M : Sg} (h : JJ σ M) : M 0 1 = σ 0 3 := by obtain ⟨_, rf, rfl⟩ := h; rfl
theorem q_stage {σ M : Sg} (h : JJ σ M) : M 0 2 = σ 0 4 := by obtain ⟨_, rf, rfl⟩ := h; rfl
theorem q_rf {σ M : Sg} (h : JJ σ M) (v : Int) : JJ σ (up M 0 0 v) := by
  obtain ⟨h, rf, rfl⟩ := h
  exact ⟨h, v, mOf_rf⟩
theorem q_mBd {σ M : Sg} (h : JJ σ M) : mBd M := by
  obtain ⟨h, rf, rfl⟩ := h
  have hB := inv_bd h
  obtain ⟨hG, hC, hF⟩ := hB
  refine ⟨⟨hG.1, hG.2.1, hG.2.2⟩, ⟨fun c hc => ?_, fun q hq => ?_⟩, fun i hi => ?_⟩
  · rw [mR_2 hc, mR_3 hc]
    exact ⟨(hC c hc).1, (hC c hc).2.1⟩
  · have := (hC (q / 4) (by omega)).2.2 (q % 4) (by omega)
    have e := mR_1 (rf := rf) (σ := σ) (c := q / 4) (k := q % 4) (by omega) (by omega)
    rw [show 4 * (q / 4) + q % 4 = q by omega] at e
    rw [e]
    exact this
  · obtain ⟨g0, g1, g2, g3, g5, g8, g9, g11, g12, g13, g14, g15, g16, gt⟩ := hF i hi
    unfold mFa
    rw [mR_5 hi, mR_6 hi, mR_7 hi, mR_8 hi, mR_9 hi, mR_10 hi, mR_11 hi, mR_14 hi, mR_15 hi, mR_16 hi]
    refine ⟨g1, by omega, g11, g9, g3, g8, ?_, g13, g16, g14, ?_⟩
    · show -1 ≤ (if i < 8 ∧ (i : Int) < σ 0 2 then σ (9 + i) 12 else 0) ∧ (if i < 8 ∧ (i : Int) < σ 0 2 then σ (9 + i) 12 else 0) < 3
      split <;> omega
    · show 0 ≤ (if i < 8 ∧ (i : Int) < σ 0 2 then σ (9 + i) 15 else 0) ∧ (if i < 8 ∧ (i : Int) < σ 0 2 then σ (9 + i) 15 else 0) ≤ 200
      split <;> omega
/-- a call that touches one farmer's rows -/
theorem inv_one {σ τ : Sg} {i : Nat} (h : jInv σ) (hi : i < 8) (hc : (i : Int) < σ 0 2) (hr : ∀ r, r ≠ 9 + i → r ≠ 17 + i → r ≠ 25 + i → τ r = σ r) (hf : jFa (hH (sN σ) (kN σ)) (uU (sN σ) (kN σ)) (bB (sN σ) (kN σ)) τ i) : jInv τ := by
  obtain ⟨hG, hC, hF, hZ⟩ := h
  have e0 : τ 0 = σ 0 := hr 0 (by omega) (by omega) (by omega)
  refine ⟨?_, fun c hc => ?_, fun j hj hjc => ?_, fun j hj hjc => ?_⟩
  · unfold cGl at hG ⊢
    rw [e0]; exact hG
  · have := hC c hc
    unfold cCrB at this ⊢
    rw [hr (3 + c) (by omega) (by omega) (by omega), hr (6 + c) (by omega) (by omega) (by omega)]
    exact this
  · unfold sN kN at hF hf ⊢
    rw [e0] at hjc ⊢
    by_cases e : j = i
    · subst e; exact hf
    · exact jFa_c (hF j hj hjc) (hr _ (by omega) (by omega) (by omega)) (hr _ (by omega) (by omega) (by omega))
  · rw [e0] at hjc
    exact jZ_c (hZ j hj hjc) (hr _ (by omega) (by omega) (by omega)) (hr _ (by omega) (by omega) (by omega)) (hr _ (by omega) (by omega) (by omega))
/-- a call that touches a crop's rows -/
theorem inv_crop {σ τ : Sg} (h : jInv σ) (hr : ∀ r, r < 3 ∨ 9 ≤ r → τ r = σ r) (hC2 : ∀ c, c < 3 → cCrB τ c) : jInv τ := by
  obtain ⟨hG, hC, hF, hZ⟩ := h
  have e0 : τ 0 = σ 0 := hr 0 (by omega)
  refine ⟨?_, hC2, fun j hj hjc => ?_, fun j hj hjc => ?_⟩
  · unfold cGl at hG ⊢
    rw [e0]; exact hG
  · unfold sN kN at hF ⊢
    rw [e0] at hjc ⊢
    exact jFa_c (hF j hj hjc) (hr _ (by omega)) (hr _ (by omega))
  · rw [e0] at hjc
    exact jZ_c (hZ j hj hjc) (hr _ (by omega)) (hr _ (by omega)) (hr _ (by omega))
theorem jj_no {σ M T : Sg} {k : Int} (h : JJ σ M) (hk : k ≠ 0) : JJ σ (tOf k M T) := by
  rw [tOf, if_neg hk]
  exact q_rf h k
theorem tOf_nz {k : Int} {M T : Sg} (hk : k ≠ 0) : tOf k M T 0 0 = k := by rw [tOf, if_neg hk]; rfl
