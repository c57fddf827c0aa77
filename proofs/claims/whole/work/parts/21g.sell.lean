/-! the tie: a sale, a new farmer -/
theorem fReceive_up {σ : Sg} {i c k : Nat} {v x : Int} (h1 : c ≠ 1) (h2 : c ≠ 2) : fReceive (up σ (9 + i) c v) i x k = up (fReceive σ i x k) (9 + i) c v := by
  have r1 : up σ (9 + i) c v (9 + i) 1 = σ (9 + i) 1 := up_b (Ne.symm h1)
  have r2 : up σ (9 + i) c v (9 + i) 2 = σ (9 + i) 2 := up_b (Ne.symm h2)
  have r17 : up σ (9 + i) c v (17 + i) k = σ (17 + i) k := up_a (by omega)
  unfold fReceive fLower
  rw [r2, r1, r17, up_swap (b := c) (b2 := 2) (Or.inr h2), up_swap (a := 9 + i) (b := c) (a2 := 17 + i) (Or.inl (by omega)), up_swap (b := c) (b2 := 1) (Or.inr h1)]
theorem fReceive_1 {σ : Sg} {i k : Nat} {x : Int} : fReceive σ i x k (9 + i) 1 = σ (9 + i) 1 + (x - mn x (σ (9 + i) 2)) := by rw [fReceive, up_s]
theorem fReceive_2 {σ : Sg} {i k : Nat} {x : Int} : fReceive σ i x k (9 + i) 2 = σ (9 + i) 2 - mn x (σ (9 + i) 2) := by
  rw [fReceive, up_b (by decide), fLower, up_a (by omega), up_s]
theorem fReceive_17 {σ : Sg} {i k : Nat} {x : Int} : fReceive σ i x k (17 + i) k = σ (17 + i) k + mn x (σ (9 + i) 2) := by
  rw [fReceive, up_a (by omega), fLower, up_s]
theorem two_rec {σ : Sg} {i k : Nat} {a b : Int} (ha : 0 ≤ a) (hb : 0 ≤ b) (hd : 0 ≤ σ (9 + i) 2) : fReceive (fReceive σ i a k) i b k = fReceive σ i (a + b) k := by
  have hm : mn a (σ (9 + i) 2) + mn b (σ (9 + i) 2 - mn a (σ (9 + i) 2)) = mn (a + b) (σ (9 + i) 2) := by
    unfold mn
    (repeat' split) <;> omega
  rw [fReceive, fLower, fReceive_1, fReceive_2, fReceive_17]
  generalize mn b (σ (9 + i) 2 - mn a (σ (9 + i) 2)) = m2 at hm ⊢
  unfold fReceive fLower
  generalize mn a (σ (9 + i) 2) = m1 at hm ⊢
  generalize mn (a + b) (σ (9 + i) 2) = m3 at hm ⊢
  funext x y
  simp only [up]
  (repeat' split) <;> first | rfl | omega
theorem j_sell0 {h u b : Int} {σ : Sg} {i : Nat} {w pr : Int} (hw : 1 ≤ w) (hw2 : w ≤ σ (9 + i) 9) (hpr : 0 ≤ pr ∧ pr ≤ 5000) (hf : jFa h u b σ i) (hu : 30000000 * h + 20000000 ≤ u) : jFa h u b (fSell0 σ i w pr) i := by
  obtain ⟨⟨g0, g1, g2, g3, g5, g8, g10, g11, g12, g13, g14, g15, g16, gp⟩, P1, P2, P3, P4, P5, P6, P7⟩ := hf
  obtain ⟨m, hm⟩ : ∃ m, m = mn (fFree σ i w * pr + (w - fFree σ i w) * pr - fLowered σ i w pr) (σ (9 + i) 2) := ⟨_, rfl⟩
  have q1 := mn_le1 w (σ (9 + i) 9 - σ (9 + i) 10)
  have q2 := mn_le2 w (σ (9 + i) 9 - σ (9 + i) 10)
  have q3 := mn_ge w (σ (9 + i) 9 - σ (9 + i) 10) 0 (by omega) (by omega)
  have q4 : fFree σ i w = w ∨ fFree σ i w = σ (9 + i) 9 - σ (9 + i) 10 := by unfold fFree mn; split <;> simp
  rw [← fFree] at q1 q2 q3
  have hA := mulB (a := fFree σ i w) (b := pr) (A := fFree σ i w) (B := 5000) (by omega) hpr
  have hB := mulB (a := w - fFree σ i w) (b := pr) (A := w - fFree σ i w) (B := 5000) (by omega) hpr
  have l1 := mn_le1 ((w - fFree σ i w) * pr) (σ (9 + i) 3)
  have l2 := mn_le2 ((w - fFree σ i w) * pr) (σ (9 + i) 3)
  have l3 := mn_ge ((w - fFree σ i w) * pr) (σ (9 + i) 3) 0 (by omega) (by omega)
  have l4 : fLowered σ i w pr = (w - fFree σ i w) * pr ∨ fLowered σ i w pr = σ (9 + i) 3 := by unfold fLowered mn; split <;> simp
  rw [← fLowered] at l1 l2 l3
  have m1 := mn_le1 (fFree σ i w * pr + (w - fFree σ i w) * pr - fLowered σ i w pr) (σ (9 + i) 2)
  have m2 := mn_le2 (fFree σ i w * pr + (w - fFree σ i w) * pr - fLowered σ i w pr) (σ (9 + i) 2)
  have m3 := mn_ge (fFree σ i w * pr + (w - fFree σ i w) * pr - fLowered σ i w pr) (σ (9 + i) 2) 0 (by omega) g2
  have m4 : m = fFree σ i w * pr + (w - fFree σ i w) * pr - fLowered σ i w pr ∨ m = σ (9 + i) 2 := by rw [hm]; unfold mn; split <;> simp
  rw [← hm] at m1 m2 m3
  have hX : fSell0 σ i w pr = up (up (up (fReceive σ i (fFree σ i w * pr + (w - fFree σ i w) * pr - fLowered σ i w pr) 3) (9 + i) 9 (σ (9 + i) 9 - w)) (9 + i) 10 (σ (9 + i) 10 - (w - fFree σ i w))) (9 + i) 3 (σ (9 + i) 3 - fLowered σ i w pr) := by rw [fSell0, fReceive_up (by decide) (by decide), fReceive_up (by decide) (by decide), fReceive_up (by decide) (by decide)]
  rw [hX]
  obtain ⟨X, hXX⟩ : ∃ X, X = fFree σ i w * pr + (w - fFree σ i w) * pr - fLowered σ i w pr := ⟨_, rfl⟩
  obtain ⟨F, hF⟩ : ∃ F, F = fFree σ i w := ⟨_, rfl⟩
  obtain ⟨lo, hlo⟩ : ∃ lo, lo = fLowered σ i w pr := ⟨_, rfl⟩
  rw [← hXX] at hm m1 m4 ⊢
  rw [← hlo] at l1 l2 l3 l4 hXX ⊢
  rw [← hF] at q1 q2 q3 q4 hA hB l1 l4 hXX ⊢
  generalize F * pr = A at hA hXX
  generalize (w - F) * pr = B at hB l1 l4 hXX
  have e0 : (up (up (up (fReceive σ i X 3) (9 + i) 9 (σ (9 + i) 9 - w)) (9 + i) 10 (σ (9 + i) 10 - (w - F))) (9 + i) 3 (σ (9 + i) 3 - lo)) (9 + i) 0 = σ (9 + i) 0 := by simp [fReceive, fLower, up, hm]
  have e1 : (up (up (up (fReceive σ i X 3) (9 + i) 9 (σ (9 + i) 9 - w)) (9 + i) 10 (σ (9 + i) 10 - (w - F))) (9 + i) 3 (σ (9 + i) 3 - lo)) (9 + i) 1 = σ (9 + i) 1 + (X - m) := by simp [fReceive, fLower, up, hm]
  have e2 : (up (up (up (fReceive σ i X 3) (9 + i) 9 (σ (9 + i) 9 - w)) (9 + i) 10 (σ (9 + i) 10 - (w - F))) (9 + i) 3 (σ (9 + i) 3 - lo)) (9 + i) 2 = σ (9 + i) 2 - m := by simp [fReceive, fLower, up, hm]
  have e3 : (up (up (up (fReceive σ i X 3) (9 + i) 9 (σ (9 + i) 9 - w)) (9 + i) 10 (σ (9 + i) 10 - (w - F))) (9 + i) 3 (σ (9 + i) 3 - lo)) (9 + i) 3 = σ (9 + i) 3 - lo := by simp [fReceive, fLower, up, hm]
  have e5 : (up (up (up (fReceive σ i X 3) (9 + i) 9 (σ (9 + i) 9 - w)) (9 + i) 10 (σ (9 + i) 10 - (w - F))) (9 + i) 3 (σ (9 + i) 3 - lo)) (9 + i) 5 = σ (9 + i) 5 := by simp [fReceive, fLower, up, hm]
  have e8 : (up (up (up (fReceive σ i X 3) (9 + i) 9 (σ (9 + i) 9 - w)) (9 + i) 10 (σ (9 + i) 10 - (w - F))) (9 + i) 3 (σ (9 + i) 3 - lo)) (9 + i) 8 = σ (9 + i) 8 := by simp [fReceive, fLower, up, hm]
  have e9 : (up (up (up (fReceive σ i X 3) (9 + i) 9 (σ (9 + i) 9 - w)) (9 + i) 10 (σ (9 + i) 10 - (w - F))) (9 + i) 3 (σ (9 + i) 3 - lo)) (9 + i) 9 = σ (9 + i) 9 - w := by simp [fReceive, fLower, up, hm]
  have e10 : (up (up (up (fReceive σ i X 3) (9 + i) 9 (σ (9 + i) 9 - w)) (9 + i) 10 (σ (9 + i) 10 - (w - F))) (9 + i) 3 (σ (9 + i) 3 - lo)) (9 + i) 10 = σ (9 + i) 10 - (w - F) := by simp [fReceive, fLower, up, hm]
  have e11 : (up (up (up (fReceive σ i X 3) (9 + i) 9 (σ (9 + i) 9 - w)) (9 + i) 10 (σ (9 + i) 10 - (w - F))) (9 + i) 3 (σ (9 + i) 3 - lo)) (9 + i) 11 = σ (9 + i) 11 := by simp [fReceive, fLower, up, hm]
  have e12 : (up (up (up (fReceive σ i X 3) (9 + i) 9 (σ (9 + i) 9 - w)) (9 + i) 10 (σ (9 + i) 10 - (w - F))) (9 + i) 3 (σ (9 + i) 3 - lo)) (9 + i) 12 = σ (9 + i) 12 := by simp [fReceive, fLower, up, hm]
  have e13 : (up (up (up (fReceive σ i X 3) (9 + i) 9 (σ (9 + i) 9 - w)) (9 + i) 10 (σ (9 + i) 10 - (w - F))) (9 + i) 3 (σ (9 + i) 3 - lo)) (9 + i) 13 = σ (9 + i) 13 := by simp [fReceive, fLower, up, hm]
  have e14 : (up (up (up (fReceive σ i X 3) (9 + i) 9 (σ (9 + i) 9 - w)) (9 + i) 10 (σ (9 + i) 10 - (w - F))) (9 + i) 3 (σ (9 + i) 3 - lo)) (9 + i) 14 = σ (9 + i) 14 := by simp [fReceive, fLower, up, hm]
  have e15 : (up (up (up (fReceive σ i X 3) (9 + i) 9 (σ (9 + i) 9 - w)) (9 + i) 10 (σ (9 + i) 10 - (w - F))) (9 + i) 3 (σ (9 + i) 3 - lo)) (9 + i) 15 = σ (9 + i) 15 := by simp [fReceive, fLower, up, hm]
  have e16 : (up (up (up (fReceive σ i X 3) (9 + i) 9 (σ (9 + i) 9 - w)) (9 + i) 10 (σ (9 + i) 10 - (w - F))) (9 + i) 3 (σ (9 + i) 3 - lo)) (9 + i) 16 = σ (9 + i) 16 := by simp [fReceive, fLower, up, hm]
  have e25 : (up (up (up (fReceive σ i X 3) (9 + i) 9 (σ (9 + i) 9 - w)) (9 + i) 10 (σ (9 + i) 10 - (w - F))) (9 + i) 3 (σ (9 + i) 3 - lo)) (25 + i) = σ (25 + i) := by
    funext z
    simp [fReceive, fLower, up, hm]
  have eS : fSum (up (up (up (fReceive σ i X 3) (9 + i) 9 (σ (9 + i) 9 - w)) (9 + i) 10 (σ (9 + i) 10 - (w - F))) (9 + i) 3 (σ (9 + i) 3 - lo)) i 3 = fSum σ i 3 := fSum_c (e8) e25
  unfold jFa
  rw [e0, e1, e2, e3, e5, e8, e9, e10, e11, e12, e13, e14, e15, e16, eS, e25]
  refine ⟨⟨?_, ?_, ?_, ?_, ?_, ?_, ?_, ?_, ?_, ?_, ?_, ?_, ?_, gp⟩, ?_, ?_, ?_, ?_, fun hp => ?_, ?_, ?_⟩
  all_goals first | assumption | omega | (rcases q4 with q4 | q4 <;> rcases l4 with l4 | l4 <;> omega) | (by_cases hp0 : 0 < σ (9 + i) 1 <;> first | (have := P5 hp0; omega) | omega)
theorem j_move {h u b : Int} {σ : Sg} {i : Nat} (h10 : σ (9 + i) 10 = 0) (hf : jFa h u b σ i) (hu : 30000000 * h + 20000000 ≤ u) : jFa h u b (fMove σ i) i := by
  obtain ⟨⟨g0, g1, g2, g3, g5, g8, g10, g11, g12, g13, g14, g15, g16, gp⟩, P1, P2, P3, P4, P5, P6, P7⟩ := hf
  have e0 : (fMove σ i) (9 + i) 0 = σ (9 + i) 0 := by simp [fMove, fCharge, up]
  have e1 : (fMove σ i) (9 + i) 1 = σ (9 + i) 1 := by simp [fMove, fCharge, up]
  have e2 : (fMove σ i) (9 + i) 2 = σ (9 + i) 2 + σ (9 + i) 3 := by simp [fMove, fCharge, up]
  have e3 : (fMove σ i) (9 + i) 3 = 0 := by simp [fMove, fCharge, up]
  have e5 : (fMove σ i) (9 + i) 5 = σ (9 + i) 5 := by simp [fMove, fCharge, up]
  have e8 : (fMove σ i) (9 + i) 8 = σ (9 + i) 8 := by simp [fMove, fCharge, up]
  have e9 : (fMove σ i) (9 + i) 9 = σ (9 + i) 9 := by simp [fMove, fCharge, up]
  have e10 : (fMove σ i) (9 + i) 10 = σ (9 + i) 10 := by simp [fMove, fCharge, up]
  have e11 : (fMove σ i) (9 + i) 11 = σ (9 + i) 11 := by simp [fMove, fCharge, up]
  have e12 : (fMove σ i) (9 + i) 12 = σ (9 + i) 12 := by simp [fMove, fCharge, up]
  have e13 : (fMove σ i) (9 + i) 13 = σ (9 + i) 13 := by simp [fMove, fCharge, up]
  have e14 : (fMove σ i) (9 + i) 14 = σ (9 + i) 14 := by simp [fMove, fCharge, up]
  have e15 : (fMove σ i) (9 + i) 15 = σ (9 + i) 15 := by simp [fMove, fCharge, up]
  have e16 : (fMove σ i) (9 + i) 16 = σ (9 + i) 16 := by simp [fMove, fCharge, up]
  have e25 : (fMove σ i) (25 + i) = σ (25 + i) := by
    funext z
    simp [fMove, fCharge, up]
  have eS : fSum (fMove σ i) i 3 = fSum σ i 3 := fSum_c (e8) e25
  unfold jFa
  rw [e0, e1, e2, e3, e5, e8, e9, e10, e11, e12, e13, e14, e15, e16, eS, e25]
  refine ⟨⟨?_, ?_, ?_, ?_, ?_, ?_, ?_, ?_, ?_, ?_, ?_, ?_, ?_, gp⟩, ?_, ?_, ?_, ?_, fun hp => ?_, ?_, ?_⟩
  all_goals first | assumption | omega | (by_cases hp0 : 0 < σ (9 + i) 1 <;> first | (have := P5 hp0; omega) | omega)
theorem s_sell {rf : Int} {σ : Sg} {i : Nat} {w pr : Int} (hi : i < 8) (epr : gPr (mOf rf σ) (i : Int) = pr) (hpr : 0 ≤ pr ∧ pr ≤ 5000) (hw : 1 ≤ w) (hw2 : w ≤ σ (9 + i) 9) (g10 : 0 ≤ σ (9 + i) 10 ∧ σ (9 + i) 10 ≤ σ (9 + i) 9) (g2 : 0 ≤ σ (9 + i) 2) (g3 : 0 ≤ σ (9 + i) 3) : gSell (mOf rf σ) (i : Int) w = mOf 0 (fSell σ i w pr) := by
  have eS : gSome (mOf rf σ) (i : Int) w = fFree σ i w := by rw [gSome, Int.toNat_natCast, mR_8 hi, mR_9 hi, mn_comm]; rfl
  have eL : gLow (mOf rf σ) (i : Int) w = fLowered σ i w pr := by rw [gLow, eS, epr, Int.toNat_natCast, mR_10 hi, mn_comm]; rfl
  have q1 := mn_le1 w (σ (9 + i) 9 - σ (9 + i) 10)
  have q3 := mn_ge w (σ (9 + i) 9 - σ (9 + i) 10) 0 (by omega) (by omega)
  rw [← fFree] at q1 q3
  have hA := mulB (a := fFree σ i w) (b := pr) (A := fFree σ i w) (B := 5000) (by omega) hpr
  have l1 := mn_le1 ((w - fFree σ i w) * pr) (σ (9 + i) 3)
  rw [← fLowered] at l1
  have e3 : gSell3 (mOf rf σ) (i : Int) w = mOf 0 (fSell0 σ i w pr) := by
    rw [gSell3, gSell2, gSell1, eS, eL, epr, Int.toNat_natCast, mR_8 hi, mR_9 hi, mR_10 hi, mOf_rf, s_come (s := 3) (k := 3) hi (by decide) rfl, mU_3 hi, s_come (s := 3) (k := 3) hi (by decide) rfl, mU_9 hi, mU_10 hi]
    rw [fReceive_up (by decide) (by decide), two_rec hA.1 (by omega) g2, fSell0, fReceive_up (by decide) (by decide), fReceive_up (by decide) (by decide), fReceive_up (by decide) (by decide)]
    rw [show fFree σ i w * pr + ((w - fFree σ i w) * pr - fLowered σ i w pr) = fFree σ i w * pr + (w - fFree σ i w) * pr - fLowered σ i w pr by omega]
    rw [up_swap (b := 3) (b2 := 9) (Or.inr (by decide)), up_swap (b := 3) (b2 := 10) (Or.inr (by decide))]
  rw [gSell, e3, eS, eL, Int.toNat_natCast, mR_9 hi, mR_10 hi, fSell]
  by_cases h : σ (9 + i) 10 - (w - fFree σ i w) = 0
  · rw [if_pos h, if_pos h, s_charge hi, mU_3 hi, fMove]
    have e : fSell0 σ i w pr (9 + i) 3 = σ (9 + i) 3 - fLowered σ i w pr := by rw [fSell0, fReceive_up (by decide) (by decide), up_s]
    rw [e]
  · rw [if_neg h, if_neg h]
theorem p_sell {σ M : Sg} (h : JJ σ M) (y0 y1 : Int) (hy0 : nB y0) (hy1 : nB y1) : ((tOf (qSell M y0 y1) M (gSell M y0 y1)) 0 0 = hRes 3 (kSell σ y0 y1) ∧ kSell σ y0 y1 ≤ 3) ∧ (kSell σ y0 y1 = 0 → iI (y1 * σ (3 + (σ (9 + y0.toNat) 11).toNat) 1) = iI (rOf (qSell M y0 y1) (y1 * gPr M y0))) ∧ JJ (hSt (kSell σ y0 y1) σ (fSell σ y0.toNat y1 (σ (3 + (σ (9 + y0.toNat) 11).toNat) 1))) (tOf (qSell M y0 y1) M (gSell M y0 y1)) := by
  refine t_mk h (cSeq_3 (cFarm_3 _ _) (cSeq_3 (cRange_3 _ _ _) if3_3)) (by decide) (e_sell h y0 y1) (fun h0 => ?_)
  obtain ⟨a1, h1⟩ := cSeq_z h0
  obtain ⟨a2, a3⟩ := cSeq_z h1
  have b2 := cRange_0 a2
  have b3 := if3_z a3
  obtain ⟨hI, rf, rfl⟩ := h
  obtain ⟨i8, ic, ie⟩ := farm_in hI a1
  obtain ⟨i, rfl⟩ : ∃ i : Nat, y0 = (i : Int) := ⟨y0.toNat, ie.symm⟩
  simp only [Int.toNat_natCast] at *
  have hpr := pr_of hI i8
  have g11 := g11_of hI i8
  have epr : gPr (mOf rf σ) (i : Int) = σ (3 + (σ (9 + i) 11).toNat) 1 := by rw [gPr, Int.toNat_natCast, mR_7 i8, mR_2 (by omega)]
  generalize hpe : σ (3 + (σ (9 + i) 11).toNat) 1 = pr at hpr epr ⊢
  have hB := (inv_bd hI).2.2 i i8
  obtain ⟨g0, g1, g2, g3, g5, g8, g9, -⟩ := hB
  rw [s_sell i8 epr hpr (by omega) b3 ⟨g9.1, g9.2.1⟩ g2.1 g3.1, epr]
  have j0 := j_sell0 (w := y1) (pr := pr) (by omega) b3 hpr (hI.2.2.1 i i8 ic) (hu_of hI)
  have r0 : ∀ r, r ≠ 9 + i → r ≠ 17 + i → fSell0 σ i y1 pr r = σ r := fun r h h2 => by rw [fSell0, fReceive_r h h2, up_r h, up_r h, up_r h]
  refine ⟨rfl, rfl, inv_one hI i8 ic (fun r h h2 _ => ?_) ?_, 0, rfl⟩
  · unfold fSell
    split
    · rw [fMove, up_r h, fCharge_r h, r0 r h h2]
    · exact r0 r h h2
  · unfold fSell
    split
    · rename_i h10
      refine j_move ?_ j0 (hu_of hI)
      rw [fSell0, fReceive_up (by decide) (by decide), fReceive_up (by decide) (by decide), up_b (by decide), up_s]
      exact h10
    · exact j0
set_option maxHeartbeats 2000000 in
theorem s_add {σ : Sg} {n : Nat} {g : Int} (hn : σ 0 2 = (n : Int)) (h8 : n < 8) (z12 : -1 = σ (9 + n) 12) (z13 : 0 = σ (9 + n) 13) (z14 : 0 = σ (9 + n) 14) (z15 : 100 = σ (9 + n) 15) (z16 : 0 = σ (9 + n) 16) : up (gClear (mOf 0 (up σ (9 + n) 0 g)) (n : Int)) 0 6 ((n : Int) + 1) = mOf 0 (up (up σ (9 + n) 0 g) 0 2 ((n : Int) + 1)) := by
  funext x y
  match x with
  | 0 =>
    by_cases hy : y = 6
    · subst hy; rfl
    · rw [gClear, up_b hy, up_a (by decide), up_a (by decide), up_a (by decide), up_a (by decide), up_a (by decide)]
      show (if y = 0 then (0 : Int) else if y = 1 then σ 0 3 else if y = 2 then σ 0 4 else if y = 6 then σ 0 2 else 0) = (if y = 0 then (0 : Int) else if y = 1 then σ 0 3 else if y = 2 then σ 0 4 else if y = 6 then (n : Int) + 1 else 0)
      rw [if_neg hy, if_neg hy]
  | 1 =>
    rw [gClear, up_a (by decide), up_a (by decide), up_a (by decide), up_a (by decide), up_a (by decide), up_a (by decide)]
    show _ = if y < 12 then up (up σ (9 + n) 0 g) 0 2 ((n : Int) + 1) (6 + y / 4) (y % 4) else 0
    rw [up_a (x := (6 + y / 4)) (a := 0) (by omega)]
    rfl
  | 2 => rw [gClear, up_a (by decide), up_a (by decide), up_a (by decide), up_a (by decide), up_a (by decide), up_a (by decide)]; rfl
  | 3 =>
    rw [gClear, up_a (by decide), up_a (by decide), up_a (by decide), up_a (by decide), up_a (by decide), up_a (by decide)]
    show _ = if y < 3 then up (up σ (9 + n) 0 g) 0 2 ((n : Int) + 1) (3 + y) 2 else 0
    rw [up_a (x := (3 + y)) (a := 0) (by omega)]
    rfl
  | 4 => rw [gClear, up_a (by decide), up_a (by decide), up_a (by decide), up_a (by decide), up_a (by decide), up_a (by decide)]; rfl
  | 5 => rw [gClear, up_a (by decide), up_a (by decide), up_a (by decide), up_a (by decide), up_a (by decide), up_a (by decide)]; rfl
  | 6 =>
    rw [gClear, up_a (by decide), up_a (by decide), up_a (by decide), up_a (by decide), up_a (by decide), up_a (by decide)]
    show _ = if y < 8 then up (up σ (9 + n) 0 g) 0 2 ((n : Int) + 1) (9 + y) 2 else 0
    rw [up_a (x := (9 + y)) (a := 0) (by omega)]
    rfl
  | 7 => rw [gClear, up_a (by decide), up_a (by decide), up_a (by decide), up_a (by decide), up_a (by decide), up_a (by decide)]; rfl
  | 8 => rw [gClear, up_a (by decide), up_a (by decide), up_a (by decide), up_a (by decide), up_a (by decide), up_a (by decide)]; rfl
  | 9 => rw [gClear, up_a (by decide), up_a (by decide), up_a (by decide), up_a (by decide), up_a (by decide), up_a (by decide)]; rfl
  | 10 => rw [gClear, up_a (by decide), up_a (by decide), up_a (by decide), up_a (by decide), up_a (by decide), up_a (by decide)]; rfl
  | 11 => rw [gClear, up_a (by decide), up_a (by decide), up_a (by decide), up_a (by decide), up_a (by decide), up_a (by decide)]; rfl
  | 12 =>
    rw [gClear, up_a (by decide), up_a (by decide), up_a (by decide), up_a (by decide), up_a (by decide), up_a (by decide)]
    show _ = if y < 24 then up (up σ (9 + n) 0 g) 0 2 ((n : Int) + 1) (25 + y / 3) (pIx (up (up σ (9 + n) 0 g) 0 2 ((n : Int) + 1) (9 + y / 3) 8) (y % 3)) else 0
    rw [up_a (x := (25 + y / 3)) (a := 0) (by omega)]
    rfl
  | 13 =>
    rw [gClear, up_a (by decide), up_a (by decide), up_a (by decide), up_a (by decide), up_a (by decide), Int.toNat_natCast]
    by_cases hy : y = n
    · subst hy
      rw [up_s]
      show _ = if y < 8 ∧ (y : Int) < (y : Int) + 1 then σ (9 + y) 12 else 0
      rw [if_pos ⟨h8, by omega⟩]
      exact z12
    · rw [up_b hy]
      show (if y < 8 ∧ (y : Int) < σ 0 2 then σ (9 + y) 12 else 0) = if y < 8 ∧ (y : Int) < (n : Int) + 1 then σ (9 + y) 12 else 0
      (repeat' split) <;> first | rfl | omega
  | 14 =>
    rw [gClear, up_a (by decide), up_a (by decide), up_a (by decide), up_a (by decide), Int.toNat_natCast]
    by_cases hy : y = n
    · subst hy
      rw [up_s]
      show _ = if y < 8 then σ (9 + y) 13 else 0
      rw [if_pos h8]
      exact z13
    · rw [up_b hy, up_a (by decide)]
      rfl
  | 15 =>
    rw [gClear, up_a (by decide), up_a (by decide), up_a (by decide), Int.toNat_natCast]
    by_cases hy : y = n
    · subst hy
      rw [up_s]
      show _ = if y < 8 then σ (9 + y) 16 else 0
      rw [if_pos h8]
      exact z16
    · rw [up_b hy, up_a (by decide), up_a (by decide)]
      rfl
  | 16 =>
    rw [gClear, up_a (by decide), up_a (by decide), Int.toNat_natCast]
    by_cases hy : y = n
    · subst hy
      rw [up_s]
      show _ = if y < 8 then σ (9 + y) 14 else 0
      rw [if_pos h8]
      exact z14
    · rw [up_b hy, up_a (by decide), up_a (by decide), up_a (by decide)]
      rfl
  | 17 =>
    rw [gClear, up_a (by decide), Int.toNat_natCast]
    by_cases hy : y = n
    · subst hy
      rw [up_s]
      show _ = if y < 8 ∧ (y : Int) < (y : Int) + 1 then σ (9 + y) 15 else 0
      rw [if_pos ⟨h8, by omega⟩]
      exact z15
    · rw [up_b hy, up_a (by decide), up_a (by decide), up_a (by decide), up_a (by decide)]
      show (if y < 8 ∧ (y : Int) < σ 0 2 then σ (9 + y) 15 else 0) = if y < 8 ∧ (y : Int) < (n : Int) + 1 then σ (9 + y) 15 else 0
      (repeat' split) <;> first | rfl | omega
  | 18 => rw [gClear, up_a (by decide), up_a (by decide), up_a (by decide), up_a (by decide), up_a (by decide), up_a (by decide)]; rfl
  | 19 =>
    rw [gClear, up_a (by decide), up_a (by decide), up_a (by decide), up_a (by decide), up_a (by decide), up_a (by decide)]
    show _ = if y < 40 then up (up σ (9 + n) 0 g) 0 2 ((n : Int) + 1) (17 + y / 5) (y % 5) else 0
    rw [up_a (x := (17 + y / 5)) (a := 0) (by omega)]
    rfl
  | 20 => rw [gClear, up_a (by decide), up_a (by decide), up_a (by decide), up_a (by decide), up_a (by decide), up_a (by decide)]; rfl
  | x + 21 => rw [gClear, up_a (by omega), up_a (by omega), up_a (by omega), up_a (by omega), up_a (by omega), up_a (by omega)]; rfl
theorem e_add {σ M : Sg} (h : JJ σ M) (g : Int) : qAdd M g = hRes 2 (kAdd σ g) := by
  have hG := h.1.1
  unfold cGl at hG
  unfold qAdd kAdd cSeq hRes
  rw [q_count h]
  (repeat' split) <;> first | rfl | omega
theorem p_add {σ M : Sg} (h : JJ σ M) (y0 : Int) (hy0 : nB y0) : ((tOf (qAdd M y0) M (up (gClear (up (up M 0 0 0) 4 (M 0 6).toNat y0) (M 0 6)) 0 6 ((M 0 6) + 1))) 0 0 = hRes 2 (kAdd σ y0) ∧ kAdd σ y0 ≤ 3) ∧ (kAdd σ y0 = 0 → iI (σ 0 2) = iI (rOf (qAdd M y0) (M 0 6))) ∧ JJ (hSt (kAdd σ y0) σ (up (up σ (9 + (σ 0 2).toNat) 0 y0) 0 2 ((σ 0 2) + 1))) (tOf (qAdd M y0) M (up (gClear (up (up M 0 0 0) 4 (M 0 6).toNat y0) (M 0 6)) 0 6 ((M 0 6) + 1))) := by
  refine t_mk h (cSeq_3 if1_3 if3_3) (by decide) (e_add h y0) (fun h0 => ?_)
  obtain ⟨a1, a2⟩ := cSeq_z h0
  have b1 := if1_z a1
  have b2 := if3_z a2
  obtain ⟨hI, rf, rfl⟩ := h
  obtain ⟨hG, hC, hF, hZ⟩ := hI
  have hG2 := hG
  unfold cGl at hG2
  obtain ⟨n, hn⟩ : ∃ n : Nat, σ 0 2 = (n : Int) := ⟨(σ 0 2).toNat, by omega⟩
  have h8 : n < 8 := by omega
  obtain ⟨z, z12, z15, zp, zt⟩ := hZ n h8 (by omega)
  have eT : up (gClear (up (up (mOf rf σ) 0 0 0) 4 (mOf rf σ 0 6).toNat y0) (mOf rf σ 0 6)) 0 6 (mOf rf σ 0 6 + 1) = mOf 0 (up (up σ (9 + n) 0 y0) 0 2 ((n : Int) + 1)) := by
    rw [mR_06, hn, Int.toNat_natCast, mOf_rf, mU_0 h8]
    exact s_add hn h8 z12.symm (z 13 (by decide) (by decide) (by decide)).symm (z 14 (by decide) (by decide) (by decide)).symm z15.symm (z 16 (by decide) (by decide) (by decide)).symm
  rw [eT, hn, Int.toNat_natCast]
  have e0 : ∀ b, b ≠ 2 → up (up σ (9 + n) 0 y0) 0 2 ((n : Int) + 1) 0 b = σ 0 b := fun b hb => by rw [up_b hb, up_a (by omega)]
  have e02 : up (up σ (9 + n) 0 y0) 0 2 ((n : Int) + 1) 0 2 = (n : Int) + 1 := up_s _ _ _ _
  have er : ∀ r, r ≠ 0 → r ≠ 9 + n → up (up σ (9 + n) 0 y0) 0 2 ((n : Int) + 1) r = σ r := fun r h1 h2 => by rw [up_r h1, up_r h2]
  have e9 : ∀ b, b ≠ 0 → up (up σ (9 + n) 0 y0) 0 2 ((n : Int) + 1) (9 + n) b = σ (9 + n) b := fun b hb => by rw [up_a (by omega), up_b hb]
  have e90 : up (up σ (9 + n) 0 y0) 0 2 ((n : Int) + 1) (9 + n) 0 = y0 := by rw [up_a (by omega), up_s]
  generalize up (up σ (9 + n) 0 y0) 0 2 ((n : Int) + 1) = τ at e0 e02 er e9 e90 ⊢
  obtain ⟨hs, hk⟩ := sk_b hG
  obtain ⟨n1, n2, n3, n4, n5, n6⟩ := nums _ hs _ hk
  refine ⟨hn.symm, rfl, ⟨?_, fun c hc => ?_, fun i hi hic => ?_, fun i hi hic => ?_⟩, 0, rfl⟩
  · unfold cGl
    rw [e02, e0 3 (by decide), e0 4 (by decide)]
    omega
  · have := hC c hc
    unfold cCrB at this ⊢
    rw [er (3 + c) (by omega) (by omega), er (6 + c) (by omega) (by omega)]
    exact this
  · unfold sN kN at hF n1 n2 n3 n4 n5 n6 ⊢
    rw [e0 3 (by decide), e0 4 (by decide)]
    rw [e02] at hic
    by_cases e : i = n
    · subst e
      have e25 := er (25 + i) (by omega) (by omega)
      have es : fSum τ i 3 = 0 := by
        rw [fSum3, e25, zt, zt, zt]
        (repeat' split) <;> rfl
      unfold jFa
      rw [es, e25, e90, e9 1 (by decide), e9 2 (by decide), e9 3 (by decide), e9 5 (by decide), e9 8 (by decide), e9 9 (by decide), e9 10 (by decide), e9 11 (by decide), e9 12 (by decide), e9 13 (by decide), e9 14 (by decide), e9 15 (by decide), e9 16 (by decide), z12, z15, z 1 (by decide) (by decide) (by decide), z 2 (by decide) (by decide) (by decide), z 3 (by decide) (by decide) (by decide), z 5 (by decide) (by decide) (by decide), z 8 (by decide) (by decide) (by decide), z 9 (by decide) (by decide) (by decide), z 10 (by decide) (by decide) (by decide), z 11 (by decide) (by decide) (by decide), z 13 (by decide) (by decide) (by decide), z 14 (by decide) (by decide) (by decide), z 16 (by decide) (by decide) (by decide)]
      refine ⟨⟨?_, ?_, ?_, ?_, ?_, ?_, ?_, ?_, ?_, ?_, ?_, ?_, ?_, fun q _ => by rw [zt]; exact Int.le_refl 0⟩, ?_, ?_, ?_, ?_, fun hp => ?_, ?_, ?_⟩
      all_goals omega
    · exact jFa_c (hF i hi (by omega)) (er _ (by omega) (by omega)) (er _ (by omega) (by omega))
  · rw [e02] at hic
    exact jZ_c (hZ i hi (by omega)) (er _ (by omega) (by omega)) (er _ (by omega) (by omega)) (er _ (by omega) (by omega))
