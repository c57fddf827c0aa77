/-! the tie: calls over one farmer -/
theorem j_plant {h u b : Int} {σ : Sg} {i : Nat} {c k : Int} (hc : -1 ≤ c ∧ c < 3) (hk : 0 ≤ k ∧ k ≤ 50) (hf : jFa h u b σ i) (hu : 30000000 * h + 20000000 ≤ u) : jFa h u b (fPlant σ i c k) i := by
  obtain ⟨⟨g0, g1, g2, g3, g5, g8, g10, g11, g12, g13, g14, g15, g16, gp⟩, P1, P2, P3, P4, P5, P6, P7⟩ := hf
  have e0 : (fPlant σ i c k) (9 + i) 0 = σ (9 + i) 0 := by simp [fPlant, up]
  have e1 : (fPlant σ i c k) (9 + i) 1 = σ (9 + i) 1 := by simp [fPlant, up]
  have e2 : (fPlant σ i c k) (9 + i) 2 = σ (9 + i) 2 := by simp [fPlant, up]
  have e3 : (fPlant σ i c k) (9 + i) 3 = σ (9 + i) 3 := by simp [fPlant, up]
  have e5 : (fPlant σ i c k) (9 + i) 5 = σ (9 + i) 5 := by simp [fPlant, up]
  have e8 : (fPlant σ i c k) (9 + i) 8 = σ (9 + i) 8 := by simp [fPlant, up]
  have e9 : (fPlant σ i c k) (9 + i) 9 = σ (9 + i) 9 := by simp [fPlant, up]
  have e10 : (fPlant σ i c k) (9 + i) 10 = σ (9 + i) 10 := by simp [fPlant, up]
  have e11 : (fPlant σ i c k) (9 + i) 11 = σ (9 + i) 11 := by simp [fPlant, up]
  have e12 : (fPlant σ i c k) (9 + i) 12 = c := by simp [fPlant, up]
  have e13 : (fPlant σ i c k) (9 + i) 13 = k := by simp [fPlant, up]
  have e14 : (fPlant σ i c k) (9 + i) 14 = σ (9 + i) 14 := by simp [fPlant, up]
  have e15 : (fPlant σ i c k) (9 + i) 15 = σ (9 + i) 15 := by simp [fPlant, up]
  have e16 : (fPlant σ i c k) (9 + i) 16 = σ (9 + i) 16 := by simp [fPlant, up]
  have e25 : (fPlant σ i c k) (25 + i) = σ (25 + i) := by
    funext z
    simp [fPlant, up]
  have eS : fSum (fPlant σ i c k) i 3 = fSum σ i 3 := fSum_c (e8) e25
  unfold jFa
  rw [e0, e1, e2, e3, e5, e8, e9, e10, e11, e12, e13, e14, e15, e16, eS, e25]
  refine ⟨⟨?_, ?_, ?_, ?_, ?_, ?_, ?_, ?_, ?_, ?_, ?_, ?_, ?_, gp⟩, ?_, ?_, ?_, ?_, fun hp => ?_, ?_, ?_⟩
  all_goals first | assumption | omega | (by_cases hp0 : 0 < σ (9 + i) 1 <;> first | (have := P5 hp0; omega) | omega)
theorem j_cover {h u b : Int} {σ : Sg} {i : Nat} {v : Int} (hv : 0 ≤ v ∧ v ≤ 90) (hf : jFa h u b σ i) (hu : 30000000 * h + 20000000 ≤ u) : jFa h u b (up σ (9 + i) 14 v) i := by
  obtain ⟨⟨g0, g1, g2, g3, g5, g8, g10, g11, g12, g13, g14, g15, g16, gp⟩, P1, P2, P3, P4, P5, P6, P7⟩ := hf
  have e0 : (up σ (9 + i) 14 v) (9 + i) 0 = σ (9 + i) 0 := by simp [up]
  have e1 : (up σ (9 + i) 14 v) (9 + i) 1 = σ (9 + i) 1 := by simp [up]
  have e2 : (up σ (9 + i) 14 v) (9 + i) 2 = σ (9 + i) 2 := by simp [up]
  have e3 : (up σ (9 + i) 14 v) (9 + i) 3 = σ (9 + i) 3 := by simp [up]
  have e5 : (up σ (9 + i) 14 v) (9 + i) 5 = σ (9 + i) 5 := by simp [up]
  have e8 : (up σ (9 + i) 14 v) (9 + i) 8 = σ (9 + i) 8 := by simp [up]
  have e9 : (up σ (9 + i) 14 v) (9 + i) 9 = σ (9 + i) 9 := by simp [up]
  have e10 : (up σ (9 + i) 14 v) (9 + i) 10 = σ (9 + i) 10 := by simp [up]
  have e11 : (up σ (9 + i) 14 v) (9 + i) 11 = σ (9 + i) 11 := by simp [up]
  have e12 : (up σ (9 + i) 14 v) (9 + i) 12 = σ (9 + i) 12 := by simp [up]
  have e13 : (up σ (9 + i) 14 v) (9 + i) 13 = σ (9 + i) 13 := by simp [up]
  have e14 : (up σ (9 + i) 14 v) (9 + i) 14 = v := by simp [up]
  have e15 : (up σ (9 + i) 14 v) (9 + i) 15 = σ (9 + i) 15 := by simp [up]
  have e16 : (up σ (9 + i) 14 v) (9 + i) 16 = σ (9 + i) 16 := by simp [up]
  have e25 : (up σ (9 + i) 14 v) (25 + i) = σ (25 + i) := by
    funext z
    simp [up]
  have eS : fSum (up σ (9 + i) 14 v) i 3 = fSum σ i 3 := fSum_c (e8) e25
  unfold jFa
  rw [e0, e1, e2, e3, e5, e8, e9, e10, e11, e12, e13, e14, e15, e16, eS, e25]
  refine ⟨⟨?_, ?_, ?_, ?_, ?_, ?_, ?_, ?_, ?_, ?_, ?_, ?_, ?_, gp⟩, ?_, ?_, ?_, ?_, fun hp => ?_, ?_, ?_⟩
  all_goals first | assumption | omega | (by_cases hp0 : 0 < σ (9 + i) 1 <;> first | (have := P5 hp0; omega) | omega)
theorem j_yield {h u b : Int} {σ : Sg} {i : Nat} {v : Int} (hv : 0 ≤ v ∧ v ≤ 200) (hf : jFa h u b σ i) (hu : 30000000 * h + 20000000 ≤ u) : jFa h u b (up σ (9 + i) 15 v) i := by
  obtain ⟨⟨g0, g1, g2, g3, g5, g8, g10, g11, g12, g13, g14, g15, g16, gp⟩, P1, P2, P3, P4, P5, P6, P7⟩ := hf
  have e0 : (up σ (9 + i) 15 v) (9 + i) 0 = σ (9 + i) 0 := by simp [up]
  have e1 : (up σ (9 + i) 15 v) (9 + i) 1 = σ (9 + i) 1 := by simp [up]
  have e2 : (up σ (9 + i) 15 v) (9 + i) 2 = σ (9 + i) 2 := by simp [up]
  have e3 : (up σ (9 + i) 15 v) (9 + i) 3 = σ (9 + i) 3 := by simp [up]
  have e5 : (up σ (9 + i) 15 v) (9 + i) 5 = σ (9 + i) 5 := by simp [up]
  have e8 : (up σ (9 + i) 15 v) (9 + i) 8 = σ (9 + i) 8 := by simp [up]
  have e9 : (up σ (9 + i) 15 v) (9 + i) 9 = σ (9 + i) 9 := by simp [up]
  have e10 : (up σ (9 + i) 15 v) (9 + i) 10 = σ (9 + i) 10 := by simp [up]
  have e11 : (up σ (9 + i) 15 v) (9 + i) 11 = σ (9 + i) 11 := by simp [up]
  have e12 : (up σ (9 + i) 15 v) (9 + i) 12 = σ (9 + i) 12 := by simp [up]
  have e13 : (up σ (9 + i) 15 v) (9 + i) 13 = σ (9 + i) 13 := by simp [up]
  have e14 : (up σ (9 + i) 15 v) (9 + i) 14 = σ (9 + i) 14 := by simp [up]
  have e15 : (up σ (9 + i) 15 v) (9 + i) 15 = v := by simp [up]
  have e16 : (up σ (9 + i) 15 v) (9 + i) 16 = σ (9 + i) 16 := by simp [up]
  have e25 : (up σ (9 + i) 15 v) (25 + i) = σ (25 + i) := by
    funext z
    simp [up]
  have eS : fSum (up σ (9 + i) 15 v) i 3 = fSum σ i 3 := fSum_c (e8) e25
  unfold jFa
  rw [e0, e1, e2, e3, e5, e8, e9, e10, e11, e12, e13, e14, e15, e16, eS, e25]
  refine ⟨⟨?_, ?_, ?_, ?_, ?_, ?_, ?_, ?_, ?_, ?_, ?_, ?_, ?_, gp⟩, ?_, ?_, ?_, ?_, fun hp => ?_, ?_, ?_⟩
  all_goals first | assumption | omega | (by_cases hp0 : 0 < σ (9 + i) 1 <;> first | (have := P5 hp0; omega) | omega)
theorem j_draw {h u b : Int} {σ : Sg} {i : Nat} {x : Int} (hx0 : 0 ≤ x) (hx1 : σ (9 + i) 16 + x ≤ 20000000) (hf : jFa h u b σ i) (hu : 30000000 * h + 20000000 ≤ u) : jFa h u b (fDraw σ i x) i := by
  obtain ⟨⟨g0, g1, g2, g3, g5, g8, g10, g11, g12, g13, g14, g15, g16, gp⟩, P1, P2, P3, P4, P5, P6, P7⟩ := hf
  have e0 : (fDraw σ i x) (9 + i) 0 = σ (9 + i) 0 := by simp [fDraw, fCharge, up]
  have e1 : (fDraw σ i x) (9 + i) 1 = σ (9 + i) 1 := by simp [fDraw, fCharge, up]
  have e2 : (fDraw σ i x) (9 + i) 2 = σ (9 + i) 2 + x := by simp [fDraw, fCharge, up]
  have e3 : (fDraw σ i x) (9 + i) 3 = σ (9 + i) 3 := by simp [fDraw, fCharge, up]
  have e5 : (fDraw σ i x) (9 + i) 5 = σ (9 + i) 5 := by simp [fDraw, fCharge, up]
  have e8 : (fDraw σ i x) (9 + i) 8 = σ (9 + i) 8 := by simp [fDraw, fCharge, up]
  have e9 : (fDraw σ i x) (9 + i) 9 = σ (9 + i) 9 := by simp [fDraw, fCharge, up]
  have e10 : (fDraw σ i x) (9 + i) 10 = σ (9 + i) 10 := by simp [fDraw, fCharge, up]
  have e11 : (fDraw σ i x) (9 + i) 11 = σ (9 + i) 11 := by simp [fDraw, fCharge, up]
  have e12 : (fDraw σ i x) (9 + i) 12 = σ (9 + i) 12 := by simp [fDraw, fCharge, up]
  have e13 : (fDraw σ i x) (9 + i) 13 = σ (9 + i) 13 := by simp [fDraw, fCharge, up]
  have e14 : (fDraw σ i x) (9 + i) 14 = σ (9 + i) 14 := by simp [fDraw, fCharge, up]
  have e15 : (fDraw σ i x) (9 + i) 15 = σ (9 + i) 15 := by simp [fDraw, fCharge, up]
  have e16 : (fDraw σ i x) (9 + i) 16 = σ (9 + i) 16 + x := by simp [fDraw, fCharge, up]
  have e25 : (fDraw σ i x) (25 + i) = σ (25 + i) := by
    funext z
    simp [fDraw, fCharge, up]
  have eS : fSum (fDraw σ i x) i 3 = fSum σ i 3 := fSum_c (e8) e25
  unfold jFa
  rw [e0, e1, e2, e3, e5, e8, e9, e10, e11, e12, e13, e14, e15, e16, eS, e25]
  refine ⟨⟨?_, ?_, ?_, ?_, ?_, ?_, ?_, ?_, ?_, ?_, ?_, ?_, ?_, gp⟩, ?_, ?_, ?_, ?_, fun hp => ?_, ?_, ?_⟩
  all_goals first | assumption | omega | (by_cases hp0 : 0 < σ (9 + i) 1 <;> first | (have := P5 hp0; omega) | omega)
theorem j_repay {h u b : Int} {σ : Sg} {i : Nat} {x : Int} (hx0 : 0 ≤ x) (hx1 : x ≤ σ (9 + i) 1) (hx2 : x ≤ σ (9 + i) 2) (hf : jFa h u b σ i) (hu : 30000000 * h + 20000000 ≤ u) : jFa h u b (fRepay σ i x) i := by
  obtain ⟨⟨g0, g1, g2, g3, g5, g8, g10, g11, g12, g13, g14, g15, g16, gp⟩, P1, P2, P3, P4, P5, P6, P7⟩ := hf
  have e0 : (fRepay σ i x) (9 + i) 0 = σ (9 + i) 0 := by simp [fRepay, fLower, up]
  have e1 : (fRepay σ i x) (9 + i) 1 = σ (9 + i) 1 - x := by simp [fRepay, fLower, up]
  have e2 : (fRepay σ i x) (9 + i) 2 = σ (9 + i) 2 - x := by simp [fRepay, fLower, up]
  have e3 : (fRepay σ i x) (9 + i) 3 = σ (9 + i) 3 := by simp [fRepay, fLower, up]
  have e5 : (fRepay σ i x) (9 + i) 5 = σ (9 + i) 5 := by simp [fRepay, fLower, up]
  have e8 : (fRepay σ i x) (9 + i) 8 = σ (9 + i) 8 := by simp [fRepay, fLower, up]
  have e9 : (fRepay σ i x) (9 + i) 9 = σ (9 + i) 9 := by simp [fRepay, fLower, up]
  have e10 : (fRepay σ i x) (9 + i) 10 = σ (9 + i) 10 := by simp [fRepay, fLower, up]
  have e11 : (fRepay σ i x) (9 + i) 11 = σ (9 + i) 11 := by simp [fRepay, fLower, up]
  have e12 : (fRepay σ i x) (9 + i) 12 = σ (9 + i) 12 := by simp [fRepay, fLower, up]
  have e13 : (fRepay σ i x) (9 + i) 13 = σ (9 + i) 13 := by simp [fRepay, fLower, up]
  have e14 : (fRepay σ i x) (9 + i) 14 = σ (9 + i) 14 := by simp [fRepay, fLower, up]
  have e15 : (fRepay σ i x) (9 + i) 15 = σ (9 + i) 15 := by simp [fRepay, fLower, up]
  have e16 : (fRepay σ i x) (9 + i) 16 = σ (9 + i) 16 := by simp [fRepay, fLower, up]
  have e25 : (fRepay σ i x) (25 + i) = σ (25 + i) := by
    funext z
    simp [fRepay, fLower, up]
  have eS : fSum (fRepay σ i x) i 3 = fSum σ i 3 := fSum_c (e8) e25
  unfold jFa
  rw [e0, e1, e2, e3, e5, e8, e9, e10, e11, e12, e13, e14, e15, e16, eS, e25]
  refine ⟨⟨?_, ?_, ?_, ?_, ?_, ?_, ?_, ?_, ?_, ?_, ?_, ?_, ?_, gp⟩, ?_, ?_, ?_, ?_, fun hp => ?_, ?_, ?_⟩
  all_goals first | assumption | omega | (by_cases hp0 : 0 < σ (9 + i) 1 <;> first | (have := P5 hp0; omega) | omega)
theorem j_pledge {h u b : Int} {σ : Sg} {i : Nat} {w pr L : Int} (hw : 1 ≤ w) (hw2 : w ≤ σ (9 + i) 9 - σ (9 + i) 10) (hL : L = w * pr * 60 / 100) (hL0 : 0 ≤ L) (hL1 : L ≤ 3000 * w) (hf : jFa h u b σ i) (hu : 30000000 * h + 20000000 ≤ u) : jFa h u b (fPledge σ i w pr) i := by
  obtain ⟨⟨g0, g1, g2, g3, g5, g8, g10, g11, g12, g13, g14, g15, g16, gp⟩, P1, P2, P3, P4, P5, P6, P7⟩ := hf
  obtain ⟨m, hm⟩ : ∃ m, m = mn L (σ (9 + i) 2) := ⟨_, rfl⟩
  have m1 := mn_le1 L (σ (9 + i) 2)
  have m2 := mn_le2 L (σ (9 + i) 2)
  have m3 := mn_ge L (σ (9 + i) 2) 0 (by omega) g2
  have m4 : m = L ∨ m = σ (9 + i) 2 := by rw [hm]; unfold mn; split <;> simp
  rw [← hm] at m1 m2 m3
  have e0 : (fPledge σ i w pr) (9 + i) 0 = σ (9 + i) 0 := by simp [fPledge, fReceive, fLower, up, hm, hL]
  have e1 : (fPledge σ i w pr) (9 + i) 1 = σ (9 + i) 1 + (L - m) := by simp [fPledge, fReceive, fLower, up, hm, hL]
  have e2 : (fPledge σ i w pr) (9 + i) 2 = σ (9 + i) 2 - m := by simp [fPledge, fReceive, fLower, up, hm, hL]
  have e3 : (fPledge σ i w pr) (9 + i) 3 = σ (9 + i) 3 + L := by simp [fPledge, fReceive, fLower, up, hm, hL]
  have e5 : (fPledge σ i w pr) (9 + i) 5 = σ (9 + i) 5 := by simp [fPledge, fReceive, fLower, up, hm, hL]
  have e8 : (fPledge σ i w pr) (9 + i) 8 = σ (9 + i) 8 := by simp [fPledge, fReceive, fLower, up, hm, hL]
  have e9 : (fPledge σ i w pr) (9 + i) 9 = σ (9 + i) 9 := by simp [fPledge, fReceive, fLower, up, hm, hL]
  have e10 : (fPledge σ i w pr) (9 + i) 10 = σ (9 + i) 10 + w := by simp [fPledge, fReceive, fLower, up, hm, hL]
  have e11 : (fPledge σ i w pr) (9 + i) 11 = σ (9 + i) 11 := by simp [fPledge, fReceive, fLower, up, hm, hL]
  have e12 : (fPledge σ i w pr) (9 + i) 12 = σ (9 + i) 12 := by simp [fPledge, fReceive, fLower, up, hm, hL]
  have e13 : (fPledge σ i w pr) (9 + i) 13 = σ (9 + i) 13 := by simp [fPledge, fReceive, fLower, up, hm, hL]
  have e14 : (fPledge σ i w pr) (9 + i) 14 = σ (9 + i) 14 := by simp [fPledge, fReceive, fLower, up, hm, hL]
  have e15 : (fPledge σ i w pr) (9 + i) 15 = σ (9 + i) 15 := by simp [fPledge, fReceive, fLower, up, hm, hL]
  have e16 : (fPledge σ i w pr) (9 + i) 16 = σ (9 + i) 16 := by simp [fPledge, fReceive, fLower, up, hm, hL]
  have e25 : (fPledge σ i w pr) (25 + i) = σ (25 + i) := by
    funext z
    simp [fPledge, fReceive, fLower, up, hm, hL]
  have eS : fSum (fPledge σ i w pr) i 3 = fSum σ i 3 := fSum_c (e8) e25
  unfold jFa
  rw [e0, e1, e2, e3, e5, e8, e9, e10, e11, e12, e13, e14, e15, e16, eS, e25]
  refine ⟨⟨?_, ?_, ?_, ?_, ?_, ?_, ?_, ?_, ?_, ?_, ?_, ?_, ?_, gp⟩, ?_, ?_, ?_, ?_, fun hp => ?_, ?_, ?_⟩
  all_goals first | assumption | omega | (by_cases hp0 : 0 < σ (9 + i) 1 <;> first | (have := P5 hp0; omega) | omega)
theorem hu_of {σ : Sg} (h : jInv σ) : 30000000 * hH (sN σ) (kN σ) + 20000000 ≤ uU (sN σ) (kN σ) := (nums _ (sk_b h.1).1 _ (sk_b h.1).2).2.2.2.1
theorem fNeed_c {σ τ : Sg} (hr : ∀ r, r < 9 → τ r = σ r) {c : Nat} (hc : c < 3) : ∀ n : Nat, fNeed τ c n = fNeed σ c n := by
  intro n
  induction n with
  | zero => rfl
  | succ k ih => rw [fNeed, fNeed, ih, hr (6 + c) (by omega)]
theorem fLimit_c {σ τ : Sg} {i : Nat} (hr : ∀ r, r < 9 → τ r = σ r) (e12 : τ (9 + i) 12 = σ (9 + i) 12) (e13 : τ (9 + i) 13 = σ (9 + i) 13) (h12 : σ (9 + i) 12 < 3) : fLimit τ i = fLimit σ i := by
  unfold fLimit
  rw [e12, e13, hr 0 (by decide)]
  split
  · rfl
  · unfold fNeedUp
    rw [fNeed_c hr (by omega)]
theorem e_no {σ M : Sg} {n : Int} (hJ : JJ σ M) (hn : ¬ cFarm σ n = 0) : cFarm σ n = 1 ∧ ¬ (0 ≤ n ∧ n ≤ M 0 6 - 1) := by
  rw [q_count hJ]
  unfold cFarm at hn ⊢
  split at hn
  · rename_i h1
    exact ⟨if_pos h1, by omega⟩
  · exact absurd rfl hn
theorem g11_of {σ : Sg} (h : jInv σ) {i : Nat} (hi : i < 8) : 0 ≤ σ (9 + i) 11 ∧ σ (9 + i) 11 < 3 := ((inv_bd h).2.2 i hi).2.2.2.2.2.2.2.1
theorem g12_of {σ : Sg} (h : jInv σ) {i : Nat} (hi : i < 8) : -1 ≤ σ (9 + i) 12 ∧ σ (9 + i) 12 < 3 := ((inv_bd h).2.2 i hi).2.2.2.2.2.2.2.2.1
theorem pr_of {σ : Sg} (h : jInv σ) {i : Nat} (hi : i < 8) : 0 ≤ σ (3 + (σ (9 + i) 11).toNat) 1 ∧ σ (3 + (σ (9 + i) 11).toNat) 1 ≤ 5000 := (h.2.1 _ (by have := g11_of h hi; omega)).1
theorem e_plant {σ M : Sg} (h : JJ σ M) (y0 y1 y2 : Int) : qPlant M y0 y1 y2 = hRes 3 (kPlant σ y0 y1 y2) := by
  by_cases hf : cFarm σ y0 = 0
  · obtain ⟨hI, rf, rfl⟩ := h
    obtain ⟨i8, ic, ie⟩ := farm_in hI hf
    have hG := hI.1
    unfold cGl at hG
    unfold qPlant kPlant
    rw [hf, mR_06, mR_02, mR_13 i8 ic, mR_8 i8, mR_7 i8]
    unfold cSeq cRange cCrop hRes
    (repeat' split) <;> first | rfl | omega
  · obtain ⟨e1, e2⟩ := e_no h hf
    unfold qPlant kPlant
    rw [e1, if_neg (fun h9 => e2 h9.1)]
    rfl
theorem e_cover {σ M : Sg} (h : JJ σ M) (y0 y1 : Int) : qCover M y0 y1 = hRes 3 (kCover σ y0 y1) := by
  by_cases hf : cFarm σ y0 = 0
  · obtain ⟨hI, rf, rfl⟩ := h
    obtain ⟨i8, ic, ie⟩ := farm_in hI hf
    have hG := hI.1
    unfold cGl at hG
    unfold qCover kCover
    rw [hf, mR_06, mR_02, mR_13 i8 ic]
    unfold cSeq cRange hRes
    (repeat' split) <;> first | rfl | omega
  · obtain ⟨e1, e2⟩ := e_no h hf
    unfold qCover kCover
    rw [e1, if_neg e2]
    rfl
theorem e_setYield {σ M : Sg} (h : JJ σ M) (y0 y1 : Int) : qYield M y0 y1 = hRes 3 (kYield σ y0 y1) := by
  by_cases hf : cFarm σ y0 = 0
  · obtain ⟨hI, rf, rfl⟩ := h
    obtain ⟨i8, ic, ie⟩ := farm_in hI hf
    have hG := hI.1
    unfold cGl at hG
    unfold qYield kYield
    rw [hf, mR_06, mR_02]
    unfold cSeq cRange hRes
    (repeat' split) <;> first | rfl | omega
  · obtain ⟨e1, e2⟩ := e_no h hf
    unfold qYield kYield
    rw [e1, if_neg e2]
    rfl
theorem e_draw {σ M : Sg} (h : JJ σ M) (y0 y1 : Int) : qDraw M y0 y1 = hRes 3 (kDraw σ y0 y1) := by
  by_cases hf : cFarm σ y0 = 0
  · obtain ⟨hI, rf, rfl⟩ := h
    obtain ⟨i8, ic, ie⟩ := farm_in hI hf
    have hG := hI.1
    unfold cGl at hG
    unfold qDraw kDraw
    rw [hf, mR_06, mR_02, mR_15 i8]
    have el := limit_tie (rf := rf) i8 ic (g12_of hI i8)
    rw [ie] at el
    rw [el]
    unfold cSeq cRange hRes
    (repeat' split) <;> first | rfl | omega
  · obtain ⟨e1, e2⟩ := e_no h hf
    unfold qDraw kDraw
    rw [e1, if_neg e2]
    rfl
theorem e_pledge {σ M : Sg} (h : JJ σ M) (y0 y1 : Int) : qPledge M y0 y1 = hRes 3 (kPledge σ y0 y1) := by
  by_cases hf : cFarm σ y0 = 0
  · obtain ⟨hI, rf, rfl⟩ := h
    obtain ⟨i8, ic, ie⟩ := farm_in hI hf
    have hG := hI.1
    unfold cGl at hG
    unfold qPledge kPledge
    rw [hf, mR_06, mR_8 i8, mR_9 i8]
    unfold cSeq cRange hRes
    (repeat' split) <;> first | rfl | omega
  · obtain ⟨e1, e2⟩ := e_no h hf
    unfold qPledge kPledge
    rw [e1, if_neg e2]
    rfl
theorem e_sell {σ M : Sg} (h : JJ σ M) (y0 y1 : Int) : qSell M y0 y1 = hRes 3 (kSell σ y0 y1) := by
  by_cases hf : cFarm σ y0 = 0
  · obtain ⟨hI, rf, rfl⟩ := h
    obtain ⟨i8, ic, ie⟩ := farm_in hI hf
    have hG := hI.1
    unfold cGl at hG
    unfold qSell kSell
    rw [hf, mR_06, mR_8 i8]
    unfold cSeq cRange hRes
    (repeat' split) <;> first | rfl | omega
  · obtain ⟨e1, e2⟩ := e_no h hf
    unfold qSell kSell
    rw [e1, if_neg e2]
    rfl
theorem e_repay {σ M : Sg} (h : JJ σ M) (y0 y1 : Int) : qRepay M y0 y1 = hRes 3 (kRepay σ y0 y1) := by
  by_cases hf : cFarm σ y0 = 0
  · obtain ⟨hI, rf, rfl⟩ := h
    obtain ⟨i8, ic, ie⟩ := farm_in hI hf
    have hG := hI.1
    unfold cGl at hG
    unfold qRepay kRepay
    rw [hf, mR_06, mR_6 i8, mR_5 i8]
    unfold cSeq cRange hRes
    (repeat' split) <;> first | rfl | omega
  · obtain ⟨e1, e2⟩ := e_no h hf
    unfold qRepay kRepay
    rw [e1, if_neg e2]
    rfl
theorem p_plant {σ M : Sg} (h : JJ σ M) (y0 y1 y2 : Int) (hy0 : nB y0) (hy1 : nB y1) (hy2 : nB y2) : ((tOf (qPlant M y0 y1 y2) M (up (up (up M 0 0 0) 13 y0.toNat y1) 14 y0.toNat y2)) 0 0 = hRes 3 (kPlant σ y0 y1 y2) ∧ kPlant σ y0 y1 y2 ≤ 3) ∧ (kPlant σ y0 y1 y2 = 0 → iI (fNeedUp σ y1.toNat (σ 0 4) * y2) = iI (rOf (qPlant M y0 y1 y2) (gLimit (up (up (up M 0 0 0) 13 y0.toNat y1) 14 y0.toNat y2) y0))) ∧ JJ (hSt (kPlant σ y0 y1 y2) σ (fPlant σ y0.toNat y1 y2)) (tOf (qPlant M y0 y1 y2) M (up (up (up M 0 0 0) 13 y0.toNat y1) 14 y0.toNat y2)) := by
  refine t_mk h (cSeq_3 (cFarm_3 _ _) (cSeq_3 (cCrop_3 _) (cSeq_3 (cRange_3 _ _ _) (cSeq_3 if3_3 if3_3)))) (by decide) (e_plant h y0 y1 y2) (fun h0 => ?_)
  obtain ⟨a1, h1⟩ := cSeq_z h0
  obtain ⟨a2, h2⟩ := cSeq_z h1
  obtain ⟨a3, h3⟩ := cSeq_z h2
  have b2 := cCrop_0 a2
  have b3 := cRange_0 a3
  obtain ⟨hI, rf, rfl⟩ := h
  obtain ⟨i8, ic, ie⟩ := farm_in hI a1
  obtain ⟨i, rfl⟩ : ∃ i : Nat, y0 = (i : Int) := ⟨y0.toNat, ie.symm⟩
  simp only [Int.toNat_natCast] at *
  have eT : up (up (up (mOf rf σ) 0 0 0) 13 i y1) 14 i y2 = mOf 0 (fPlant σ i y1 y2) := by rw [mOf_rf, mU_12 i8 ic, mU_13 i8]; rfl
  have e12 : fPlant σ i y1 y2 (9 + i) 12 = y1 := by simp [fPlant, up]
  have e13 : fPlant σ i y1 y2 (9 + i) 13 = y2 := by simp [fPlant, up]
  have hr : ∀ r, r ≠ 9 + i → fPlant σ i y1 y2 r = σ r := fun r h => by rw [fPlant, up_r h, up_r h]
  rw [eT, limit_tie i8 (by rw [hr 0 (by omega)]; exact ic) (by rw [e12]; omega)]
  refine ⟨?_, rfl, inv_one hI i8 ic (fun r h _ _ => hr r h) (j_plant (by omega) (by omega) (hI.2.2.1 i i8 ic) (hu_of hI)), 0, rfl⟩
  rw [fLimit, e12, e13, if_neg (by omega), hr 0 (by omega)]
  unfold fNeedUp
  rw [fNeed_c (σ := σ) (fun r hr9 => hr r (by omega)) (by omega)]
theorem p_cover {σ M : Sg} (h : JJ σ M) (y0 y1 : Int) (hy0 : nB y0) (hy1 : nB y1) : ((tOf (qCover M y0 y1) M (up (up M 0 0 0) 16 y0.toNat y1)) 0 0 = hRes 3 (kCover σ y0 y1) ∧ kCover σ y0 y1 ≤ 3) ∧ (kCover σ y0 y1 = 0 → iI (σ (9 + y0.toNat) 14) = iI (rOf (qCover M y0 y1) (M 16 y0.toNat))) ∧ JJ (hSt (kCover σ y0 y1) σ (up σ (9 + y0.toNat) 14 y1)) (tOf (qCover M y0 y1) M (up (up M 0 0 0) 16 y0.toNat y1)) := by
  refine t_mk h (cSeq_3 (cFarm_3 _ _) (cSeq_3 (cRange_3 _ _ _) if3_3)) (by decide) (e_cover h y0 y1) (fun h0 => ?_)
  obtain ⟨a1, h1⟩ := cSeq_z h0
  obtain ⟨a2, a3⟩ := cSeq_z h1
  have b2 := cRange_0 a2
  obtain ⟨hI, rf, rfl⟩ := h
  obtain ⟨i8, ic, ie⟩ := farm_in hI a1
  obtain ⟨i, rfl⟩ : ∃ i : Nat, y0 = (i : Int) := ⟨y0.toNat, ie.symm⟩
  simp only [Int.toNat_natCast] at *
  rw [mR_16 i8, mOf_rf, mU_14 i8]
  exact ⟨rfl, rfl, inv_one hI i8 ic (fun r h _ _ => up_r h) (j_cover (by omega) (hI.2.2.1 i i8 ic) (hu_of hI)), 0, rfl⟩
theorem p_setYield {σ M : Sg} (h : JJ σ M) (y0 y1 : Int) (hy0 : nB y0) (hy1 : nB y1) : ((tOf (qYield M y0 y1) M (up (up M 0 0 0) 17 y0.toNat y1)) 0 0 = hRes 3 (kYield σ y0 y1) ∧ kYield σ y0 y1 ≤ 3) ∧ (kYield σ y0 y1 = 0 → iI (σ (9 + y0.toNat) 15) = iI (rOf (qYield M y0 y1) (M 17 y0.toNat))) ∧ JJ (hSt (kYield σ y0 y1) σ (up σ (9 + y0.toNat) 15 y1)) (tOf (qYield M y0 y1) M (up (up M 0 0 0) 17 y0.toNat y1)) := by
  refine t_mk h (cSeq_3 (cFarm_3 _ _) (cSeq_3 (cRange_3 _ _ _) if3_3)) (by decide) (e_setYield h y0 y1) (fun h0 => ?_)
  obtain ⟨a1, h1⟩ := cSeq_z h0
  obtain ⟨a2, a3⟩ := cSeq_z h1
  have b2 := cRange_0 a2
  obtain ⟨hI, rf, rfl⟩ := h
  obtain ⟨i8, ic, ie⟩ := farm_in hI a1
  obtain ⟨i, rfl⟩ : ∃ i : Nat, y0 = (i : Int) := ⟨y0.toNat, ie.symm⟩
  simp only [Int.toNat_natCast] at *
  rw [mR_17 i8 ic, mOf_rf, mU_15 i8 ic]
  exact ⟨rfl, rfl, inv_one hI i8 ic (fun r h _ _ => up_r h) (j_yield (by omega) (hI.2.2.1 i i8 ic) (hu_of hI)), 0, rfl⟩
theorem p_draw {σ M : Sg} (h : JJ σ M) (y0 y1 : Int) (hy0 : nB y0) (hy1 : nB y1) : ((tOf (qDraw M y0 y1) M (gCharge (up (up M 0 0 0) 15 y0.toNat (M 15 y0.toNat + y1)) y0 y1)) 0 0 = hRes 3 (kDraw σ y0 y1) ∧ kDraw σ y0 y1 ≤ 3) ∧ (kDraw σ y0 y1 = 0 → iI ((fLimit σ y0.toNat - σ (9 + y0.toNat) 16) - y1) = iI (rOf (qDraw M y0 y1) (gLimit (gCharge (up (up M 0 0 0) 15 y0.toNat (M 15 y0.toNat + y1)) y0 y1) y0 - (M 15 y0.toNat + y1)))) ∧ JJ (hSt (kDraw σ y0 y1) σ (fDraw σ y0.toNat y1)) (tOf (qDraw M y0 y1) M (gCharge (up (up M 0 0 0) 15 y0.toNat (M 15 y0.toNat + y1)) y0 y1)) := by
  refine t_mk h (cSeq_3 (cFarm_3 _ _) (cSeq_3 (cRange_3 _ _ _) (cSeq_3 if3_3 if3_3))) (by decide) (e_draw h y0 y1) (fun h0 => ?_)
  obtain ⟨a1, h1⟩ := cSeq_z h0
  obtain ⟨a2, h2⟩ := cSeq_z h1
  obtain ⟨a3, a4⟩ := cSeq_z h2
  have b2 := cRange_0 a2
  have b4 := if3_z a4
  obtain ⟨hI, rf, rfl⟩ := h
  obtain ⟨i8, ic, ie⟩ := farm_in hI a1
  obtain ⟨i, rfl⟩ : ∃ i : Nat, y0 = (i : Int) := ⟨y0.toNat, ie.symm⟩
  simp only [Int.toNat_natCast] at *
  have hl := fLimit_b (inv_bd hI) i8
  have eT : gCharge (up (up (mOf rf σ) 0 0 0) 15 i (mOf rf σ 15 i + y1)) (i : Int) y1 = mOf 0 (fDraw σ i y1) := by rw [mOf_rf, mR_15 i8, mU_16 i8, s_charge i8]; rfl
  have hr : ∀ r, r ≠ 9 + i → fDraw σ i y1 r = σ r := fun r h => by rw [fDraw, fCharge_r h, up_r h]
  have e12 : fDraw σ i y1 (9 + i) 12 = σ (9 + i) 12 := by simp [fDraw, fCharge, up]
  have e13 : fDraw σ i y1 (9 + i) 13 = σ (9 + i) 13 := by simp [fDraw, fCharge, up]
  have g12 := g12_of hI i8
  rw [eT, limit_tie i8 (by rw [hr 0 (by omega)]; exact ic) (by rw [e12]; exact g12), fLimit_c (σ := σ) (fun r h => hr r (by omega)) e12 e13 g12.2, mR_15 i8]
  exact ⟨by omega, rfl, inv_one hI i8 ic (fun r h _ _ => hr r h) (j_draw (by omega) (by omega) (hI.2.2.1 i i8 ic) (hu_of hI)), 0, rfl⟩
theorem p_pledge {σ M : Sg} (h : JJ σ M) (y0 y1 : Int) (hy0 : nB y0) (hy1 : nB y1) : ((tOf (qPledge M y0 y1) M (gPledge M y0 y1)) 0 0 = hRes 3 (kPledge σ y0 y1) ∧ kPledge σ y0 y1 ≤ 3) ∧ (kPledge σ y0 y1 = 0 → iI (y1 * σ (3 + (σ (9 + y0.toNat) 11).toNat) 1 * 60 / 100) = iI (rOf (qPledge M y0 y1) (y1 * gPr M y0 * 60 / 100))) ∧ JJ (hSt (kPledge σ y0 y1) σ (fPledge σ y0.toNat y1 (σ (3 + (σ (9 + y0.toNat) 11).toNat) 1))) (tOf (qPledge M y0 y1) M (gPledge M y0 y1)) := by
  refine t_mk h (cSeq_3 (cFarm_3 _ _) (cSeq_3 (cRange_3 _ _ _) if3_3)) (by decide) (e_pledge h y0 y1) (fun h0 => ?_)
  obtain ⟨a1, h1⟩ := cSeq_z h0
  obtain ⟨a2, a3⟩ := cSeq_z h1
  have b2 := cRange_0 a2
  have b3 := if3_z a3
  obtain ⟨hI, rf, rfl⟩ := h
  obtain ⟨i8, ic, ie⟩ := farm_in hI a1
  obtain ⟨i, rfl⟩ : ∃ i : Nat, y0 = (i : Int) := ⟨y0.toNat, ie.symm⟩
  simp only [Int.toNat_natCast] at *
  have hpr := pr_of hI i8
  have g11 := g11_of hI i8
  have epr : gPr (mOf rf σ) (i : Int) = σ (3 + (σ (9 + i) 11).toNat) 1 := by rw [gPr, Int.toNat_natCast, mR_7 i8, mR_2 (by omega)]
  generalize hpe : σ (3 + (σ (9 + i) 11).toNat) 1 = pr at hpr epr ⊢
  have hL := mulB (a := y1) (b := pr) (A := y1) (B := 5000) (by omega) hpr
  have eT : gPledge (mOf rf σ) (i : Int) y1 = mOf 0 (fPledge σ i y1 pr) := by
    rw [gPledge, epr, Int.toNat_natCast, mOf_rf, mR_9 i8, mR_10 i8, mU_10 i8, mU_3 i8, s_come (s := 2) (k := 2) i8 (by decide) rfl]; rfl
  rw [eT, epr]
  exact ⟨rfl, rfl, inv_one hI i8 ic (fun r h h2 _ => by rw [fPledge, fReceive_r h h2, up_r h, up_r h]) (j_pledge (L := y1 * pr * 60 / 100) (by omega) (by omega) rfl (by omega) (by omega) (hI.2.2.1 i i8 ic) (hu_of hI)), 0, rfl⟩
theorem p_repay {σ M : Sg} (h : JJ σ M) (y0 y1 : Int) (hy0 : nB y0) (hy1 : nB y1) : ((tOf (qRepay M y0 y1) M (gLower (up (up M 0 0 0) 5 y0.toNat (M 5 y0.toNat - y1)) y0 y1 0)) 0 0 = hRes 3 (kRepay σ y0 y1) ∧ kRepay σ y0 y1 ≤ 3) ∧ (kRepay σ y0 y1 = 0 → iI (σ (9 + y0.toNat) 2 - y1) = iI (rOf (qRepay M y0 y1) (gLower (up (up M 0 0 0) 5 y0.toNat (M 5 y0.toNat - y1)) y0 y1 0 6 y0.toNat))) ∧ JJ (hSt (kRepay σ y0 y1) σ (fRepay σ y0.toNat y1)) (tOf (qRepay M y0 y1) M (gLower (up (up M 0 0 0) 5 y0.toNat (M 5 y0.toNat - y1)) y0 y1 0)) := by
  refine t_mk h (cSeq_3 (cFarm_3 _ _) (cSeq_3 (cRange_3 _ _ _) if3_3)) (by decide) (e_repay h y0 y1) (fun h0 => ?_)
  obtain ⟨a1, h1⟩ := cSeq_z h0
  obtain ⟨a2, a3⟩ := cSeq_z h1
  have b2 := cRange_0 a2
  have b3 := if3_z a3
  obtain ⟨hI, rf, rfl⟩ := h
  obtain ⟨i8, ic, ie⟩ := farm_in hI a1
  obtain ⟨i, rfl⟩ : ∃ i : Nat, y0 = (i : Int) := ⟨y0.toNat, ie.symm⟩
  simp only [Int.toNat_natCast] at *
  have eT : gLower (up (up (mOf rf σ) 0 0 0) 5 i (mOf rf σ 5 i - y1)) (i : Int) y1 0 = mOf 0 (fRepay σ i y1) := by
    rw [mOf_rf, mR_5 i8, mU_1 i8, s_lower (s := 0) (k := 0) i8 (by decide) rfl]; rfl
  rw [eT, mR_6 i8]
  exact ⟨by simp [fRepay, fLower, up], rfl, inv_one hI i8 ic (fun r h h2 _ => fRepay_r h h2) (j_repay (by omega) b3.2 b3.1 (hI.2.2.1 i i8 ic) (hu_of hI)), 0, rfl⟩
