/-! the tie: the next stage -/
theorem j_mono {h u b h2 u2 b2 : Int} {σ : Sg} {i : Nat} (hf : jFa h u b σ i) (hh : h ≤ h2) (hu : u ≤ u2) (hb : b ≤ b2) : jFa h2 u2 b2 σ i := by
  obtain ⟨g, P1, P2, P3, P4, P5, P6, P7⟩ := hf
  exact ⟨g, by omega, by omega, by omega, by omega, fun hp => by have := P5 hp; omega, by omega, by omega⟩
theorem mx_1 (a b : Int) : a ≤ mx a b := by unfold mx; split <;> omega
theorem mx_2 (a b : Int) : b ≤ mx a b := by unfold mx; split <;> omega
theorem j_interest {h u b : Int} {σ : Sg} {i : Nat} {u2 b2 : Int} (h1 : u + u / 50 + 1 ≤ u2) (h2 : b + mx b u / 50 + 1 ≤ b2) (hf : jFa h u b σ i) (hu : 30000000 * h + 20000000 ≤ u) : jFa h u2 b2 (fInterest σ i) i := by
  obtain ⟨⟨g0, g1, g2, g3, g5, g8, g10, g11, g12, g13, g14, g15, g16, gp⟩, P1, P2, P3, P4, P5, P6, P7⟩ := hf
  obtain ⟨t1, t2, t3⟩ := take_sum g8 gp
  have x1 := mx_1 b u
  have x2 := mx_2 b u
  have hd : σ (9 + i) 2 ≤ mx b u := by
    by_cases hp : 0 < σ (9 + i) 1
    · have := P5 hp
      omega
    · omega
  have e0 : (fInterest σ i) (9 + i) 0 = σ (9 + i) 0 := by simp [fInterest, fCharge, up]
  have e1 : (fInterest σ i) (9 + i) 1 = σ (9 + i) 1 := by simp [fInterest, fCharge, up]
  have e2 : (fInterest σ i) (9 + i) 2 = σ (9 + i) 2 + σ (9 + i) 2 * 2 / 100 := by simp [fInterest, fCharge, up]
  have e3 : (fInterest σ i) (9 + i) 3 = σ (9 + i) 3 := by simp [fInterest, fCharge, up]
  have e5 : (fInterest σ i) (9 + i) 5 = σ (9 + i) 5 := by simp [fInterest, fCharge, up]
  have e8 : (fInterest σ i) (9 + i) 8 = σ (9 + i) 8 := by simp [fInterest, fCharge, up]
  have e9 : (fInterest σ i) (9 + i) 9 = σ (9 + i) 9 := by simp [fInterest, fCharge, up]
  have e10 : (fInterest σ i) (9 + i) 10 = σ (9 + i) 10 := by simp [fInterest, fCharge, up]
  have e11 : (fInterest σ i) (9 + i) 11 = σ (9 + i) 11 := by simp [fInterest, fCharge, up]
  have e12 : (fInterest σ i) (9 + i) 12 = σ (9 + i) 12 := by simp [fInterest, fCharge, up]
  have e13 : (fInterest σ i) (9 + i) 13 = σ (9 + i) 13 := by simp [fInterest, fCharge, up]
  have e14 : (fInterest σ i) (9 + i) 14 = σ (9 + i) 14 := by simp [fInterest, fCharge, up]
  have e15 : (fInterest σ i) (9 + i) 15 = σ (9 + i) 15 := by simp [fInterest, fCharge, up]
  have e16 : (fInterest σ i) (9 + i) 16 = σ (9 + i) 16 := by simp [fInterest, fCharge, up]
  have e25 : (fInterest σ i) (25 + i) = σ (25 + i) := by
    funext z
    simp [fInterest, fCharge, up]
  have eS : fSum (fInterest σ i) i 3 = fSum σ i 3 := fSum_c (e8) e25
  unfold jFa
  rw [e0, e1, e2, e3, e5, e8, e9, e10, e11, e12, e13, e14, e15, e16, eS, e25]
  refine ⟨⟨?_, ?_, ?_, ?_, ?_, ?_, ?_, ?_, ?_, ?_, ?_, ?_, ?_, gp⟩, ?_, ?_, ?_, ?_, fun hp => ?_, ?_, ?_⟩
  all_goals first | assumption | omega | (by_cases hp0 : 0 < σ (9 + i) 1 <;> first | (have := P5 hp0; omega) | omega)
theorem j_harv0 {h u b : Int} {σ : Sg} {i : Nat} {c : Nat} (hc : 0 ≤ σ (9 + i) 12) (hn : 0 ≤ σ (3 + c) 2 ∧ σ (3 + c) 2 ≤ 100) (hf : jFa h u b σ i) (hu : 30000000 * h + 20000000 ≤ u) : jFa (h + 1) (u + 30000000) b (fHarvest0 σ i c) i ∧ (fHarvest0 σ i c (9 + i) 1 + 5000 * (fHarvest0 σ i c (9 + i) 9 - fHarvest0 σ i c (9 + i) 10) ≤ 72500000 * h + 50000000) ∧ fHarvest0 σ i c (9 + i) 1 + 5000 * fHarvest0 σ i c (9 + i) 9 - fHarvest0 σ i c (9 + i) 3 ≤ 72500000 * h + 50000000 := by
  obtain ⟨⟨g0, g1, g2, g3, g5, g8, g10, g11, g12, g13, g14, g15, g16, gp⟩, P1, P2, P3, P4, P5, P6, P7⟩ := hf
  have hA := mulB (a := σ (9 + i) 13) (b := σ (3 + c) 2) (A := 50) (B := 100) g13 hn
  have hB := mulB (a := σ (9 + i) 13 * σ (3 + c) 2) (b := σ (9 + i) 15) (A := 50 * 100) (B := 200) hA g15
  have e0 : (fHarvest0 σ i c) (9 + i) 0 = σ (9 + i) 0 := by simp [fHarvest0, up]
  have e1 : (fHarvest0 σ i c) (9 + i) 1 = σ (9 + i) 1 := by simp [fHarvest0, up]
  have e2 : (fHarvest0 σ i c) (9 + i) 2 = σ (9 + i) 2 := by simp [fHarvest0, up]
  have e3 : (fHarvest0 σ i c) (9 + i) 3 = σ (9 + i) 3 := by simp [fHarvest0, up]
  have e5 : (fHarvest0 σ i c) (9 + i) 5 = σ (9 + i) 5 := by simp [fHarvest0, up]
  have e8 : (fHarvest0 σ i c) (9 + i) 8 = σ (9 + i) 8 := by simp [fHarvest0, up]
  have e9 : (fHarvest0 σ i c) (9 + i) 9 = σ (9 + i) 9 + σ (9 + i) 13 * σ (3 + c) 2 * σ (9 + i) 15 / 100 := by simp [fHarvest0, up]
  have e10 : (fHarvest0 σ i c) (9 + i) 10 = σ (9 + i) 10 := by simp [fHarvest0, up]
  have e11 : (fHarvest0 σ i c) (9 + i) 11 = σ (9 + i) 12 := by simp [fHarvest0, up]
  have e12 : (fHarvest0 σ i c) (9 + i) 12 = σ (9 + i) 12 := by simp [fHarvest0, up]
  have e13 : (fHarvest0 σ i c) (9 + i) 13 = σ (9 + i) 13 := by simp [fHarvest0, up]
  have e14 : (fHarvest0 σ i c) (9 + i) 14 = σ (9 + i) 14 := by simp [fHarvest0, up]
  have e15 : (fHarvest0 σ i c) (9 + i) 15 = σ (9 + i) 15 := by simp [fHarvest0, up]
  have e16 : (fHarvest0 σ i c) (9 + i) 16 = σ (9 + i) 16 := by simp [fHarvest0, up]
  have e25 : (fHarvest0 σ i c) (25 + i) = σ (25 + i) := by
    funext z
    simp [fHarvest0, up]
  have eS : fSum (fHarvest0 σ i c) i 3 = fSum σ i 3 := fSum_c (e8) e25
  rw [e1, e9, e10, e3]
  refine ⟨?_, by omega, by omega⟩
  unfold jFa
  rw [e0, e1, e2, e3, e5, e8, e9, e10, e11, e12, e13, e14, e15, e16, eS, e25]
  refine ⟨⟨?_, ?_, ?_, ?_, ?_, ?_, ?_, ?_, ?_, ?_, ?_, ?_, ?_, gp⟩, ?_, ?_, ?_, ?_, fun hp => ?_, ?_, ?_⟩
  all_goals first | assumption | omega | (by_cases hp0 : 0 < σ (9 + i) 1 <;> first | (have := P5 hp0; omega) | omega)
theorem j_pay {h u b : Int} {σ : Sg} {i : Nat} {L : Int} (hL0 : 0 ≤ L) (hL1 : L ≤ 22500000) (k2 : σ (9 + i) 1 + 5000 * (σ (9 + i) 9 - σ (9 + i) 10) + 22500000 ≤ 72500000 * h) (k3 : σ (9 + i) 1 + 5000 * σ (9 + i) 9 - σ (9 + i) 3 + 22500000 ≤ 72500000 * h) (hf : jFa h u b σ i) (hu : 30000000 * h + 20000000 ≤ u) : jFa h u b (fReceive σ i L 1) i := by
  obtain ⟨⟨g0, g1, g2, g3, g5, g8, g10, g11, g12, g13, g14, g15, g16, gp⟩, P1, P2, P3, P4, P5, P6, P7⟩ := hf
  obtain ⟨m, hm⟩ : ∃ m, m = mn L (σ (9 + i) 2) := ⟨_, rfl⟩
  have m1 := mn_le1 L (σ (9 + i) 2)
  have m2 := mn_le2 L (σ (9 + i) 2)
  have m3 := mn_ge L (σ (9 + i) 2) 0 (by omega) g2
  have m4 : m = L ∨ m = σ (9 + i) 2 := by rw [hm]; unfold mn; split <;> simp
  rw [← hm] at m1 m2 m3
  have e0 : (fReceive σ i L 1) (9 + i) 0 = σ (9 + i) 0 := by simp [fReceive, fLower, up, hm]
  have e1 : (fReceive σ i L 1) (9 + i) 1 = σ (9 + i) 1 + (L - m) := by simp [fReceive, fLower, up, hm]
  have e2 : (fReceive σ i L 1) (9 + i) 2 = σ (9 + i) 2 - m := by simp [fReceive, fLower, up, hm]
  have e3 : (fReceive σ i L 1) (9 + i) 3 = σ (9 + i) 3 := by simp [fReceive, fLower, up, hm]
  have e5 : (fReceive σ i L 1) (9 + i) 5 = σ (9 + i) 5 := by simp [fReceive, fLower, up, hm]
  have e8 : (fReceive σ i L 1) (9 + i) 8 = σ (9 + i) 8 := by simp [fReceive, fLower, up, hm]
  have e9 : (fReceive σ i L 1) (9 + i) 9 = σ (9 + i) 9 := by simp [fReceive, fLower, up, hm]
  have e10 : (fReceive σ i L 1) (9 + i) 10 = σ (9 + i) 10 := by simp [fReceive, fLower, up, hm]
  have e11 : (fReceive σ i L 1) (9 + i) 11 = σ (9 + i) 11 := by simp [fReceive, fLower, up, hm]
  have e12 : (fReceive σ i L 1) (9 + i) 12 = σ (9 + i) 12 := by simp [fReceive, fLower, up, hm]
  have e13 : (fReceive σ i L 1) (9 + i) 13 = σ (9 + i) 13 := by simp [fReceive, fLower, up, hm]
  have e14 : (fReceive σ i L 1) (9 + i) 14 = σ (9 + i) 14 := by simp [fReceive, fLower, up, hm]
  have e15 : (fReceive σ i L 1) (9 + i) 15 = σ (9 + i) 15 := by simp [fReceive, fLower, up, hm]
  have e16 : (fReceive σ i L 1) (9 + i) 16 = σ (9 + i) 16 := by simp [fReceive, fLower, up, hm]
  have e25 : (fReceive σ i L 1) (25 + i) = σ (25 + i) := by
    funext z
    simp [fReceive, fLower, up, hm]
  have eS : fSum (fReceive σ i L 1) i 3 = fSum σ i 3 := fSum_c (e8) e25
  unfold jFa
  rw [e0, e1, e2, e3, e5, e8, e9, e10, e11, e12, e13, e14, e15, e16, eS, e25]
  refine ⟨⟨?_, ?_, ?_, ?_, ?_, ?_, ?_, ?_, ?_, ?_, ?_, ?_, ?_, gp⟩, ?_, ?_, ?_, ?_, fun hp => ?_, ?_, ?_⟩
  all_goals first | assumption | omega | (by_cases hp0 : 0 < σ (9 + i) 1 <;> first | (have := P5 hp0; omega) | omega)
theorem j_harv {h u b : Int} {σ : Sg} {i : Nat} (hf : jFa h u b σ i) (hu : 30000000 * h + 20000000 ≤ u) (hC : ∀ c, c < 3 → cCrB σ c) : jFa (h + 1) (u + 30000000) b (fHarv σ i) i := by
  unfold fHarv
  have hf0 := hf
  obtain ⟨⟨g0, g1, g2, g3, g5, g8, g10, g11, g12, g13, g14, g15, g16, gp⟩, P1, P2, P3, P4, P5, P6, P7⟩ := hf0
  by_cases h12 : σ (9 + i) 12 = -1
  · rw [if_pos h12]
    exact j_mono hf (by omega) (by omega) (by omega)
  · rw [if_neg h12]
    have hc := hC (σ (9 + i) 12).toNat (by omega)
    obtain ⟨c1, c2, -⟩ := hc
    obtain ⟨j0, k2, k3⟩ := j_harv0 (c := (σ (9 + i) 12).toNat) (by omega) c2 hf hu
    unfold fHarvest
    split
    · rename_i hy
      have hA := mulB (a := σ (9 + i) 13) (b := σ (3 + (σ (9 + i) 12).toNat) 2) (A := 50) (B := 100) g13 c2
      have hB := mulB (a := σ (9 + i) 13 * σ (3 + (σ (9 + i) 12).toNat) 2) (b := σ (3 + (σ (9 + i) 12).toNat) 1) (A := 50 * 100) (B := 5000) hA c1
      have hD := mulB (a := σ (9 + i) 13 * σ (3 + (σ (9 + i) 12).toNat) 2 * σ (3 + (σ (9 + i) 12).toNat) 1) (b := σ (9 + i) 14 - σ (9 + i) 15) (A := 50 * 100 * 5000) (B := 90) hB (by omega)
      exact j_pay (by omega) (by omega) (by omega) (by omega) j0 (by omega)
    · exact j0
theorem fHarvest0_lt {σ : Sg} {i c r : Nat} (h : r ≠ 9 + i) : fHarvest0 σ i c r = σ r := by rw [fHarvest0, up_r h, up_r h]
theorem uU_s {s k : Nat} (hk : k + 1 < 4) : uU s k + uU s k / 50 + 1 ≤ uU s (k + 1) := by
  unfold uU
  rw [if_neg (by omega), if_neg (by omega), uK]
  omega
theorem uU_3 (s : Nat) : uU s 3 + uU s 3 / 50 + 1 + 30000000 ≤ uU s 4 := by
  have e3 : uU s 3 = uK (30000000 * s + 20000000) 3 + 0 := rfl
  have e4 : uU s 4 = uK (30000000 * s + 20000000) 3 + uK (30000000 * s + 20000000) 3 / 50 + 1 + 30000000 := rfl
  omega
theorem bB_s (s k : Nat) : bB s k + mx (bB s k) (uU s k) / 50 + 1 ≤ bB s (k + 1) := by
  unfold bB
  rw [bK]
  omega
theorem itr_row {f : Sg → Nat → Sg} (hf : fLoc f) (σ : Sg) {i : Nat} (hi : i < 8) : ∀ n : Nat, n ≤ 8 → i < n → ∀ r, r = 9 + i ∨ r = 17 + i ∨ r = 25 + i → itr f σ n r = f (itr f σ i) i r := by
  intro n
  induction n with
  | zero => intro _ h; omega
  | succ n ih =>
    intro hn h r hr
    by_cases e : i = n
    · subst e; rfl
    · rw [itr, hf _ n r (by omega) (by omega) (by omega)]
      exact ih (by omega) (by omega) r hr
theorem itr_f {f : Sg → Nat → Sg} (hf : fLoc f) (σ : Sg) {i n : Nat} (hi : i < 8) (hn : n ≤ 8) (h : i < n) {a1 b1 c1 : Int} (hj : jFa a1 b1 c1 (f (itr f σ i) i) i) : jFa a1 b1 c1 (itr f σ n) i := jFa_c hj (itr_row hf σ hi n hn h _ (Or.inl rfl)) (itr_row hf σ hi n hn h _ (Or.inr (Or.inr rfl)))
theorem n_0 {σ : Sg} {i : Nat} (hi : i < 8) (hc : (i : Int) < σ 0 2) (hn : σ 0 2 ≤ 8) {h u b u2 b2 : Int} (hf : jFa h u b σ i) (hu : 30000000 * h + 20000000 ≤ u) (h1 : u + u / 50 + 1 ≤ u2) (h2 : b + mx b u / 50 + 1 ≤ b2) : jFa h u2 b2 (fNext0 σ) i := by
  unfold fNext0
  refine itr_f locInterest _ hi (by omega) (by omega) (j_interest h1 h2 ?_ hu)
  exact jFa_c (jFa_c hf (τ := up σ 0 4 (σ 0 4 + 1)) (up_r (by omega)) (up_r (by omega))) (itr_at9 locInterest _ hi) (itr_at25 locInterest _ hi)
theorem z_next {σ : Sg} {i : Nat} (hi : i < 8) (hc : σ 0 2 ≤ (i : Int)) (hz : jZ σ i) : jZ (fNext0 σ) i := by
  have e : ∀ r, r = 9 + i ∨ r = 17 + i ∨ r = 25 + i → fNext0 σ r = σ r := fun r hr => by
    rw [fNext0, itr_loc locInterest _ _ _ (fun j hj => by omega), up_r (by omega)]
  exact jZ_c hz (e _ (Or.inl rfl)) (e _ (Or.inr (Or.inl rfl))) (e _ (Or.inr (Or.inr rfl)))
theorem inv_next {σ : Sg} (hI : jInv σ) (h4 : σ 0 4 < 4) : jInv (fNext σ) := by
  have hI0 := hI
  obtain ⟨hG, hC, hF, hZ⟩ := hI
  have hu := hu_of hI0
  unfold cGl at hG
  have hr0 : ∀ r, r < 9 → r ≠ 0 → fNext σ r = σ r := fun r hr h0 => by
    unfold fNext
    split
    · rw [itr_lt locHarv _ _ hr, fNext0_r hr h0]
    · exact fNext0_r hr h0
  have e0 : ∀ b, fNext σ 0 b = fNext0 σ 0 b := fun b => by
    unfold fNext
    split
    · rw [itr_lt locHarv _ _ (by decide)]
    · rfl
  have e3 : fNext σ 0 3 = σ 0 3 := by rw [e0, fNext0_0 (by decide)]
  have e2 : fNext σ 0 2 = σ 0 2 := by rw [e0, fNext0_0 (by decide)]
  have e4 : fNext σ 0 4 = σ 0 4 + 1 := by rw [e0, fNext0_st]
  refine ⟨?_, fun c hc => ?_, fun i hi hic => ?_, fun i hi hic => ?_⟩
  · unfold cGl
    rw [e2, e3, e4]
    omega
  · have := hC c hc
    unfold cCrB at this ⊢
    rw [hr0 (3 + c) (by omega) (by omega), hr0 (6 + c) (by omega) (by omega)]
    exact this
  · rw [e2] at hic
    have hf := hF i hi hic
    have hk : kN (fNext σ) = kN σ + 1 := by unfold kN; rw [e4]; omega
    have hs : sN (fNext σ) = sN σ := by unfold sN; rw [e3]
    rw [hk, hs]
    have k4 : kN σ < 4 := by unfold kN; omega
    by_cases h3 : σ 0 4 + 1 = 4
    · have k3 : kN σ = 3 := by unfold kN; omega
      rw [k3] at hf hu ⊢
      have hn := n_0 hi hic (by omega) (u2 := uU (sN σ) 4 - 30000000) (b2 := bB (sN σ) 4) hf hu (by have := uU_3 (sN σ); omega) (bB_s _ 3)
      have hh : hH (sN σ) 3 = sN σ := by unfold hH; rw [if_neg (by decide)]; omega
      have hh4 : hH (sN σ) (3 + 1) = hH (sN σ) 3 + 1 := by
        show (sN σ : Int) + 1 = (sN σ : Int) + 0 + 1
        omega
      have u3 := uU_3 (sN σ)
      unfold fNext
      rw [if_pos h3, hh4]
      have hj := j_harv (σ := itr fHarv (fNext0 σ) i) (i := i) (jFa_c hn (itr_at9 locHarv _ hi) (itr_at25 locHarv _ hi)) (by omega) (fun c hc => by
        have := hC c hc
        unfold cCrB at this ⊢
        rw [itr_lt locHarv _ _ (by omega), itr_lt locHarv _ _ (r := 6 + c) (by omega), fNext0_r (by omega) (by omega), fNext0_r (r := 6 + c) (by omega) (by omega)]
        exact this)
      rw [show uU (sN σ) 4 - 30000000 + 30000000 = uU (sN σ) 4 by omega] at hj
      exact itr_f locHarv _ hi (by omega) (by omega) hj
    · have k3 : kN σ + 1 < 4 := by unfold kN; omega
      have hh : hH (sN σ) (kN σ + 1) = hH (sN σ) (kN σ) := by unfold hH; rw [if_neg (by omega), if_neg (by omega)]
      unfold fNext
      rw [if_neg h3, hh]
      exact n_0 hi hic (by omega) hf hu (uU_s k3) (bB_s _ _)
  · rw [e2] at hic
    have z0 := z_next hi hic (hZ i hi hic)
    unfold fNext
    split
    · have e : ∀ r, r = 9 + i ∨ r = 17 + i ∨ r = 25 + i → itr fHarv (fNext0 σ) (σ 0 2).toNat r = fNext0 σ r := fun r hr => itr_loc locHarv _ _ _ (fun j hj => by omega)
      exact jZ_c z0 (e _ (Or.inl rfl)) (e _ (Or.inr (Or.inl rfl))) (e _ (Or.inr (Or.inr rfl)))
    · exact z0
theorem s_next0 {rf : Int} {σ : Sg} (hn : σ 0 2 ≤ 8) : gNext0 (mOf rf σ) = mOf 0 (fNext0 σ) := by
  rw [gNext0, mOf_rf, mR_02, mR_06, mU_k, i_interest _ (by omega)]
  rfl
theorem s_next {rf : Int} {σ : Sg} (hI : jInv σ) : gNext (mOf rf σ) = mOf 0 (fNext σ) := by
  have hG := hI.1
  unfold cGl at hG
  rw [gNext, s_next0 (by omega), mR_02, mR_06, fNext]
  by_cases h : σ 0 4 + 1 = 4
  · rw [if_pos h, if_pos h]
    exact (i_harv (n := σ 0 2) (by omega) ⟨fNext0_0 (by decide), fun i hi => by rw [fNext0_b hi (by omega) (by decide) (by decide)]; exact g12_of hI hi⟩ _ (by omega)).1
  · rw [if_neg h, if_neg h]
theorem p_next {σ M : Sg} (h : JJ σ M)  : ((tOf (qNext M) M (gNext M)) 0 0 = hRes 1 (kNext σ) ∧ kNext σ ≤ 3) ∧ (kNext σ = 0 → iI (σ 0 4 + 1) = iI (rOf (qNext M) (M 0 2 + 1))) ∧ JJ (hSt (kNext σ) σ (fNext σ)) (tOf (qNext M) M (gNext M)) := by
  have hG := h.1.1
  unfold cGl at hG
  refine t_mk h (by unfold kNext; split <;> omega) (by decide) ?_ (fun h0 => ?_)
  · unfold qNext kNext hRes
    rw [q_stage h]
    (repeat' split) <;> first | rfl | omega
  · unfold kNext at h0
    have b := if3_z h0
    obtain ⟨hI, rf, rfl⟩ := h
    rw [s_next hI]
    exact ⟨rfl, rfl, inv_next hI b, 0, rfl⟩
