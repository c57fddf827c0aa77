/-! the tie: the close of a season -/
/-- a farmer's numbers while a season closes: with a purse left there is no debt, and what was called is counted off -/
def jC (h b : Int) (σ : Sg) (i : Nat) : Prop :=
  ((0 ≤ σ (9 + i) 0 ∧ σ (9 + i) 0 ≤ 2) ∧ 0 ≤ σ (9 + i) 1 ∧ 0 ≤ σ (9 + i) 2 ∧ 0 ≤ σ (9 + i) 3 ∧ (0 ≤ σ (9 + i) 5 ∧ σ (9 + i) 5 ≤ 20000) ∧ (0 ≤ σ (9 + i) 8 ∧ σ (9 + i) 8 ≤ 3) ∧ (0 ≤ σ (9 + i) 10 ∧ σ (9 + i) 10 ≤ σ (9 + i) 9) ∧ (0 ≤ σ (9 + i) 11 ∧ σ (9 + i) 11 < 3) ∧ (0 ≤ σ (9 + i) 16 ∧ σ (9 + i) 16 ≤ 20000000) ∧ ∀ q, q < 3 → 0 ≤ σ (25 + i) q) ∧
  σ (9 + i) 9 ≤ 10000 * h ∧
  σ (9 + i) 1 + 5000 * (σ (9 + i) 9 - σ (9 + i) 10) ≤ 72500000 * h ∧
  σ (9 + i) 1 + 5000 * σ (9 + i) 9 - σ (9 + i) 3 ≤ 72500000 * h ∧
  σ (9 + i) 3 + 3000 * (σ (9 + i) 9 - σ (9 + i) 10) ≤ 30000000 * h ∧
  (0 < σ (9 + i) 1 → σ (9 + i) 2 = 0) ∧
  σ (9 + i) 2 + fSum σ i 3 + σ (9 + i) 3 - σ (9 + i) 1 - σ (9 + i) 5 + (20000000 - σ (9 + i) 16) ≤ b ∧
  fSum σ i 3 ≤ b + 20000
theorem jC_c {h b : Int} {σ τ : Sg} {i : Nat} (hf : jC h b σ i) (e9 : τ (9 + i) = σ (9 + i)) (e25 : τ (25 + i) = σ (25 + i)) : jC h b τ i := by
  unfold jC at hf ⊢
  rw [fSum_c (σ := σ) (by rw [e9]) e25, e9, e25]
  exact hf
theorem fSettle_25 {σ : Sg} {i : Nat} : fSettle σ i (25 + i) = σ (25 + i) := by rw [fSettle, fRepay_r (by omega) (by omega), fSettle0, up_r (by omega), fTake_r (by omega), up_r (by omega)]
theorem sum_settle {σ : Sg} {i : Nat} (g8 : 0 ≤ σ (9 + i) 8 ∧ σ (9 + i) 8 ≤ 3) : fSum (fSettle σ i) i 3 = fSum σ i 3 - fTakeV σ i := by
  rw [fSum3, fSum3, fSettle_25, fSettle_8 g8, fTakeV]
  rcases (by omega : σ (9 + i) 8 = 0 ∨ σ (9 + i) 8 = 1 ∨ σ (9 + i) 8 = 2 ∨ σ (9 + i) 8 = 3) with h | h | h | h <;> rw [h]
  · rfl
  · show 0 + 0 + 0 = 0 + 0 + σ (25 + i) 2 - σ (25 + i) 2
    omega
  · show 0 + 0 + σ (25 + i) 2 = 0 + σ (25 + i) 1 + σ (25 + i) 2 - σ (25 + i) 1
    omega
  · show 0 + σ (25 + i) 1 + σ (25 + i) 2 = σ (25 + i) 0 + σ (25 + i) 1 + σ (25 + i) 2 - σ (25 + i) 0
    omega
theorem jc_settle {h u b : Int} {σ : Sg} {i : Nat} (hf : jFa h u b σ i) : jC h b (fSettle σ i) i := by
  obtain ⟨⟨g0, g1, g2, g3, g5, g8, g10, g11, g12, g13, g14, g15, g16, gp⟩, P1, P2, P3, P4, P5, P6, P7⟩ := hf
  obtain ⟨t1, t2, t3⟩ := take_sum g8 gp
  have m1 := mn_le1 (σ (9 + i) 2 + fTakeV σ i) (σ (9 + i) 1)
  have m2 := mn_le2 (σ (9 + i) 2 + fTakeV σ i) (σ (9 + i) 1)
  have m3 := mn_ge (σ (9 + i) 2 + fTakeV σ i) (σ (9 + i) 1) 0 (by omega) g1
  have m4 : mn (σ (9 + i) 2 + fTakeV σ i) (σ (9 + i) 1) = σ (9 + i) 2 + fTakeV σ i ∨ mn (σ (9 + i) 2 + fTakeV σ i) (σ (9 + i) 1) = σ (9 + i) 1 := by unfold mn; split <;> simp
  have b8 : 0 ≤ fSettle σ i (9 + i) 8 ∧ fSettle σ i (9 + i) 8 ≤ 3 := by
    rw [fSettle_8 g8]
    split <;> omega
  unfold jC
  rw [sum_settle g8, fSettle_25, fSettle_1, fSettle_2, fSettle_5, fSettle_b (b := 0) (by decide), fSettle_b (b := 3) (by decide), fSettle_b (b := 9) (by decide), fSettle_b (b := 10) (by decide), fSettle_b (b := 11) (by decide), fSettle_b (b := 16) (by decide)]
  refine ⟨⟨g0, ?_, ?_, g3, ?_, b8, g10, g11, g16, gp⟩, ?_, ?_, ?_, ?_, ?_, ?_, ?_⟩
  all_goals omega
theorem payC_b {σ : Sg} {i j : Nat} (h1 : 0 ≤ σ (9 + i) 1) (h5 : 0 ≤ σ (9 + i) 5 ∧ σ (9 + i) 5 ≤ 20000) (h2 : 0 ≤ σ (9 + j) 2) : 0 ≤ fPayC σ i j ∧ fPayC σ i j ≤ σ (9 + j) 2 ∧ fPayC σ i j ≤ σ (9 + i) 1 ∧ fPayC σ i j ≤ 20000 - σ (9 + i) 5 := by
  have m1 := mn_le1 (σ (9 + i) 1) (20000 - σ (9 + i) 5)
  have m2 := mn_le2 (σ (9 + i) 1) (20000 - σ (9 + i) 5)
  have m3 := mn_ge (σ (9 + i) 1) (20000 - σ (9 + i) 5) 0 (by omega) (by omega)
  have n1 := mn_le1 (σ (9 + j) 2) (mn (σ (9 + i) 1) (20000 - σ (9 + i) 5))
  have n2 := mn_le2 (σ (9 + j) 2) (mn (σ (9 + i) 1) (20000 - σ (9 + i) 5))
  have n3 := mn_ge (σ (9 + j) 2) (mn (σ (9 + i) 1) (20000 - σ (9 + i) 5)) 0 (by omega) (by omega)
  unfold fPayC
  omega
theorem fPay_25 {σ : Sg} {i j r : Nat} (h1 : r ≠ 9 + i) (h2 : r ≠ 9 + j) (h3 : r ≠ 17 + j) : fPay σ i j r = σ r := by rw [fPay, fLower_r h2 h3, up_r h1, up_r h1]
theorem jc_payer {h b : Int} {σ : Sg} {i j : Nat} (hij : i ≠ j) (hi8 : i < 8) (hj8 : j < 8) (h2 : 0 ≤ σ (9 + j) 2) (hi : jC h b σ i) : jC h b (fPay σ i j) i := by
  obtain ⟨⟨g0, g1, g2, g3, g5, g8, g10, g11, g16, gp⟩, P1, P2, P3, P4, P5, P6, P7⟩ := hi
  obtain ⟨c1, c2, c3, c4⟩ := payC_b (j := j) g1 g5 h2
  have e0 : (fPay σ i j) (9 + i) 0 = σ (9 + i) 0 := by simp [fPay, fLower, up, hij]
  have e1 : (fPay σ i j) (9 + i) 1 = σ (9 + i) 1 - fPayC σ i j := by simp [fPay, fLower, up, hij]
  have e2 : (fPay σ i j) (9 + i) 2 = σ (9 + i) 2 := by simp [fPay, fLower, up, hij]
  have e3 : (fPay σ i j) (9 + i) 3 = σ (9 + i) 3 := by simp [fPay, fLower, up, hij]
  have e5 : (fPay σ i j) (9 + i) 5 = σ (9 + i) 5 + fPayC σ i j := by simp [fPay, fLower, up, hij]
  have e8 : (fPay σ i j) (9 + i) 8 = σ (9 + i) 8 := by simp [fPay, fLower, up, hij]
  have e9 : (fPay σ i j) (9 + i) 9 = σ (9 + i) 9 := by simp [fPay, fLower, up, hij]
  have e10 : (fPay σ i j) (9 + i) 10 = σ (9 + i) 10 := by simp [fPay, fLower, up, hij]
  have e11 : (fPay σ i j) (9 + i) 11 = σ (9 + i) 11 := by simp [fPay, fLower, up, hij]
  have e16 : (fPay σ i j) (9 + i) 16 = σ (9 + i) 16 := by simp [fPay, fLower, up, hij]
  have e25 : (fPay σ i j) (25 + i) = σ (25 + i) := fPay_25 (by omega) (by omega) (by omega)
  have eS : fSum (fPay σ i j) i 3 = fSum σ i 3 := fSum_c e8 e25
  unfold jC
  rw [e0, e1, e2, e3, e5, e8, e9, e10, e11, e16, eS, e25]
  refine ⟨⟨g0, ?_, g2, g3, ?_, g8, g10, g11, g16, gp⟩, ?_, ?_, ?_, ?_, ?_, ?_, ?_⟩
  all_goals omega
theorem jc_paid {h b : Int} {σ : Sg} {i j : Nat} (hij : i ≠ j) (hi8 : i < 8) (hj8 : j < 8) (h1 : 0 ≤ σ (9 + i) 1) (h5 : 0 ≤ σ (9 + i) 5 ∧ σ (9 + i) 5 ≤ 20000) (hj : jC h b σ j) : jC h b (fPay σ i j) j := by
  have hji : j ≠ i := fun e => hij e.symm
  obtain ⟨⟨g0, g1, g2, g3, g5, g8, g10, g11, g16, gp⟩, P1, P2, P3, P4, P5, P6, P7⟩ := hj
  obtain ⟨c1, c2, c3, c4⟩ := payC_b (j := j) h1 h5 g2
  have e0 : (fPay σ i j) (9 + j) 0 = σ (9 + j) 0 := by simp [fPay, fLower, up, hji]
  have e1 : (fPay σ i j) (9 + j) 1 = σ (9 + j) 1 := by simp [fPay, fLower, up, hji]
  have e2 : (fPay σ i j) (9 + j) 2 = σ (9 + j) 2 - fPayC σ i j := by simp [fPay, fLower, up, hji]
  have e3 : (fPay σ i j) (9 + j) 3 = σ (9 + j) 3 := by simp [fPay, fLower, up, hji]
  have e5 : (fPay σ i j) (9 + j) 5 = σ (9 + j) 5 := by simp [fPay, fLower, up, hji]
  have e8 : (fPay σ i j) (9 + j) 8 = σ (9 + j) 8 := by simp [fPay, fLower, up, hji]
  have e9 : (fPay σ i j) (9 + j) 9 = σ (9 + j) 9 := by simp [fPay, fLower, up, hji]
  have e10 : (fPay σ i j) (9 + j) 10 = σ (9 + j) 10 := by simp [fPay, fLower, up, hji]
  have e11 : (fPay σ i j) (9 + j) 11 = σ (9 + j) 11 := by simp [fPay, fLower, up, hji]
  have e16 : (fPay σ i j) (9 + j) 16 = σ (9 + j) 16 := by simp [fPay, fLower, up, hji]
  have e25 : (fPay σ i j) (25 + j) = σ (25 + j) := fPay_25 (by omega) (by omega) (by omega)
  have eS : fSum (fPay σ i j) j 3 = fSum σ j 3 := fSum_c e8 e25
  unfold jC
  rw [e0, e1, e2, e3, e5, e8, e9, e10, e11, e16, eS, e25]
  refine ⟨⟨g0, g1, ?_, g3, g5, g8, g10, g11, g16, gp⟩, ?_, ?_, ?_, ?_, ?_, ?_, ?_⟩
  all_goals omega
theorem jc_roll {h b : Int} {σ : Sg} {i : Nat} (hd : ¬ σ (9 + i) 2 = 0) (hm : ¬ fMayRoll σ i = 0) (hi : jC h b σ i) : jC h b (fRoll σ i) i := by
  obtain ⟨⟨g0, g1, g2, g3, g5, g8, g10, g11, g16, gp⟩, P1, P2, P3, P4, P5, P6, P7⟩ := hi
  have h8 : σ (9 + i) 8 = 0 := by
    unfold fMayRoll at hm
    split at hm
    · rename_i h
      exact h.2.2
    · exact absurd rfl hm
  have eS0 : fSum σ i 3 = 0 := by
    rw [fSum3, h8]
    rfl
  have e0 : (fRoll σ i) (9 + i) 0 = σ (9 + i) 0 := by simp [fRoll, fParts, up]
  have e1 : (fRoll σ i) (9 + i) 1 = σ (9 + i) 1 := by simp [fRoll, fParts, up]
  have e2 : (fRoll σ i) (9 + i) 2 = 0 := by simp [fRoll, fParts, up]
  have e3 : (fRoll σ i) (9 + i) 3 = σ (9 + i) 3 := by simp [fRoll, fParts, up]
  have e5 : (fRoll σ i) (9 + i) 5 = σ (9 + i) 5 := by simp [fRoll, fParts, up]
  have e8 : (fRoll σ i) (9 + i) 8 = 3 := by simp [fRoll, fParts, up]
  have e9 : (fRoll σ i) (9 + i) 9 = σ (9 + i) 9 := by simp [fRoll, fParts, up]
  have e10 : (fRoll σ i) (9 + i) 10 = σ (9 + i) 10 := by simp [fRoll, fParts, up]
  have e11 : (fRoll σ i) (9 + i) 11 = σ (9 + i) 11 := by simp [fRoll, fParts, up]
  have e16 : (fRoll σ i) (9 + i) 16 = σ (9 + i) 16 := by simp [fRoll, fParts, up]
  have p0 : (fRoll σ i) (25 + i) 0 = σ (9 + i) 2 / 3 := by simp [fRoll, fParts, up]
  have p1 : (fRoll σ i) (25 + i) 1 = σ (9 + i) 2 / 3 := by simp [fRoll, fParts, up]
  have p2 : (fRoll σ i) (25 + i) 2 = σ (9 + i) 2 - σ (9 + i) 2 / 3 * 2 := by simp [fRoll, fParts, up]
  have eS : fSum (fRoll σ i) i 3 = σ (9 + i) 2 := by
    rw [fSum3, e8, p0, p1, p2, if_pos (by decide), if_pos (by decide), if_pos (by decide)]
    omega
  have gq : ∀ q, q < 3 → 0 ≤ (fRoll σ i) (25 + i) q := fun q hq => by
    rcases (by omega : q = 0 ∨ q = 1 ∨ q = 2) with rfl | rfl | rfl
    · rw [p0]; omega
    · rw [p1]; omega
    · rw [p2]; omega
  unfold jC
  rw [e0, e1, e2, e3, e5, e8, e9, e10, e11, e16, eS]
  refine ⟨⟨g0, g1, ?_, g3, g5, ?_, g10, g11, g16, gq⟩, ?_, ?_, ?_, ?_, ?_, ?_, ?_⟩
  all_goals omega
theorem jc_forget {h b : Int} {σ : Sg} {i : Nat} (hi : jC h b σ i) : jFa h (30000000 * h + 20000000) (b + 20020000) (fForget σ i) i := by
  obtain ⟨⟨g0, g1, g2, g3, g5, g8, g10, g11, g16, gp⟩, P1, P2, P3, P4, P5, P6, P7⟩ := hi
  have e0 : (fForget σ i) (9 + i) 0 = σ (9 + i) 0 := by simp [fForget, up]
  have e1 : (fForget σ i) (9 + i) 1 = σ (9 + i) 1 := by simp [fForget, up]
  have e2 : (fForget σ i) (9 + i) 2 = σ (9 + i) 2 := by simp [fForget, up]
  have e3 : (fForget σ i) (9 + i) 3 = σ (9 + i) 3 := by simp [fForget, up]
  have e5 : (fForget σ i) (9 + i) 5 = σ (9 + i) 5 := by simp [fForget, up]
  have e8 : (fForget σ i) (9 + i) 8 = σ (9 + i) 8 := by simp [fForget, up]
  have e9 : (fForget σ i) (9 + i) 9 = σ (9 + i) 9 := by simp [fForget, up]
  have e10 : (fForget σ i) (9 + i) 10 = σ (9 + i) 10 := by simp [fForget, up]
  have e11 : (fForget σ i) (9 + i) 11 = σ (9 + i) 11 := by simp [fForget, up]
  have e12 : (fForget σ i) (9 + i) 12 = -1 := by simp [fForget, up]
  have e13 : (fForget σ i) (9 + i) 13 = 0 := by simp [fForget, up]
  have e14 : (fForget σ i) (9 + i) 14 = 0 := by simp [fForget, up]
  have e15 : (fForget σ i) (9 + i) 15 = 100 := by simp [fForget, up]
  have e16 : (fForget σ i) (9 + i) 16 = 0 := by simp [fForget, up]
  have e25 : (fForget σ i) (25 + i) = σ (25 + i) := by
    funext z
    simp [fForget, up]
  have eS : fSum (fForget σ i) i 3 = fSum σ i 3 := fSum_c e8 e25
  unfold jFa
  rw [e0, e1, e2, e3, e5, e8, e9, e10, e11, e12, e13, e14, e15, e16, eS, e25]
  refine ⟨⟨g0, g1, g2, g3, g5, g8, g10, g11, ?_, ?_, ?_, ?_, ?_, gp⟩, ?_, ?_, ?_, ?_, fun hp => ?_, ?_, ?_⟩
  all_goals first | omega | (have := P5 hp; omega)
/-- all farmers at once -/
def aC (h b n : Int) (σ : Sg) : Prop := σ 0 2 = n ∧ ∀ i : Nat, i < 8 → (i : Int) < n → jC h b σ i
theorem a_coll {h b n : Int} {σ : Sg} {i j : Nat} (hi : i < 8) (hic : (i : Int) < n) (hj : j < 8) (hjc : (j : Int) < n) (ha : aC h b n σ) : aC h b n (fColl j σ i) := by
  unfold fColl
  split
  · exact ha
  · rename_i hij
    split
    · obtain ⟨a0, a1⟩ := ha
      have ci := a1 i hi hic
      have cj := a1 j hj hjc
      refine ⟨by rw [fPay_25 (by omega) (by omega) (by omega)]; exact a0, fun k hk hkc => ?_⟩
      by_cases e : k = i
      · subst e
        exact jc_payer hij hi hj cj.1.2.2.1 ci
      · by_cases e2 : k = j
        · subst e2
          exact jc_paid hij hi hj ci.1.2.1 ci.1.2.2.2.2.1 cj
        · exact jC_c (a1 k hk hkc) (fPay_25 (by omega) (by omega) (by omega)) (fPay_25 (by omega) (by omega) (by omega))
    · exact ha
theorem a_colls {h b n : Int} {σ : Sg} {j : Nat} (hn : n ≤ 8) (hj : j < 8) (hjc : (j : Int) < n) (ha : aC h b n σ) : ∀ k : Nat, (k : Int) ≤ n → aC h b n (itr (fColl j) σ k) := by
  intro k
  induction k with
  | zero => intro _; exact ha
  | succ k ih =>
    intro hk
    exact a_coll (by omega) (by omega) hj hjc (ih (by omega))
theorem a_rest {h b n : Int} {σ : Sg} {i : Nat} (hn : n ≤ 8) (hi : i < 8) (hic : (i : Int) < n) (ha : aC h b n σ) : aC h b n (fRest σ i) := by
  unfold fRest
  split
  · exact ha
  · rename_i hd
    split
    · exact a_colls hn hi hic ha _ (by rw [ha.1]; omega)
    · rename_i hm
      obtain ⟨a0, a1⟩ := ha
      have hr : ∀ r, r ≠ 9 + i → r ≠ 25 + i → fRoll σ i r = σ r := fun r h1 h2 => by
        rw [fRoll, up_r h1, up_r h1, up_r h2, fParts_r h2]
      refine ⟨by rw [hr 0 (by omega) (by omega)]; exact a0, fun k hk hkc => ?_⟩
      by_cases e : k = i
      · subst e
        exact jc_roll hd hm (a1 k hk hkc)
      · exact jC_c (a1 k hk hkc) (hr _ (by omega) (by omega)) (hr _ (by omega) (by omega))
theorem a_rests {h b n : Int} {σ : Sg} (hn : n ≤ 8) (ha : aC h b n σ) : ∀ k : Nat, (k : Int) ≤ n → aC h b n (itr fRest σ k) := by
  intro k
  induction k with
  | zero => intro _; exact ha
  | succ k ih =>
    intro hk
    exact a_rest hn (by omega) (by omega) (ih (by omega))
theorem itr_fC {f : Sg → Nat → Sg} (hf : fLoc f) (σ : Sg) {i n : Nat} (hi : i < 8) (hn : n ≤ 8) (h : i < n) {a1 b1 : Int} (hj : jC a1 b1 (f (itr f σ i) i) i) : jC a1 b1 (itr f σ n) i := jC_c hj (itr_row hf σ hi n hn h _ (Or.inl rfl)) (itr_row hf σ hi n hn h _ (Or.inr (Or.inr rfl)))
theorem inv_close {σ : Sg} (hI : jInv σ) (h4 : σ 0 4 = 4) (h3 : σ 0 3 < 20) : jInv (fClose σ) := by
  obtain ⟨hG, hC, hF, hZ⟩ := hI
  unfold cGl at hG
  have e0 : ∀ b, b ≠ 3 → b ≠ 4 → fClose σ 0 b = σ 0 b := fun b h1 h2 => by
    rw [fClose, up_b h2, up_b h1, fClose2_r (by decide)]
  have e3 : fClose σ 0 3 = σ 0 3 + 1 := by rw [fClose, up_b (by decide), up_s]
  have e4 : fClose σ 0 4 = 0 := by rw [fClose, up_s]
  have e2 : fClose σ 0 2 = σ 0 2 := e0 2 (by decide) (by decide)
  have er : ∀ r, r ≠ 0 → fClose σ r = fClose2 σ r := fun r hr => by rw [fClose, up_r hr, up_r hr]
  have ks : kN σ = 4 := by unfold kN; omega
  rw [ks] at hF
  have a0 : aC (hH (sN σ) 4) (bB (sN σ) 4) (σ 0 2) (fClose0 σ) := ⟨by rw [fClose0_r (by decide)], fun i hi hic => by
    unfold fClose0
    refine itr_fC locSettle _ hi (by omega) (by omega) (jc_settle (u := uU (sN σ) 4) ?_)
    exact jFa_c (hF i hi hic) (itr_at9 locSettle _ hi) (itr_at25 locSettle _ hi)⟩
  have a1 : aC (hH (sN σ) 4) (bB (sN σ) 4) (σ 0 2) (fClose1 σ) := a_rests (by omega) a0 _ (by omega)
  refine ⟨?_, fun c hc => ?_, fun i hi hic => ?_, fun i hi hic => ?_⟩
  · unfold cGl
    rw [e2, e3, e4]
    omega
  · have := hC c hc
    unfold cCrB at this ⊢
    rw [er (3 + c) (by omega), er (6 + c) (by omega), fClose2_r (by omega), fClose2_r (by omega)]
    exact this
  · rw [e2] at hic
    have hk : kN (fClose σ) = 0 := by unfold kN; rw [e4]; rfl
    have hs : sN (fClose σ) = sN σ + 1 := by unfold sN; rw [e3]; omega
    have hh : hH (sN σ + 1) 0 = hH (sN σ) 4 := by
      show ((sN σ + 1 : Nat) : Int) + 0 = (sN σ : Int) + 1
      omega
    have hu : uU (sN σ + 1) 0 = 30000000 * hH (sN σ) 4 + 20000000 := by
      show 30000000 * ((sN σ + 1 : Nat) : Int) + 20000000 + 0 = 30000000 * ((sN σ : Int) + 1) + 20000000
      omega
    have hb : bB (sN σ + 1) 0 = bB (sN σ) 4 + 20020000 := rfl
    rw [hk, hs, hh, hu, hb]
    refine jFa_c ?_ (er _ (by omega)) (er _ (by omega))
    unfold fClose2
    refine itr_f locForget _ hi (by omega) (by omega) (jc_forget ?_)
    exact jC_c (a1.2 i hi hic) (itr_at9 locForget _ hi) (itr_at25 locForget _ hi)
  · rw [e2] at hic
    have e : ∀ r, r = 9 + i ∨ r = 17 + i ∨ r = 25 + i → fClose σ r = σ r := fun r hr => by
      rw [er r (by omega), fClose2, itr_loc locForget _ _ _ (fun j hj => by omega), fClose1, itrR_hi (n := (σ 0 2).toNat) (k := i) (by rw [fClose0_r (by decide)]) (by omega) hi hr _ (Nat.le_refl _), fClose0_hi (by omega) hi hr]
    exact jZ_c (hZ i hi hic) (e _ (Or.inl rfl)) (e _ (Or.inr (Or.inl rfl))) (e _ (Or.inr (Or.inr rfl)))
theorem s_close1 {rf : Int} {σ : Sg} (hI : jInv σ) : gClose1 (mOf rf σ) = mOf 0 (fClose1 σ) := by
  have hG := hI.1
  unfold cGl at hG
  rw [gClose1, s_close0 hI, mR_06]
  exact (i_rest (n := σ 0 2) (by omega) ⟨by rw [fClose0_r (by decide)], ok_close0 (inv_bd hI)⟩ _ (by omega)).1
theorem s_close2 {rf : Int} {σ : Sg} (hI : jInv σ) : gClose2 (mOf rf σ) = mOf 0 (fClose2 σ) := by
  have hG := hI.1
  unfold cGl at hG
  rw [gClose2, s_close1 hI, mR_06]
  exact i_forget (n := σ 0 2) (by omega) (by rw [fClose1_r (by decide)]) _ (by omega)
theorem s_close {rf : Int} {σ : Sg} (hI : jInv σ) : gClose (mOf rf σ) = mOf 0 (fClose σ) := by
  rw [gClose, s_close2 hI, mR_01, mU_s, mU_k]
  rfl
theorem p_close {σ M : Sg} (h : JJ σ M)  : ((tOf (qClose M) M (gClose M)) 0 0 = hRes 1 (kClose σ) ∧ kClose σ ≤ 3) ∧ (kClose σ = 0 → iI (σ 0 3 + 1) = iI (rOf (qClose M) (M 0 1 + 1))) ∧ JJ (hSt (kClose σ) σ (fClose σ)) (tOf (qClose M) M (gClose M)) := by
  have hG := h.1.1
  unfold cGl at hG
  refine t_mk h (by unfold kClose; split <;> omega) (by decide) ?_ (fun h0 => ?_)
  · unfold qClose kClose hRes
    rw [q_stage h, q_season h]
    (repeat' split) <;> first | rfl | omega
  · unfold kClose at h0
    have b := if3_z h0
    obtain ⟨hI, rf, rfl⟩ := h
    rw [s_close hI]
    exact ⟨rfl, rfl, inv_close hI b.1 b.2, 0, rfl⟩
