/-! the tie: each call -/
theorem cSeq_z {a b : Nat} (h : cSeq a b = 0) : a = 0 ∧ b = 0 := by
  unfold cSeq at h
  split at h
  · exact ⟨by assumption, h⟩
  · exact absurd h (by assumption)
theorem if1_z {p : Prop} [Decidable p] (h : (if p then (1 : Nat) else 0) = 0) : ¬ p := by
  split at h
  · cases h
  · assumption
theorem if3_z {p : Prop} [Decidable p] (h : (if p then (0 : Nat) else 3) = 0) : p := by
  split at h
  · assumption
  · cases h
theorem hRes_z (mm : Nat) : hRes mm 0 = 0 := rfl
theorem hRes_n {mm k : Nat} (hm : mm = 1 ∨ mm = 2 ∨ mm = 3) (hk : k ≤ 3) (h : k ≠ 0) : hRes mm k ≠ 0 := by
  unfold hRes
  split
  · omega
  · omega
theorem t_mk {σ σ' M T : Sg} {q r r' : Int} {k mm : Nat} (hJ : JJ σ M) (hk : k ≤ 3) (hm : mm = 1 ∨ mm = 2 ∨ mm = 3) (hq : q = hRes mm k) (hok : k = 0 → r = r' ∧ T 0 0 = 0 ∧ JJ σ' T) : (tOf q M T 0 0 = hRes mm k ∧ k ≤ 3) ∧ (k = 0 → iI r = iI (rOf q r')) ∧ JJ (hSt k σ σ') (tOf q M T) := by
  by_cases h : k = 0
  · obtain ⟨h1, h2, h3⟩ := hok h
    subst h
    have hq0 : q = 0 := hq
    rw [tOf_0 hq0, rOf_0 hq0]
    exact ⟨⟨h2, hk⟩, fun _ => by rw [h1], h3⟩
  · have hn : q ≠ 0 := by rw [hq]; exact hRes_n hm hk h
    refine ⟨⟨by rw [tOf_nz hn, hq], hk⟩, fun h9 => absurd h9 h, ?_⟩
    rw [hSt, if_neg h]
    exact jj_no hJ hn
theorem t_qu {σ M : Sg} {q r r' : Int} {k : Nat} (hJ : JJ σ M) (hk : k ≤ 3) (hq : q = hRes 3 k) (hv : k = 0 → r = r') : (up M 0 0 q 0 0 = hRes 3 k ∧ k ≤ 3) ∧ (k = 0 → iI r = iI (rOf q r')) ∧ JJ (hSt k σ σ) (up M 0 0 q) := by
  refine ⟨⟨by rw [up_s, hq], hk⟩, fun h => ?_, ?_⟩
  · rw [hv h, rOf_0]
    rw [hq, h]; rfl
  · have e : hSt k σ σ = σ := by unfold hSt; split <;> rfl
    rw [e]
    exact q_rf hJ q
theorem cFarm_3 (σ : Sg) (n : Int) : cFarm σ n ≤ 3 := by unfold cFarm; split <;> omega
theorem e_farm {σ M : Sg} (hJ : JJ σ M) (n : Int) : qFarm M n = hRes 3 (cFarm σ n) := by
  unfold qFarm cFarm hRes
  rw [q_count hJ]
  (repeat' split) <;> first | rfl | omega
theorem e_setNeed (c s x : Int) : qSetNeed c s x = hRes 3 (kSetNeed c s x) := by
  unfold qSetNeed kSetNeed cSeq cCrop cRange hRes
  (repeat' split) <;> first | rfl | omega
theorem e_setCrop (c s x : Int) : qSetCrop c s x = hRes 3 (kSetCrop c s x) := by
  unfold qSetCrop kSetCrop cSeq cCrop cRange hRes
  (repeat' split) <;> first | rfl | omega
theorem cSeq_3 {a b : Nat} (ha : a ≤ 3) (hb : b ≤ 3) : cSeq a b ≤ 3 := by unfold cSeq; split <;> assumption
theorem cCrop_3 (c : Int) : cCrop c ≤ 3 := by unfold cCrop; split <;> omega
theorem cRange_3 (v a b : Int) : cRange v a b ≤ 3 := by unfold cRange; split <;> omega
theorem if3_3 {p : Prop} [Decidable p] : (if p then (0 : Nat) else 3) ≤ 3 := by split <;> omega
theorem if1_3 {p : Prop} [Decidable p] : (if p then (1 : Nat) else 0) ≤ 3 := by split <;> omega
theorem p_setNeed {σ M : Sg} (h : JJ σ M) (y0 y1 y2 : Int) (hy0 : nB y0) (hy1 : nB y1) (hy2 : nB y2) : ((tOf (qSetNeed y0 y1 y2) M (up (up M 0 0 0) 1 (4 * y0 + y1).toNat y2)) 0 0 = hRes 3 (kSetNeed y0 y1 y2) ∧ kSetNeed y0 y1 y2 ≤ 3) ∧ (kSetNeed y0 y1 y2 = 0 → iI (σ (6 + y0.toNat) y1.toNat) = iI (rOf (qSetNeed y0 y1 y2) (M 1 (4 * y0 + y1).toNat))) ∧ JJ (hSt (kSetNeed y0 y1 y2) σ (up σ (6 + y0.toNat) y1.toNat y2)) (tOf (qSetNeed y0 y1 y2) M (up (up M 0 0 0) 1 (4 * y0 + y1).toNat y2)) := by
  refine t_mk h (cSeq_3 (cCrop_3 _) (cSeq_3 if1_3 (cRange_3 _ _ _))) (by decide) (e_setNeed _ _ _) (fun h0 => ?_)
  obtain ⟨a1, h1⟩ := cSeq_z h0
  obtain ⟨a2, a3⟩ := cSeq_z h1
  have b1 := cCrop_0 a1
  have b2 := if1_z a2
  have b3 := cRange_0 a3
  obtain ⟨hI, rf, rfl⟩ := h
  have e : (4 * y0 + y1).toNat = 4 * y0.toNat + y1.toNat := by omega
  rw [e, mR_1 (by omega) (by omega), mOf_rf, mU_N (by omega) (by omega)]
  refine ⟨rfl, rfl, inv_crop hI (fun r hr => up_r (by omega)) (fun c hc => ?_), 0, rfl⟩
  have := hI.2.1 c hc
  unfold cCrB at this ⊢
  rw [up_r (r := 3 + c) (by omega)]
  refine ⟨this.1, this.2.1, fun k hk => ?_⟩
  by_cases e1 : 6 + c = 6 + y0.toNat ∧ k = y1.toNat
  · rw [e1.1, e1.2, up_s]; exact b3
  · have : up σ (6 + y0.toNat) y1.toNat y2 (6 + c) k = σ (6 + c) k := by
      by_cases e2 : k = y1.toNat
      · exact up_a (fun h => e1 ⟨h, e2⟩)
      · exact up_b e2
    rw [this]
    exact (hI.2.1 c hc).2.2 k hk
theorem p_setCrop {σ M : Sg} (h : JJ σ M) (y0 y1 y2 : Int) (hy0 : nB y0) (hy1 : nB y1) (hy2 : nB y2) : ((tOf (qSetCrop y0 y1 y2) M (up (up (up M 0 0 0) 2 y0.toNat y1) 3 y0.toNat y2)) 0 0 = hRes 3 (kSetCrop y0 y1 y2) ∧ kSetCrop y0 y1 y2 ≤ 3) ∧ (kSetCrop y0 y1 y2 = 0 → iI (σ (3 + y0.toNat) 1) = iI (rOf (qSetCrop y0 y1 y2) (M 2 y0.toNat))) ∧ JJ (hSt (kSetCrop y0 y1 y2) σ (up (up σ (3 + y0.toNat) 1 y1) (3 + y0.toNat) 2 y2)) (tOf (qSetCrop y0 y1 y2) M (up (up (up M 0 0 0) 2 y0.toNat y1) 3 y0.toNat y2)) := by
  refine t_mk h (cSeq_3 (cCrop_3 _) (cSeq_3 (cRange_3 _ _ _) (cRange_3 _ _ _))) (by decide) (e_setCrop _ _ _) (fun h0 => ?_)
  obtain ⟨a1, h1⟩ := cSeq_z h0
  obtain ⟨a2, a3⟩ := cSeq_z h1
  have b1 := cCrop_0 a1
  have b2 := cRange_0 a2
  have b3 := cRange_0 a3
  obtain ⟨hI, rf, rfl⟩ := h
  rw [mR_2 (by omega), mOf_rf, mU_C1 (by omega), mU_C2 (by omega)]
  refine ⟨rfl, rfl, inv_crop hI (fun r hr => by rw [up_r (by omega), up_r (by omega)]) (fun c hc => ?_), 0, rfl⟩
  have := hI.2.1 c hc
  unfold cCrB at this ⊢
  rw [up_r (r := 6 + c) (by omega), up_r (r := 6 + c) (by omega)]
  by_cases e1 : c = y0.toNat
  · subst e1
    rw [up_s, up_b (by decide), up_s]
    exact ⟨by omega, b3, this.2.2⟩
  · rw [up_r (r := 3 + c) (by omega), up_r (r := 3 + c) (by omega)]
    exact this
/-- what a call over one farmer's rows asks -/
theorem farm_in {σ : Sg} (h : jInv σ) {n : Int} (hn : cFarm σ n = 0) : n.toNat < 8 ∧ ((n.toNat : Nat) : Int) < σ 0 2 ∧ ((n.toNat : Nat) : Int) = n := by
  have b := cFarm_0 hn
  have := h.1.1
  omega
theorem p_debt {σ M : Sg} (h : JJ σ M) (y0 : Int) (hy0 : nB y0) : ((up M 0 0 (qFarm M y0)) 0 0 = hRes 3 (cFarm σ y0) ∧ cFarm σ y0 ≤ 3) ∧ (cFarm σ y0 = 0 → iI (σ (9 + y0.toNat) 2) = iI (rOf (qFarm M y0) (M 6 y0.toNat))) ∧ JJ (hSt (cFarm σ y0) σ (σ)) (up M 0 0 (qFarm M y0)) := by
  refine t_qu h (cFarm_3 _ _) (e_farm h y0) (fun h0 => ?_)
  obtain ⟨hI, rf, rfl⟩ := h
  obtain ⟨i8, ic, ie⟩ := farm_in hI h0
  rw [mR_6 i8]
theorem p_instalments {σ M : Sg} (h : JJ σ M) (y0 : Int) (hy0 : nB y0) : ((up M 0 0 (qFarm M y0)) 0 0 = hRes 3 (cFarm σ y0) ∧ cFarm σ y0 ≤ 3) ∧ (cFarm σ y0 = 0 → iI (σ (9 + y0.toNat) 8) = iI (rOf (qFarm M y0) (M 11 y0.toNat))) ∧ JJ (hSt (cFarm σ y0) σ (σ)) (up M 0 0 (qFarm M y0)) := by
  refine t_qu h (cFarm_3 _ _) (e_farm h y0) (fun h0 => ?_)
  obtain ⟨hI, rf, rfl⟩ := h
  obtain ⟨i8, ic, ie⟩ := farm_in hI h0
  rw [mR_11 i8]
theorem p_purse {σ M : Sg} (h : JJ σ M) (y0 : Int) (hy0 : nB y0) : ((up M 0 0 (qFarm M y0)) 0 0 = hRes 3 (cFarm σ y0) ∧ cFarm σ y0 ≤ 3) ∧ (cFarm σ y0 = 0 → iI (σ (9 + y0.toNat) 1) = iI (rOf (qFarm M y0) (M 5 y0.toNat))) ∧ JJ (hSt (cFarm σ y0) σ (σ)) (up M 0 0 (qFarm M y0)) := by
  refine t_qu h (cFarm_3 _ _) (e_farm h y0) (fun h0 => ?_)
  obtain ⟨hI, rf, rfl⟩ := h
  obtain ⟨i8, ic, ie⟩ := farm_in hI h0
  rw [mR_5 i8]
theorem p_called {σ M : Sg} (h : JJ σ M) (y0 : Int) (hy0 : nB y0) : ((up M 0 0 (qFarm M y0)) 0 0 = hRes 3 (cFarm σ y0) ∧ cFarm σ y0 ≤ 3) ∧ (cFarm σ y0 = 0 → iI (σ (9 + y0.toNat) 5) = iI (rOf (qFarm M y0) (M 18 y0.toNat))) ∧ JJ (hSt (cFarm σ y0) σ (σ)) (up M 0 0 (qFarm M y0)) := by
  refine t_qu h (cFarm_3 _ _) (e_farm h y0) (fun h0 => ?_)
  obtain ⟨hI, rf, rfl⟩ := h
  obtain ⟨i8, ic, ie⟩ := farm_in hI h0
  rw [mR_18 i8]
theorem p_charged {σ M : Sg} (h : JJ σ M) (y0 : Int) (hy0 : nB y0) : ((up M 0 0 (qFarm M y0)) 0 0 = hRes 3 (cFarm σ y0) ∧ cFarm σ y0 ≤ 3) ∧ (cFarm σ y0 = 0 → iI (σ (9 + y0.toNat) 4) = iI (rOf (qFarm M y0) (M 20 y0.toNat))) ∧ JJ (hSt (cFarm σ y0) σ (σ)) (up M 0 0 (qFarm M y0)) := by
  refine t_qu h (cFarm_3 _ _) (e_farm h y0) (fun h0 => ?_)
  obtain ⟨hI, rf, rfl⟩ := h
  obtain ⟨i8, ic, ie⟩ := farm_in hI h0
  rw [mR_20 i8]
theorem p_grain {σ M : Sg} (h : JJ σ M) (y0 y1 : Int) (hy0 : nB y0) (hy1 : nB y1) : ((up M 0 0 (qFarm M y0)) 0 0 = hRes 3 (cFarm σ y0) ∧ cFarm σ y0 ≤ 3) ∧ (cFarm σ y0 = 0 → iI (if y1 = 0 then σ (9 + y0.toNat) 9 else σ (9 + y0.toNat) 10) = iI (rOf (qFarm M y0) (if y1 = 0 then M 8 y0.toNat else M 9 y0.toNat))) ∧ JJ (hSt (cFarm σ y0) σ (σ)) (up M 0 0 (qFarm M y0)) := by
  refine t_qu h (cFarm_3 _ _) (e_farm h y0) (fun h0 => ?_)
  obtain ⟨hI, rf, rfl⟩ := h
  obtain ⟨i8, ic, ie⟩ := farm_in hI h0
  rw [mR_8 i8, mR_9 i8]
theorem need_tie {rf : Int} {σ : Sg} {c : Int} (hc : 0 ≤ c ∧ c < 3) : ∀ n : Nat, n ≤ 4 → gNeed (mOf rf σ) c n = fNeed σ c.toNat n := by
  intro n
  induction n with
  | zero => intro _; rfl
  | succ k ih =>
    intro hk
    rw [gNeed, fNeed, ih (by omega), show (4 * c + (k : Int)).toNat = 4 * c.toNat + k by omega, mR_1 (by omega) (by omega)]
theorem limit_tie {rf : Int} {σ : Sg} {i : Nat} (hi : i < 8) (hc : (i : Int) < σ 0 2) (h12 : -1 ≤ σ (9 + i) 12 ∧ σ (9 + i) 12 < 3) : gLimit (mOf rf σ) (i : Int) = fLimit σ i := by
  rw [gLimit, gLim0, fLimit, Int.toNat_natCast, mR_13 hi hc, mR_14 hi, mR_02]
  by_cases h : σ (9 + i) 12 = -1
  · rw [if_pos h, if_pos h, Int.zero_mul]
  · rw [if_neg h, if_neg h, need_tie (by omega) _ (by have := mn_le1 4 (σ 0 4 + 1); omega)]
    rfl
theorem p_limit {σ M : Sg} (h : JJ σ M) (y0 : Int) (hy0 : nB y0) : ((up M 0 0 (qFarm M y0)) 0 0 = hRes 3 (cFarm σ y0) ∧ cFarm σ y0 ≤ 3) ∧ (cFarm σ y0 = 0 → iI (fLimit σ y0.toNat) = iI (rOf (qFarm M y0) (gLimit M y0))) ∧ JJ (hSt (cFarm σ y0) σ (σ)) (up M 0 0 (qFarm M y0)) := by
  refine t_qu h (cFarm_3 _ _) (e_farm h y0) (fun h0 => ?_)
  obtain ⟨hI, rf, rfl⟩ := h
  obtain ⟨i8, ic, ie⟩ := farm_in hI h0
  have e := limit_tie (rf := rf) i8 ic ((inv_bd hI).2.2 _ i8).2.2.2.2.2.2.2.2.1
  rw [ie] at e
  exact e.symm
theorem p_owes {σ M : Sg} (h : JJ σ M) (y0 : Int) (hy0 : nB y0) : ((up M 0 0 (qFarm M y0)) 0 0 = hRes 3 (cFarm σ y0) ∧ cFarm σ y0 ≤ 3) ∧ (cFarm σ y0 = 0 → iI (σ (9 + y0.toNat) 2 + σ (9 + y0.toNat) 3 + fSum σ y0.toNat 3) = iI (rOf (qFarm M y0) (gOwes M y0 (M 11 y0.toNat).toNat))) ∧ JJ (hSt (cFarm σ y0) σ (σ)) (up M 0 0 (qFarm M y0)) := by
  refine t_qu h (cFarm_3 _ _) (e_farm h y0) (fun h0 => ?_)
  obtain ⟨hI, rf, rfl⟩ := h
  obtain ⟨i8, ic, ie⟩ := farm_in hI h0
  have g8 := ((inv_bd hI).2.2 _ i8).2.2.2.2.2.1
  have e0 : (3 * y0 + ((0 : Nat) : Int)).toNat = 3 * y0.toNat + 0 := by omega
  have e1 : (3 * y0 + ((1 : Nat) : Int)).toNat = 3 * y0.toNat + 1 := by omega
  have e2 : (3 * y0 + ((2 : Nat) : Int)).toNat = 3 * y0.toNat + 2 := by omega
  rw [mR_11 i8, fSum3]
  rcases (by omega : σ (9 + y0.toNat) 8 = 0 ∨ σ (9 + y0.toNat) 8 = 1 ∨ σ (9 + y0.toNat) 8 = 2 ∨ σ (9 + y0.toNat) 8 = 3) with h8 | h8 | h8 | h8 <;> rw [h8]
  · show _ = mOf rf σ 6 y0.toNat + mOf rf σ 10 y0.toNat
    rw [mR_6 i8, mR_10 i8, if_neg (by decide), if_neg (by decide), if_neg (by decide)]
    omega
  · show _ = mOf rf σ 6 y0.toNat + mOf rf σ 10 y0.toNat + mOf rf σ 12 (3 * y0 + ((0 : Nat) : Int)).toNat
    rw [e0, mR_12 i8 (by decide), h8, mR_6 i8, mR_10 i8, if_neg (by decide), if_neg (by decide), if_pos (by decide), show pIx 1 0 = 2 from rfl]
    omega
  · show _ = mOf rf σ 6 y0.toNat + mOf rf σ 10 y0.toNat + mOf rf σ 12 (3 * y0 + ((0 : Nat) : Int)).toNat + mOf rf σ 12 (3 * y0 + ((1 : Nat) : Int)).toNat
    rw [e0, e1, mR_12 i8 (by decide), mR_12 i8 (by decide), h8, mR_6 i8, mR_10 i8, if_neg (by decide), if_pos (by decide), if_pos (by decide), show pIx 2 0 = 1 from rfl, show pIx 2 1 = 2 from rfl]
    omega
  · show _ = mOf rf σ 6 y0.toNat + mOf rf σ 10 y0.toNat + mOf rf σ 12 (3 * y0 + ((0 : Nat) : Int)).toNat + mOf rf σ 12 (3 * y0 + ((1 : Nat) : Int)).toNat + mOf rf σ 12 (3 * y0 + ((2 : Nat) : Int)).toNat
    rw [e0, e1, e2, mR_12 i8 (by decide), mR_12 i8 (by decide), mR_12 i8 (by decide), h8, mR_6 i8, mR_10 i8, if_pos (by decide), if_pos (by decide), if_pos (by decide), show pIx 3 0 = 0 from rfl, show pIx 3 1 = 1 from rfl, show pIx 3 2 = 2 from rfl]
    omega
theorem p_repaid {σ M : Sg} (h : JJ σ M) (y0 y1 : Int) (hy0 : nB y0) (hy1 : nB y1) : ((tOf (qRepaid M y0 y1) M (up M 0 0 0)) 0 0 = hRes 3 (kRepaid σ y0 y1) ∧ kRepaid σ y0 y1 ≤ 3) ∧ (kRepaid σ y0 y1 = 0 → iI (σ (17 + y0.toNat) y1.toNat) = iI (rOf (qRepaid M y0 y1) (M 19 (5 * y0 + y1).toNat))) ∧ JJ (hSt (kRepaid σ y0 y1) σ (σ)) (tOf (qRepaid M y0 y1) M (up M 0 0 0)) := by
  refine t_mk h (cSeq_3 (cFarm_3 _ _) (cRange_3 _ _ _)) (by decide) ?_ (fun h0 => ?_)
  · unfold qRepaid kRepaid cSeq cFarm cRange hRes
    rw [q_count h]
    (repeat' split) <;> first | rfl | omega
  · obtain ⟨a1, a2⟩ := cSeq_z h0
    have b2 := cRange_0 a2
    obtain ⟨hI, rf, rfl⟩ := h
    obtain ⟨i8, ic, ie⟩ := farm_in hI a1
    rw [show (5 * y0 + y1).toNat = 5 * y0.toNat + y1.toNat by omega, mR_19 i8 (by omega), mOf_rf]
    exact ⟨rfl, rfl, hI, 0, rfl⟩
