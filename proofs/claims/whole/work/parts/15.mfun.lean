/-! what the reference's methods do to its state -/
def gIn (v a b : Int) : Int := if a ≤ v ∧ v ≤ b then 1 else 0
def gNz (q : Int) : Int := if q = 0 then 0 else 1
theorem gIn_0 (v a b : Int) : gIn v a b = 0 ↔ ¬ (a ≤ v ∧ v ≤ b) := by unfold gIn; split <;> simp_all
theorem gIn_nB (v a b : Int) : nB (gIn v a b) := by unfold gIn; split <;> decide
theorem gNz_nB (q : Int) : nB (gNz q) := by unfold gNz; split <;> decide
def tOf (q : Int) (M T : Sg) : Sg := if q = 0 then T else up M 0 0 q
def rOf (q r : Int) : Int := if q = 0 then r else 0
theorem tOf_0 {q : Int} {M T : Sg} (h : q = 0) : tOf q M T = T := by rw [tOf, if_pos h]
theorem tOf_n {q k : Int} {M T : Sg} (h : q = k) (hk : k ≠ 0) : tOf q M T = up M 0 0 k := by rw [tOf, if_neg (by rw [h]; exact hk), h]
theorem rOf_0 {q r : Int} (h : q = 0) : rOf q r = r := by rw [rOf, if_pos h]
theorem rOf_n {q k r : Int} (h : q = k) (hk : k ≠ 0) : rOf q r = 0 := by rw [rOf, if_neg (by rw [h]; exact hk)]
def gLower (M : Sg) (f x src : Int) : Sg := up (up M 6 f.toNat (M 6 f.toNat - x)) 19 (5 * f + src).toNat (M 19 (5 * f + src).toNat + x)
def gCome (M : Sg) (f x src : Int) : Sg := up (gLower M f (mn (M 6 f.toNat) x) src) 5 f.toNat (M 5 f.toNat + (x - mn (M 6 f.toNat) x))
def gCharge (M : Sg) (f x : Int) : Sg := up (up M 6 f.toNat (M 6 f.toNat + x)) 20 f.toNat (M 20 f.toNat + x)
def gClear (M : Sg) (f : Int) : Sg := up (up (up (up (up M 13 f.toNat (-1)) 14 f.toNat 0) 15 f.toNat 0) 16 f.toNat 0) 17 f.toNat 100
def gNeed (M : Sg) (c : Int) : Nat → Int
  | 0 => 0
  | k + 1 => gNeed M c k + M 1 (4 * c + k).toNat
def gLim0 (M : Sg) (f : Int) : Int := if M 13 f.toNat = -1 then 0 else gNeed M (M 13 f.toNat) (mn 4 (M 0 2 + 1)).toNat
def gLimit (M : Sg) (f : Int) : Int := gLim0 M f * M 14 f.toNat
def gWhole (M : Sg) (f : Int) : Int := M 14 f.toNat * M 3 (M 13 f.toNat).toNat
def gHarvest0 (M : Sg) (f : Int) : Sg := up (up M 8 f.toNat (M 8 f.toNat + gWhole M f * M 17 f.toNat / 100)) 7 f.toNat (M 13 f.toNat)
def gHarvest (M : Sg) (f : Int) : Sg := if M 17 f.toNat < M 16 f.toNat then gCome (gHarvest0 M f) f (gWhole M f * M 2 (M 13 f.toNat).toNat * (M 16 f.toNat - M 17 f.toNat) / 100) 1 else gHarvest0 M f
def gHStep (M : Sg) (k : Nat) : Sg := if M 13 k = -1 then M else gHarvest M k
def gIStep (M : Sg) (k : Nat) : Sg := gCharge M k (M 6 k * 2 / 100)
def qSetNeed (c s x : Int) : Int := if (0 ≤ c ∧ c ≤ 2) ∧ 0 ≤ s ∧ s ≤ 3 then (if 0 ≤ x ∧ x ≤ 100000 then 0 else 2) else 1
def qSetCrop (c x n : Int) : Int := if 0 ≤ c ∧ c ≤ 2 then (if (1 ≤ x ∧ x ≤ 5000) ∧ 0 ≤ n ∧ n ≤ 100 then 0 else 2) else 1
def qAdd (M : Sg) (g : Int) : Int := if 0 ≤ g ∧ g ≤ 2 then (if M 0 6 = 8 then 2 else 0) else 1
def qFarm (M : Sg) (f : Int) : Int := if 0 ≤ f ∧ f ≤ M 0 6 - 1 then 0 else 1
def qPlant (M : Sg) (f c h : Int) : Int := if (0 ≤ f ∧ f ≤ M 0 6 - 1) ∧ 0 ≤ c ∧ c ≤ 2 then (if 1 ≤ h ∧ h ≤ 50 then (if M 0 2 = 0 ∧ M 13 f.toNat = -1 ∧ (M 8 f.toNat = 0 ∨ M 7 f.toNat = c) then 0 else 3) else 2) else 1
def qCover (M : Sg) (f x : Int) : Int := if 0 ≤ f ∧ f ≤ M 0 6 - 1 then (if 1 ≤ x ∧ x ≤ 90 then (if M 0 2 = 0 ∧ ¬ M 13 f.toNat = -1 then 0 else 3) else 2) else 1
def qDraw (M : Sg) (f x : Int) : Int := if 0 ≤ f ∧ f ≤ M 0 6 - 1 then (if 1 ≤ x ∧ x ≤ 100000000 then (if M 0 2 < 4 ∧ M 15 f.toNat + x ≤ gLimit M f then 0 else 3) else 2) else 1
def qYield (M : Sg) (f x : Int) : Int := if 0 ≤ f ∧ f ≤ M 0 6 - 1 then (if 0 ≤ x ∧ x ≤ 200 then (if M 0 2 = 4 then 3 else 0) else 2) else 1
def qNext (M : Sg) : Int := if M 0 2 = 4 then 1 else 0
def gNext0 (M : Sg) : Sg := itr gIStep (up (up M 0 0 0) 0 2 (M 0 2 + 1)) (M 0 6).toNat
def gNext (M : Sg) : Sg := if M 0 2 + 1 = 4 then itr gHStep (gNext0 M) (M 0 6).toNat else gNext0 M
def qPledge (M : Sg) (f u : Int) : Int := if 0 ≤ f ∧ f ≤ M 0 6 - 1 then (if 1 ≤ u ∧ u ≤ 1000000 then (if u ≤ M 8 f.toNat - M 9 f.toNat then 0 else 3) else 2) else 1
def gPr (M : Sg) (f : Int) : Int := M 2 (M 7 f.toNat).toNat
def gPledge (M : Sg) (f u : Int) : Sg := gCome (up (up (up M 0 0 0) 9 f.toNat (M 9 f.toNat + u)) 10 f.toNat (M 10 f.toNat + u * gPr M f * 60 / 100)) f (u * gPr M f * 60 / 100) 2
def qSell (M : Sg) (f u : Int) : Int := if 0 ≤ f ∧ f ≤ M 0 6 - 1 then (if 1 ≤ u ∧ u ≤ 1000000 then (if M 8 f.toNat < u then 3 else 0) else 2) else 1
def gSome (M : Sg) (f u : Int) : Int := mn (M 8 f.toNat - M 9 f.toNat) u
def gLow (M : Sg) (f u : Int) : Int := mn (M 10 f.toNat) ((u - gSome M f u) * gPr M f)
def gSell1 (M : Sg) (f u : Int) : Sg := gCome (up M 0 0 0) f (gSome M f u * gPr M f) 3
def gSell2 (M : Sg) (f u : Int) : Sg := gCome (up (gSell1 M f u) 10 f.toNat (M 10 f.toNat - gLow M f u)) f ((u - gSome M f u) * gPr M f - gLow M f u) 3
def gSell3 (M : Sg) (f u : Int) : Sg := up (up (gSell2 M f u) 8 f.toNat (M 8 f.toNat - u)) 9 f.toNat (M 9 f.toNat - (u - gSome M f u))
def gSell (M : Sg) (f u : Int) : Sg := if M 9 f.toNat - (u - gSome M f u) = 0 then up (gCharge (gSell3 M f u) f (M 10 f.toNat - gLow M f u)) 10 f.toNat 0 else gSell3 M f u
def qRepay (M : Sg) (f x : Int) : Int := if 0 ≤ f ∧ f ≤ M 0 6 - 1 then (if 1 ≤ x ∧ x ≤ 100000000 then (if x ≤ M 6 f.toNat ∧ x ≤ M 5 f.toNat then 0 else 3) else 2) else 1
def qRepaid (M : Sg) (f x : Int) : Int := if 0 ≤ f ∧ f ≤ M 0 6 - 1 then (if 0 ≤ x ∧ x ≤ 4 then 0 else 2) else 1
def gShift (M : Sg) (f : Int) : Nat → Sg
  | 0 => M
  | j + 1 => up (gShift M f j) 12 (3 * f + (j + 1) - 1).toNat (gShift M f j 12 (3 * f + (j + 1)).toNat)
theorem gShift_r {M : Sg} {f : Int} {r : Nat} (h : r ≠ 12) : ∀ j : Nat, gShift M f j r = M r := by
  intro j
  induction j with
  | zero => rfl
  | succ j ih =>
    rw [gShift]
    funext b
    rw [up_a h, ih]
def gSettle0 (M : Sg) (f : Int) : Sg := if 0 < M 11 f.toNat then up (gShift (up M 6 f.toNat (M 6 f.toNat + M 12 (3 * f).toNat)) f ((M 11 f.toNat).toNat - 1)) 11 f.toNat (M 11 f.toNat - 1) else M
def gSettle (M : Sg) (f : Int) : Sg := gLower (up (gSettle0 M f) 5 f.toNat (M 5 f.toNat - mn (gSettle0 M f 6 f.toNat) (M 5 f.toNat))) f (mn (gSettle0 M f 6 f.toNat) (M 5 f.toNat)) 0
def gRoll (M : Sg) (f : Int) : Sg := up (up (up (up (up M 12 (3 * f).toNat (M 6 f.toNat / 3)) 12 (3 * f + 1).toNat (M 6 f.toNat / 3)) 12 (3 * f + 2).toNat (M 6 f.toNat - 2 * (M 6 f.toNat / 3))) 11 f.toNat 3) 6 f.toNat 0
def gCallC (M : Sg) (k : Nat) (f : Int) : Int := mn (mn (20000 - M 18 k) (M 5 k)) (M 6 f.toNat)
def gPay (f : Int) (M : Sg) (k : Nat) : Sg := if (k : Int) = f then M else if M 4 k = M 4 f.toNat then gLower (up (up M 5 k (M 5 k - gCallC M k f)) 18 k (M 18 k + gCallC M k f)) f (gCallC M k f) 4 else M
def gCall (M : Sg) (f : Int) : Sg := itr (gPay f) M (M 0 6).toNat
def qClose (M : Sg) : Int := if M 0 2 = 4 ∧ ¬ M 0 1 = 20 then 0 else 1
def gS1 (M : Sg) (k : Nat) : Sg := up (gSettle M k) 18 k 0
def gS2 (M : Sg) (k : Nat) : Sg := if 0 < M 6 k then (if ¬ M 13 k = -1 ∧ M 17 k < 60 ∧ M 11 k = 0 then gRoll M k else gCall M k) else M
def gS3 (M : Sg) (k : Nat) : Sg := gClear M k
def gClose0 (M : Sg) : Sg := itr gS1 (up M 0 0 0) (M 0 6).toNat
def gClose1 (M : Sg) : Sg := itr gS2 (gClose0 M) (M 0 6).toNat
def gClose2 (M : Sg) : Sg := itr gS3 (gClose1 M) (M 0 6).toNat
def gClose (M : Sg) : Sg := up (up (gClose2 M) 0 1 (M 0 1 + 1)) 0 2 0
def gOwes (M : Sg) (f : Int) : Nat → Int
  | 0 => M 6 f.toNat + M 10 f.toNat
  | k + 1 => gOwes M f k + M 12 (3 * f + k).toNat
theorem gMin_eq {x y v : Int} (h : v = y ∧ y ≤ x ∨ v = x ∧ x ≤ y) : mn x y = v := by unfold mn; split <;> omega
/-- the bounds of the reference's numbers -/
def mFa (M : Sg) (i : Nat) : Prop := (0 ≤ M 5 i ∧ M 5 i ≤ 2147483647) ∧ (0 ≤ M 6 i ∧ M 6 i ≤ 2147483647) ∧ (0 ≤ M 7 i ∧ M 7 i < 3) ∧ (0 ≤ M 9 i ∧ M 9 i ≤ M 8 i ∧ M 8 i ≤ 300000) ∧ (0 ≤ M 10 i ∧ M 10 i ≤ 2147483647) ∧ (0 ≤ M 11 i ∧ M 11 i ≤ 3) ∧ (-1 ≤ M 13 i ∧ M 13 i < 3) ∧ (0 ≤ M 14 i ∧ M 14 i ≤ 50) ∧ (0 ≤ M 15 i ∧ M 15 i ≤ 20000000) ∧ (0 ≤ M 16 i ∧ M 16 i ≤ 90) ∧ (0 ≤ M 17 i ∧ M 17 i ≤ 200)
def mGl (M : Sg) : Prop := (0 ≤ M 0 6 ∧ M 0 6 ≤ 8) ∧ (0 ≤ M 0 1 ∧ M 0 1 ≤ 20) ∧ (0 ≤ M 0 2 ∧ M 0 2 ≤ 4)
def mCr (M : Sg) : Prop := (∀ c, c < 3 → (0 ≤ M 2 c ∧ M 2 c ≤ 5000) ∧ (0 ≤ M 3 c ∧ M 3 c ≤ 100)) ∧ ∀ q, q < 12 → 0 ≤ M 1 q ∧ M 1 q ≤ 100000
def mBd (M : Sg) : Prop := mGl M ∧ mCr M ∧ ∀ i, i < 8 → mFa M i
theorem gNeed_b {M : Sg} {c : Int} (hc : 0 ≤ c ∧ c < 3) (h : ∀ q, q < 12 → 0 ≤ M 1 q ∧ M 1 q ≤ 100000) : ∀ n : Nat, n ≤ 4 → 0 ≤ gNeed M c n ∧ gNeed M c n ≤ 100000 * n := by
  intro n
  induction n with
  | zero => intro _; exact ⟨Int.le_refl 0, by simp [gNeed]⟩
  | succ k ih =>
    intro hk
    obtain ⟨a1, a2⟩ := ih (by omega)
    obtain ⟨b1, b2⟩ := h (4 * c + k).toNat (by omega)
    unfold gNeed
    exact ⟨by omega, by push_cast; omega⟩
theorem gLimit_b {M : Sg} (h : mBd M) {f : Int} (h0 : 0 ≤ f) (h8 : f < 8) : 0 ≤ gLimit M f ∧ gLimit M f ≤ 20000000 := by
  obtain ⟨-, -, -, -, -, -, p1, p2, -⟩ := h.2.2 f.toNat (by omega)
  have e : 0 ≤ gLim0 M f ∧ gLim0 M f ≤ 400000 := by
    unfold gLim0
    split
    · omega
    · have h4 : (mn 4 (M 0 2 + 1)).toNat ≤ 4 := by have := mn_le1 4 (M 0 2 + 1); omega
      have := gNeed_b (M := M) (c := M 13 f.toNat) (by omega) h.2.1.2 _ h4
      omega
  have := mulB e p2
  unfold gLimit
  omega
theorem gIn_01 (v a b : Int) : gIn v a b = 0 ∨ gIn v a b = 1 := by unfold gIn; split <;> simp
theorem gNz_01 (q : Int) : gNz q = 0 ∨ gNz q = 1 := by unfold gNz; split <;> simp
theorem z01 (v : Int) (h : v = 0 ∨ v = 1) : narrow .boolean (.int (iI v)) = .int (iI v) := by rcases h with rfl | rfl <;> decide
theorem gNz_0 (q : Int) : gNz q = 0 ↔ q = 0 := by unfold gNz; split <;> simp_all
theorem qFarm_0 (M : Sg) (f : Int) : qFarm M f = 0 ↔ 0 ≤ f ∧ f ≤ M 0 6 - 1 := by unfold qFarm; split <;> simp_all
theorem qFarm_1 {M : Sg} {f : Int} (h : ¬ qFarm M f = 0) : qFarm M f = 1 := by
  unfold qFarm at h ⊢
  split
  · rename_i h1
    exact absurd (if_pos h1) h
  · rfl
theorem gNeed_up {M : Sg} {r b : Nat} {v : Int} {c : Int} (h : r ≠ 1) : ∀ n : Nat, gNeed (up M r b v) c n = gNeed M c n := by
  intro n
  induction n with
  | zero => rfl
  | succ k ih => rw [gNeed, gNeed, ih, up_a (fun e => h e.symm)]
theorem gLimit_up0 {M : Sg} {v : Int} {f : Int} : gLimit (up M 0 0 v) f = gLimit M f := by
  unfold gLimit gLim0
  rw [up_a (by decide), up_b (by decide), up_a (by decide), gNeed_up (by decide)]
theorem gSettle_pos {M : Sg} {f : Int} (h : 0 < M 11 f.toNat) : gSettle M f = gLower (up (up (gShift (up M 6 f.toNat (M 6 f.toNat + M 12 (3 * f).toNat)) f ((M 11 f.toNat).toNat - 1)) 11 f.toNat (M 11 f.toNat - 1)) 5 f.toNat (M 5 f.toNat - mn (M 6 f.toNat + M 12 (3 * f).toNat) (M 5 f.toNat))) f (mn (M 6 f.toNat + M 12 (3 * f).toNat) (M 5 f.toNat)) 0 := by
  have e : gSettle0 M f 6 f.toNat = M 6 f.toNat + M 12 (3 * f).toNat := by
    rw [gSettle0, if_pos h, up_a (by decide), gShift_r (by decide), up_s]
  rw [gSettle, e, gSettle0, if_pos h]
theorem gSettle_neg {M : Sg} {f : Int} (h : ¬ 0 < M 11 f.toNat) : gSettle M f = gLower (up M 5 f.toNat (M 5 f.toNat - mn (M 6 f.toNat) (M 5 f.toNat))) f (mn (M 6 f.toNat) (M 5 f.toNat)) 0 := by
  rw [gSettle, gSettle0, if_neg h]
/-- what the paying of a group asks -/
def mOk (M : Sg) : Prop := ∀ i, i < 8 → (0 ≤ M 5 i ∧ M 5 i ≤ 2147483647) ∧ (0 ≤ M 6 i ∧ M 6 i ≤ 2147483647) ∧ (0 ≤ M 18 i ∧ M 18 i ≤ 20000) ∧ nB (M 4 i) ∧ nB (M 13 i) ∧ nB (M 17 i) ∧ nB (M 11 i)
def sOk (M : Sg) (k : Nat) : Prop := (0 ≤ M 11 k ∧ M 11 k ≤ 3) ∧ nB (M 5 k) ∧ nB (M 6 k) ∧ (0 < M 11 k → nB (M 6 k + M 12 (3 * (k : Int)).toNat))
def hvOk (M : Sg) (k : Nat) : Prop := (-1 ≤ M 13 k ∧ M 13 k < 3) ∧ (0 ≤ M 14 k ∧ M 14 k ≤ 50) ∧ (0 ≤ M 17 k ∧ M 17 k ≤ 200) ∧ (0 ≤ M 16 k ∧ M 16 k ≤ 90) ∧ nB (M 6 k) ∧ ∀ c, c < 3 → (0 ≤ M 2 c ∧ M 2 c ≤ 5000) ∧ (0 ≤ M 3 c ∧ M 3 c ≤ 100)
theorem gLower_0 {M : Sg} {f x s : Int} : gLower M f x s 0 = M 0 := by rw [gLower]; funext b; rw [up_a (by decide), up_a (by decide)]
theorem gCome_0 {M : Sg} {f x s : Int} : gCome M f x s 0 = M 0 := by rw [gCome]; funext b; rw [up_a (by decide), gLower_0]
theorem gPay_0 {M : Sg} {f : Int} {k : Nat} : gPay f M k 0 = M 0 := by
  unfold gPay
  split
  · rfl
  · split
    · rw [gLower_0]; funext b; rw [up_a (by decide), up_a (by decide)]
    · rfl
theorem itr_0 {f : Sg → Nat → Sg} (hf : ∀ M k, f M k 0 = M 0) (M : Sg) : ∀ n : Nat, itr f M n 0 = M 0 := by
  intro n
  induction n with
  | zero => rfl
  | succ n ih => rw [itr, hf, ih]
theorem itrP_0 {M : Sg} {f : Int} {n : Nat} : itr (gPay f) M n 0 = M 0 := itr_0 (fun M k => gPay_0) M n
theorem gI_0 {M : Sg} {k : Nat} : gIStep M k 0 = M 0 := by rw [gIStep, gCharge]; funext b; rw [up_a (by decide), up_a (by decide)]
theorem itrI_0 {M : Sg} {n : Nat} : itr gIStep M n 0 = M 0 := itr_0 (fun M k => gI_0) M n
theorem gH_0 {M : Sg} {k : Nat} : gHStep M k 0 = M 0 := by
  unfold gHStep
  split
  · rfl
  · unfold gHarvest
    split
    · rw [gCome_0, gHarvest0]; funext b; rw [up_a (by decide), up_a (by decide)]
    · rw [gHarvest0]; funext b; rw [up_a (by decide), up_a (by decide)]
theorem itrH_0 {M : Sg} {n : Nat} : itr gHStep M n 0 = M 0 := itr_0 (fun M k => gH_0) M n
theorem gSettle0_0 {M : Sg} {f : Int} : gSettle0 M f 0 = M 0 := by
  unfold gSettle0
  split
  · funext b; rw [up_a (by decide), gShift_r (by decide), up_a (by decide)]
  · rfl
theorem gS1_0 {M : Sg} {k : Nat} : gS1 M k 0 = M 0 := by rw [gS1]; funext b; rw [up_a (by decide), gSettle, gLower_0, up_a (by decide), gSettle0_0]
theorem itrS1_0 {M : Sg} {n : Nat} : itr gS1 M n 0 = M 0 := itr_0 (fun M k => gS1_0) M n
theorem gRoll_0 {M : Sg} {f : Int} : gRoll M f 0 = M 0 := by rw [gRoll]; funext b; rw [up_a (by decide), up_a (by decide), up_a (by decide), up_a (by decide), up_a (by decide)]
theorem gS2_0 {M : Sg} {k : Nat} : gS2 M k 0 = M 0 := by
  unfold gS2
  split
  · split
    · exact gRoll_0
    · exact itrP_0
  · rfl
theorem itrS2_0 {M : Sg} {n : Nat} : itr gS2 M n 0 = M 0 := itr_0 (fun M k => gS2_0) M n
theorem gS3_0 {M : Sg} {k : Nat} : gS3 M k 0 = M 0 := by rw [gS3, gClear]; funext b; rw [up_a (by decide), up_a (by decide), up_a (by decide), up_a (by decide), up_a (by decide)]
theorem itrS3_0 {M : Sg} {n : Nat} : itr gS3 M n 0 = M 0 := itr_0 (fun M k => gS3_0) M n
theorem gClose0_0 {M : Sg} {b : Nat} (h : b ≠ 0) : gClose0 M 0 b = M 0 b := by rw [gClose0, itrS1_0, up_b h]
theorem gClose1_0 {M : Sg} {b : Nat} (h : b ≠ 0) : gClose1 M 0 b = M 0 b := by rw [gClose1, itrS2_0, gClose0_0 h]
theorem gClose2_0 {M : Sg} {b : Nat} (h : b ≠ 0) : gClose2 M 0 b = M 0 b := by rw [gClose2, itrS3_0, gClose1_0 h]
theorem gNext0_0 {M : Sg} {b : Nat} (h : b ≠ 0) (h2 : b ≠ 2) : gNext0 M 0 b = M 0 b := by rw [gNext0, itrI_0, up_b h2, up_b h]
theorem gNext0_2 {M : Sg} : gNext0 M 0 2 = M 0 2 + 1 := by rw [gNext0, itrI_0, up_s]
theorem gNext_at {M : Sg} {k : Nat} (h : (M 0 2 + 1 = 4 ∧ k = (M 0 6).toNat) ∨ (¬ M 0 2 + 1 = 4 ∧ k = 0)) : itr gHStep (gNext0 M) k = gNext M := by
  unfold gNext
  rcases h with ⟨h1, rfl⟩ | ⟨h1, rfl⟩
  · rw [if_pos h1]
  · rw [if_neg h1]; rfl
