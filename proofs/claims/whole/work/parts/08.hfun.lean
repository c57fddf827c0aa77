/-! what the lender's methods do to the state -/
def cGl (σ : Sg) : Prop := (0 ≤ σ 0 2 ∧ σ 0 2 ≤ 8) ∧ (0 ≤ σ 0 3 ∧ σ 0 3 ≤ 20) ∧ (0 ≤ σ 0 4 ∧ σ 0 4 ≤ 4)
def cCrB (σ : Sg) (c : Nat) : Prop := (0 ≤ σ (3 + c) 1 ∧ σ (3 + c) 1 ≤ 5000) ∧ (0 ≤ σ (3 + c) 2 ∧ σ (3 + c) 2 ≤ 100) ∧ ∀ k, k < 4 → 0 ≤ σ (6 + c) k ∧ σ (6 + c) k ≤ 100000
/-- the bounds of a farmer's numbers -/
def cFaB (σ : Sg) (i : Nat) : Prop := (0 ≤ σ (9 + i) 0 ∧ σ (9 + i) 0 ≤ 2) ∧ (0 ≤ σ (9 + i) 1 ∧ σ (9 + i) 1 ≤ 2147483647) ∧ (0 ≤ σ (9 + i) 2 ∧ σ (9 + i) 2 ≤ 2100000000) ∧ (0 ≤ σ (9 + i) 3 ∧ σ (9 + i) 3 ≤ 2147483647) ∧ (0 ≤ σ (9 + i) 5 ∧ σ (9 + i) 5 ≤ 20000) ∧ (0 ≤ σ (9 + i) 8 ∧ σ (9 + i) 8 ≤ 3) ∧ (0 ≤ σ (9 + i) 10 ∧ σ (9 + i) 10 ≤ σ (9 + i) 9 ∧ σ (9 + i) 9 ≤ 300000) ∧ (0 ≤ σ (9 + i) 11 ∧ σ (9 + i) 11 < 3) ∧ (-1 ≤ σ (9 + i) 12 ∧ σ (9 + i) 12 < 3) ∧ (0 ≤ σ (9 + i) 13 ∧ σ (9 + i) 13 ≤ 50) ∧ (0 ≤ σ (9 + i) 14 ∧ σ (9 + i) 14 ≤ 90) ∧ (0 ≤ σ (9 + i) 15 ∧ σ (9 + i) 15 ≤ 200) ∧ (0 ≤ σ (9 + i) 16 ∧ σ (9 + i) 16 ≤ 20000000) ∧ (0 ≤ fTakeV σ i ∧ σ (9 + i) 2 + fTakeV σ i ≤ 2100000000)
def cBd (σ : Sg) : Prop := cGl σ ∧ (∀ c, c < 3 → cCrB σ c) ∧ ∀ i, i < 8 → cFaB σ i
theorem cBd_n {σ : Sg} (h : cBd σ) {n : Int} (h1 : 0 ≤ n) (h2 : n < σ 0 2) : n.toNat < 8 := by have := h.1.1; omega
theorem fNeed_b {σ : Sg} {c : Nat} (h : ∀ k, k < 4 → 0 ≤ σ (6 + c) k ∧ σ (6 + c) k ≤ 100000) : ∀ n : Nat, n ≤ 4 → 0 ≤ fNeed σ c n ∧ fNeed σ c n ≤ 100000 * n := by
  intro n
  induction n with
  | zero => intro _; exact ⟨Int.le_refl 0, by simp [fNeed]⟩
  | succ k ih =>
    intro hk
    obtain ⟨a1, a2⟩ := ih (by omega)
    obtain ⟨b1, b2⟩ := h k (by omega)
    unfold fNeed
    exact ⟨by omega, by push_cast; omega⟩
theorem fNeedUp_b {σ : Sg} {c : Nat} {st : Int} (h : ∀ k, k < 4 → 0 ≤ σ (6 + c) k ∧ σ (6 + c) k ≤ 100000) : 0 ≤ fNeedUp σ c st ∧ fNeedUp σ c st ≤ 400000 := by
  have h4 : (mn 4 (st + 1)).toNat ≤ 4 := by have := mn_le1 4 (st + 1); omega
  obtain ⟨a, b⟩ := fNeed_b h _ h4
  unfold fNeedUp
  exact ⟨a, by have : ((mn 4 (st + 1)).toNat : Int) ≤ 4 := by omega
               omega⟩
def fLimit (σ : Sg) (i : Nat) : Int := if σ (9 + i) 12 = -1 then 0 else fNeedUp σ (σ (9 + i) 12).toNat (σ 0 4) * σ (9 + i) 13
theorem fLimit_b {σ : Sg} (h : cBd σ) {i : Nat} (hi : i < 8) : 0 ≤ fLimit σ i ∧ fLimit σ i ≤ 20000000 := by
  unfold fLimit
  split
  · omega
  · obtain ⟨-, -, -, -, -, -, -, -, p1, p2, -⟩ := h.2.2 i hi
    have hc : (σ (9 + i) 12).toNat < 3 := by omega
    have e := mulB (fNeedUp_b (σ := σ) (c := (σ (9 + i) 12).toNat) (st := σ 0 4) (h.2.1 _ hc).2.2) p2
    omega
def kSetNeed (c st x : Int) : Nat := cSeq (cCrop c) (cSeq (if st < 0 ∨ 4 ≤ st then 1 else 0) (cRange x 0 100000))
def kSetCrop (c x n : Int) : Nat := cSeq (cCrop c) (cSeq (cRange x 1 5000) (cRange n 0 100))
def kAdd (σ : Sg) (g : Int) : Nat := cSeq (if g < 0 ∨ 3 ≤ g then 1 else 0) (if σ 0 2 < 8 then 0 else 3)
def kPlant (σ : Sg) (n c h : Int) : Nat := cSeq (cFarm σ n) (cSeq (cCrop c) (cSeq (cRange h 1 50) (cSeq (if σ 0 4 = 0 ∧ σ (9 + n.toNat) 12 = -1 then 0 else 3) (if σ (9 + n.toNat) 9 = 0 ∨ σ (9 + n.toNat) 11 = c then 0 else 3))))
def fPlant (σ : Sg) (i : Nat) (c h : Int) : Sg := up (up σ (9 + i) 12 c) (9 + i) 13 h
def kCover (σ : Sg) (n x : Int) : Nat := cSeq (cFarm σ n) (cSeq (cRange x 1 90) (if σ 0 4 = 0 ∧ ¬ σ (9 + n.toNat) 12 = -1 then 0 else 3))
def kDraw (σ : Sg) (n x : Int) : Nat := cSeq (cFarm σ n) (cSeq (cRange x 1 100000000) (cSeq (if σ 0 4 < 4 then 0 else 3) (if x ≤ fLimit σ n.toNat - σ (9 + n.toNat) 16 then 0 else 3)))
def fDraw (σ : Sg) (i : Nat) (x : Int) : Sg := fCharge (up σ (9 + i) 16 (σ (9 + i) 16 + x)) i x
def kYield (σ : Sg) (n x : Int) : Nat := cSeq (cFarm σ n) (cSeq (cRange x 0 200) (if σ 0 4 < 4 then 0 else 3))
def kNext (σ : Sg) : Nat := if σ 0 4 < 4 then 0 else 3
def fHarv (σ : Sg) (i : Nat) : Sg := if σ (9 + i) 12 = -1 then σ else fHarvest σ i (σ (9 + i) 12).toNat
def fNext0 (σ : Sg) : Sg := itr fInterest (up σ 0 4 (σ 0 4 + 1)) (σ 0 2).toNat
def fNext (σ : Sg) : Sg := if σ 0 4 + 1 = 4 then itr fHarv (fNext0 σ) (σ 0 2).toNat else fNext0 σ
def kPledge (σ : Sg) (n u : Int) : Nat := cSeq (cFarm σ n) (cSeq (cRange u 1 1000000) (if u ≤ σ (9 + n.toNat) 9 - σ (9 + n.toNat) 10 then 0 else 3))
def kSell (σ : Sg) (n u : Int) : Nat := cSeq (cFarm σ n) (cSeq (cRange u 1 1000000) (if u ≤ σ (9 + n.toNat) 9 then 0 else 3))
def kRepay (σ : Sg) (n x : Int) : Nat := cSeq (cFarm σ n) (cSeq (cRange x 1 100000000) (if x ≤ σ (9 + n.toNat) 2 ∧ x ≤ σ (9 + n.toNat) 1 then 0 else 3))
def kClose (σ : Sg) : Nat := if σ 0 4 = 4 ∧ σ 0 3 < 20 then 0 else 3
def fColl (j : Nat) (σ : Sg) (i : Nat) : Sg := if i = j then σ else if σ (9 + i) 0 = σ (9 + j) 0 then fPay σ i j else σ
def fRest (σ : Sg) (i : Nat) : Sg := if σ (9 + i) 2 = 0 then σ else if fMayRoll σ i = 0 then itr (fColl i) σ (σ 0 2).toNat else fRoll σ i
def fClose0 (σ : Sg) : Sg := itr fSettle σ (σ 0 2).toNat
def fClose1 (σ : Sg) : Sg := itr fRest (fClose0 σ) (σ 0 2).toNat
def fClose2 (σ : Sg) : Sg := itr fForget (fClose1 σ) (σ 0 2).toNat
def fClose (σ : Sg) : Sg := up (up (fClose2 σ) 0 3 (σ 0 3 + 1)) 0 4 0
def kRepaid (σ : Sg) (n x : Int) : Nat := cSeq (cFarm σ n) (cRange x 0 4)
