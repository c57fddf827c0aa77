/-! the tie of the class's state and the reference's, and what holds of them at every call -/
def pIx (n : Int) (k : Nat) : Nat := if 3 - n + k < 2 then (3 - n + k).toNat else 2
/-- the reference's state out of the class's; rf: what was refused last -/
def mOf (rf : Int) (σ : Sg) : Sg := fun a j => match a with
  | 0 => if j = 0 then rf else if j = 1 then σ 0 3 else if j = 2 then σ 0 4 else if j = 6 then σ 0 2 else 0
  | 1 => if j < 12 then σ (6 + j / 4) (j % 4) else 0
  | 2 => if j < 3 then σ (3 + j) 1 else 0
  | 3 => if j < 3 then σ (3 + j) 2 else 0
  | 4 => if j < 8 then σ (9 + j) 0 else 0
  | 5 => if j < 8 then σ (9 + j) 1 else 0
  | 6 => if j < 8 then σ (9 + j) 2 else 0
  | 7 => if j < 8 then σ (9 + j) 11 else 0
  | 8 => if j < 8 then σ (9 + j) 9 else 0
  | 9 => if j < 8 then σ (9 + j) 10 else 0
  | 10 => if j < 8 then σ (9 + j) 3 else 0
  | 11 => if j < 8 then σ (9 + j) 8 else 0
  | 12 => if j < 24 then σ (25 + j / 3) (pIx (σ (9 + j / 3) 8) (j % 3)) else 0
  | 13 => if j < 8 ∧ (j : Int) < σ 0 2 then σ (9 + j) 12 else 0
  | 14 => if j < 8 then σ (9 + j) 13 else 0
  | 15 => if j < 8 then σ (9 + j) 16 else 0
  | 16 => if j < 8 then σ (9 + j) 14 else 0
  | 17 => if j < 8 ∧ (j : Int) < σ 0 2 then σ (9 + j) 15 else 0
  | 18 => if j < 8 then σ (9 + j) 5 else 0
  | 19 => if j < 40 then σ (17 + j / 5) (j % 5) else 0
  | 20 => if j < 8 then σ (9 + j) 4 else 0
  | _ => 0
/-- bounds that grow with the seasons -/
def uK (u0 : Int) : Nat → Int
  | 0 => u0
  | k + 1 => uK u0 k + uK u0 k / 50 + 1
def uU (s k : Nat) : Int := uK (30000000 * s + 20000000) k + (if k = 4 then 30000000 else 0)
def mx (a b : Int) : Int := if a ≤ b then b else a
def bK (b0 : Int) (s : Nat) : Nat → Int
  | 0 => b0
  | k + 1 => bK b0 s k + mx (bK b0 s k) (uU s k) / 50 + 1
def bS : Nat → Int
  | 0 => 20000000
  | s + 1 => bK (bS s) s 4 + 20020000
def bB (s k : Nat) : Int := bK (bS s) s k
def hH (s k : Nat) : Int := s + (if k = 4 then 1 else 0)
/-- a farmer's numbers: ranges, and what the money is bounded by -/
def jFa (h u b : Int) (σ : Sg) (i : Nat) : Prop :=
  ((0 ≤ σ (9 + i) 0 ∧ σ (9 + i) 0 ≤ 2) ∧ 0 ≤ σ (9 + i) 1 ∧ 0 ≤ σ (9 + i) 2 ∧ 0 ≤ σ (9 + i) 3 ∧ (0 ≤ σ (9 + i) 5 ∧ σ (9 + i) 5 ≤ 20000) ∧ (0 ≤ σ (9 + i) 8 ∧ σ (9 + i) 8 ≤ 3) ∧ (0 ≤ σ (9 + i) 10 ∧ σ (9 + i) 10 ≤ σ (9 + i) 9) ∧ (0 ≤ σ (9 + i) 11 ∧ σ (9 + i) 11 < 3) ∧ (-1 ≤ σ (9 + i) 12 ∧ σ (9 + i) 12 < 3) ∧ (0 ≤ σ (9 + i) 13 ∧ σ (9 + i) 13 ≤ 50) ∧ (0 ≤ σ (9 + i) 14 ∧ σ (9 + i) 14 ≤ 90) ∧ (0 ≤ σ (9 + i) 15 ∧ σ (9 + i) 15 ≤ 200) ∧ (0 ≤ σ (9 + i) 16 ∧ σ (9 + i) 16 ≤ 20000000) ∧ (∀ q, q < 3 → 0 ≤ σ (25 + i) q)) ∧
  σ (9 + i) 9 ≤ 10000 * h ∧
  σ (9 + i) 1 + 5000 * (σ (9 + i) 9 - σ (9 + i) 10) ≤ 72500000 * h ∧
  σ (9 + i) 1 + 5000 * σ (9 + i) 9 - σ (9 + i) 3 ≤ 72500000 * h ∧
  σ (9 + i) 3 + 3000 * (σ (9 + i) 9 - σ (9 + i) 10) ≤ 30000000 * h ∧
  (0 < σ (9 + i) 1 → σ (9 + i) 2 + σ (9 + i) 3 + 3000 * (σ (9 + i) 9 - σ (9 + i) 10) + (20000000 - σ (9 + i) 16) ≤ u) ∧
  σ (9 + i) 2 + fSum σ i 3 + σ (9 + i) 3 - σ (9 + i) 1 + (20000000 - σ (9 + i) 16) ≤ b ∧
  fSum σ i 3 ≤ b
/-- a row that no farmer has yet -/
def jZ (σ : Sg) (i : Nat) : Prop := (∀ b, b < 17 → b ≠ 12 → b ≠ 15 → σ (9 + i) b = 0) ∧ σ (9 + i) 12 = -1 ∧ σ (9 + i) 15 = 100 ∧ (∀ q, σ (17 + i) q = 0) ∧ ∀ q, σ (25 + i) q = 0
def sN (σ : Sg) : Nat := (σ 0 3).toNat
def kN (σ : Sg) : Nat := (σ 0 4).toNat
def jInv (σ : Sg) : Prop := cGl σ ∧ (∀ c, c < 3 → cCrB σ c) ∧ (∀ i : Nat, i < 8 → (i : Int) < σ 0 2 → jFa (hH (sN σ) (kN σ)) (uU (sN σ) (kN σ)) (bB (sN σ) (kN σ)) σ i) ∧ ∀ i : Nat, i < 8 → σ 0 2 ≤ (i : Int) → jZ σ i
def JJ (σ M : Sg) : Prop := jInv σ ∧ ∃ rf, M = mOf rf σ
