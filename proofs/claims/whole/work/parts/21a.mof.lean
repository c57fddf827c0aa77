/-! the tie: rows that change on both sides -/
theorem mn_comm (x y : Int) : mn x y = mn y x := by unfold mn; split <;> split <;> omega
theorem mOf_rf {rf v : Int} {σ : Sg} : up (mOf rf σ) 0 0 v = mOf v σ := by
  funext x y
  match x with
  | 0 =>
    by_cases h : y = 0
    · subst h; rfl
    · rw [up_b h]
      show (if y = 0 then rf else _) = (if y = 0 then v else _)
      rw [if_neg h, if_neg h]
  | 1 => rw [up_a (by decide)]; rfl
  | 2 => rw [up_a (by decide)]; rfl
  | 3 => rw [up_a (by decide)]; rfl
  | 4 => rw [up_a (by decide)]; rfl
  | 5 => rw [up_a (by decide)]; rfl
  | 6 => rw [up_a (by decide)]; rfl
  | 7 => rw [up_a (by decide)]; rfl
  | 8 => rw [up_a (by decide)]; rfl
  | 9 => rw [up_a (by decide)]; rfl
  | 10 => rw [up_a (by decide)]; rfl
  | 11 => rw [up_a (by decide)]; rfl
  | 12 => rw [up_a (by decide)]; rfl
  | 13 => rw [up_a (by decide)]; rfl
  | 14 => rw [up_a (by decide)]; rfl
  | 15 => rw [up_a (by decide)]; rfl
  | 16 => rw [up_a (by decide)]; rfl
  | 17 => rw [up_a (by decide)]; rfl
  | 18 => rw [up_a (by decide)]; rfl
  | 19 => rw [up_a (by decide)]; rfl
  | 20 => rw [up_a (by decide)]; rfl
  | x + 21 => rw [up_a (by omega)]; rfl
set_option maxHeartbeats 1000000 in
theorem mU_0 {rf v : Int} {σ : Sg} {i : Nat} (hi : i < 8) : up (mOf rf σ) 4 i v = mOf rf (up σ (9 + i) 0 v) := by
  funext x y
  match x with
  | 0 => simp only [up, mOf, pIx]; (repeat' split) <;> first | rfl | omega
  | 1 => simp only [up, mOf, pIx]; (repeat' split) <;> first | rfl | omega
  | 2 => simp only [up, mOf, pIx]; (repeat' split) <;> first | rfl | omega
  | 3 => simp only [up, mOf, pIx]; (repeat' split) <;> first | rfl | omega
  | 4 => simp only [up, mOf, pIx]; (repeat' split) <;> first | rfl | omega
  | 5 => simp only [up, mOf, pIx]; (repeat' split) <;> first | rfl | omega
  | 6 => simp only [up, mOf, pIx]; (repeat' split) <;> first | rfl | omega
  | 7 => simp only [up, mOf, pIx]; (repeat' split) <;> first | rfl | omega
  | 8 => simp only [up, mOf, pIx]; (repeat' split) <;> first | rfl | omega
  | 9 => simp only [up, mOf, pIx]; (repeat' split) <;> first | rfl | omega
  | 10 => simp only [up, mOf, pIx]; (repeat' split) <;> first | rfl | omega
  | 11 => simp only [up, mOf, pIx]; (repeat' split) <;> first | rfl | omega
  | 12 => simp only [up, mOf, pIx]; (repeat' split) <;> first | rfl | omega
  | 13 => simp only [up, mOf, pIx]; (repeat' split) <;> first | rfl | omega
  | 14 => simp only [up, mOf, pIx]; (repeat' split) <;> first | rfl | omega
  | 15 => simp only [up, mOf, pIx]; (repeat' split) <;> first | rfl | omega
  | 16 => simp only [up, mOf, pIx]; (repeat' split) <;> first | rfl | omega
  | 17 => simp only [up, mOf, pIx]; (repeat' split) <;> first | rfl | omega
  | 18 => simp only [up, mOf, pIx]; (repeat' split) <;> first | rfl | omega
  | 19 => simp only [up, mOf, pIx]; (repeat' split) <;> first | rfl | omega
  | 20 => simp only [up, mOf, pIx]; (repeat' split) <;> first | rfl | omega
  | x + 21 => simp only [up, mOf]; (repeat' split) <;> first | rfl | omega
set_option maxHeartbeats 1000000 in
theorem mU_1 {rf v : Int} {σ : Sg} {i : Nat} (hi : i < 8) : up (mOf rf σ) 5 i v = mOf rf (up σ (9 + i) 1 v) := by
  funext x y
  match x with
  | 0 => simp only [up, mOf, pIx]; (repeat' split) <;> first | rfl | omega
  | 1 => simp only [up, mOf, pIx]; (repeat' split) <;> first | rfl | omega
  | 2 => simp only [up, mOf, pIx]; (repeat' split) <;> first | rfl | omega
  | 3 => simp only [up, mOf, pIx]; (repeat' split) <;> first | rfl | omega
  | 4 => simp only [up, mOf, pIx]; (repeat' split) <;> first | rfl | omega
  | 5 => simp only [up, mOf, pIx]; (repeat' split) <;> first | rfl | omega
  | 6 => simp only [up, mOf, pIx]; (repeat' split) <;> first | rfl | omega
  | 7 => simp only [up, mOf, pIx]; (repeat' split) <;> first | rfl | omega
  | 8 => simp only [up, mOf, pIx]; (repeat' split) <;> first | rfl | omega
  | 9 => simp only [up, mOf, pIx]; (repeat' split) <;> first | rfl | omega
  | 10 => simp only [up, mOf, pIx]; (repeat' split) <;> first | rfl | omega
  | 11 => simp only [up, mOf, pIx]; (repeat' split) <;> first | rfl | omega
  | 12 => simp only [up, mOf, pIx]; (repeat' split) <;> first | rfl | omega
  | 13 => simp only [up, mOf, pIx]; (repeat' split) <;> first | rfl | omega
  | 14 => simp only [up, mOf, pIx]; (repeat' split) <;> first | rfl | omega
  | 15 => simp only [up, mOf, pIx]; (repeat' split) <;> first | rfl | omega
  | 16 => simp only [up, mOf, pIx]; (repeat' split) <;> first | rfl | omega
  | 17 => simp only [up, mOf, pIx]; (repeat' split) <;> first | rfl | omega
  | 18 => simp only [up, mOf, pIx]; (repeat' split) <;> first | rfl | omega
  | 19 => simp only [up, mOf, pIx]; (repeat' split) <;> first | rfl | omega
  | 20 => simp only [up, mOf, pIx]; (repeat' split) <;> first | rfl | omega
  | x + 21 => simp only [up, mOf]; (repeat' split) <;> first | rfl | omega
set_option maxHeartbeats 1000000 in
theorem mU_2 {rf v : Int} {σ : Sg} {i : Nat} (hi : i < 8) : up (mOf rf σ) 6 i v = mOf rf (up σ (9 + i) 2 v) := by
  funext x y
  match x with
  | 0 => simp only [up, mOf, pIx]; (repeat' split) <;> first | rfl | omega
  | 1 => simp only [up, mOf, pIx]; (repeat' split) <;> first | rfl | omega
  | 2 => simp only [up, mOf, pIx]; (repeat' split) <;> first | rfl | omega
  | 3 => simp only [up, mOf, pIx]; (repeat' split) <;> first | rfl | omega
  | 4 => simp only [up, mOf, pIx]; (repeat' split) <;> first | rfl | omega
  | 5 => simp only [up, mOf, pIx]; (repeat' split) <;> first | rfl | omega
  | 6 => simp only [up, mOf, pIx]; (repeat' split) <;> first | rfl | omega
  | 7 => simp only [up, mOf, pIx]; (repeat' split) <;> first | rfl | omega
  | 8 => simp only [up, mOf, pIx]; (repeat' split) <;> first | rfl | omega
  | 9 => simp only [up, mOf, pIx]; (repeat' split) <;> first | rfl | omega
  | 10 => simp only [up, mOf, pIx]; (repeat' split) <;> first | rfl | omega
  | 11 => simp only [up, mOf, pIx]; (repeat' split) <;> first | rfl | omega
  | 12 => simp only [up, mOf, pIx]; (repeat' split) <;> first | rfl | omega
  | 13 => simp only [up, mOf, pIx]; (repeat' split) <;> first | rfl | omega
  | 14 => simp only [up, mOf, pIx]; (repeat' split) <;> first | rfl | omega
  | 15 => simp only [up, mOf, pIx]; (repeat' split) <;> first | rfl | omega
  | 16 => simp only [up, mOf, pIx]; (repeat' split) <;> first | rfl | omega
  | 17 => simp only [up, mOf, pIx]; (repeat' split) <;> first | rfl | omega
  | 18 => simp only [up, mOf, pIx]; (repeat' split) <;> first | rfl | omega
  | 19 => simp only [up, mOf, pIx]; (repeat' split) <;> first | rfl | omega
  | 20 => simp only [up, mOf, pIx]; (repeat' split) <;> first | rfl | omega
  | x + 21 => simp only [up, mOf]; (repeat' split) <;> first | rfl | omega
set_option maxHeartbeats 1000000 in
theorem mU_3 {rf v : Int} {σ : Sg} {i : Nat} (hi : i < 8) : up (mOf rf σ) 10 i v = mOf rf (up σ (9 + i) 3 v) := by
  funext x y
  match x with
  | 0 => simp only [up, mOf, pIx]; (repeat' split) <;> first | rfl | omega
  | 1 => simp only [up, mOf, pIx]; (repeat' split) <;> first | rfl | omega
  | 2 => simp only [up, mOf, pIx]; (repeat' split) <;> first | rfl | omega
  | 3 => simp only [up, mOf, pIx]; (repeat' split) <;> first | rfl | omega
  | 4 => simp only [up, mOf, pIx]; (repeat' split) <;> first | rfl | omega
  | 5 => simp only [up, mOf, pIx]; (repeat' split) <;> first | rfl | omega
  | 6 => simp only [up, mOf, pIx]; (repeat' split) <;> first | rfl | omega
  | 7 => simp only [up, mOf, pIx]; (repeat' split) <;> first | rfl | omega
  | 8 => simp only [up, mOf, pIx]; (repeat' split) <;> first | rfl | omega
  | 9 => simp only [up, mOf, pIx]; (repeat' split) <;> first | rfl | omega
  | 10 => simp only [up, mOf, pIx]; (repeat' split) <;> first | rfl | omega
  | 11 => simp only [up, mOf, pIx]; (repeat' split) <;> first | rfl | omega
  | 12 => simp only [up, mOf, pIx]; (repeat' split) <;> first | rfl | omega
  | 13 => simp only [up, mOf, pIx]; (repeat' split) <;> first | rfl | omega
  | 14 => simp only [up, mOf, pIx]; (repeat' split) <;> first | rfl | omega
  | 15 => simp only [up, mOf, pIx]; (repeat' split) <;> first | rfl | omega
  | 16 => simp only [up, mOf, pIx]; (repeat' split) <;> first | rfl | omega
  | 17 => simp only [up, mOf, pIx]; (repeat' split) <;> first | rfl | omega
  | 18 => simp only [up, mOf, pIx]; (repeat' split) <;> first | rfl | omega
  | 19 => simp only [up, mOf, pIx]; (repeat' split) <;> first | rfl | omega
  | 20 => simp only [up, mOf, pIx]; (repeat' split) <;> first | rfl | omega
  | x + 21 => simp only [up, mOf]; (repeat' split) <;> first | rfl | omega
set_option maxHeartbeats 1000000 in
theorem mU_4 {rf v : Int} {σ : Sg} {i : Nat} (hi : i < 8) : up (mOf rf σ) 20 i v = mOf rf (up σ (9 + i) 4 v) := by
  funext x y
  match x with
  | 0 => simp only [up, mOf, pIx]; (repeat' split) <;> first | rfl | omega
  | 1 => simp only [up, mOf, pIx]; (repeat' split) <;> first | rfl | omega
  | 2 => simp only [up, mOf, pIx]; (repeat' split) <;> first | rfl | omega
  | 3 => simp only [up, mOf, pIx]; (repeat' split) <;> first | rfl | omega
  | 4 => simp only [up, mOf, pIx]; (repeat' split) <;> first | rfl | omega
  | 5 => simp only [up, mOf, pIx]; (repeat' split) <;> first | rfl | omega
  | 6 => simp only [up, mOf, pIx]; (repeat' split) <;> first | rfl | omega
  | 7 => simp only [up, mOf, pIx]; (repeat' split) <;> first | rfl | omega
  | 8 => simp only [up, mOf, pIx]; (repeat' split) <;> first | rfl | omega
  | 9 => simp only [up, mOf, pIx]; (repeat' split) <;> first | rfl | omega
  | 10 => simp only [up, mOf, pIx]; (repeat' split) <;> first | rfl | omega
  | 11 => simp only [up, mOf, pIx]; (repeat' split) <;> first | rfl | omega
  | 12 => simp only [up, mOf, pIx]; (repeat' split) <;> first | rfl | omega
  | 13 => simp only [up, mOf, pIx]; (repeat' split) <;> first | rfl | omega
  | 14 => simp only [up, mOf, pIx]; (repeat' split) <;> first | rfl | omega
  | 15 => simp only [up, mOf, pIx]; (repeat' split) <;> first | rfl | omega
  | 16 => simp only [up, mOf, pIx]; (repeat' split) <;> first | rfl | omega
  | 17 => simp only [up, mOf, pIx]; (repeat' split) <;> first | rfl | omega
  | 18 => simp only [up, mOf, pIx]; (repeat' split) <;> first | rfl | omega
  | 19 => simp only [up, mOf, pIx]; (repeat' split) <;> first | rfl | omega
  | 20 => simp only [up, mOf, pIx]; (repeat' split) <;> first | rfl | omega
  | x + 21 => simp only [up, mOf]; (repeat' split) <;> first | rfl | omega
set_option maxHeartbeats 1000000 in
theorem mU_5 {rf v : Int} {σ : Sg} {i : Nat} (hi : i < 8) : up (mOf rf σ) 18 i v = mOf rf (up σ (9 + i) 5 v) := by
  funext x y
  match x with
  | 0 => simp only [up, mOf, pIx]; (repeat' split) <;> first | rfl | omega
  | 1 => simp only [up, mOf, pIx]; (repeat' split) <;> first | rfl | omega
  | 2 => simp only [up, mOf, pIx]; (repeat' split) <;> first | rfl | omega
  | 3 => simp only [up, mOf, pIx]; (repeat' split) <;> first | rfl | omega
  | 4 => simp only [up, mOf, pIx]; (repeat' split) <;> first | rfl | omega
  | 5 => simp only [up, mOf, pIx]; (repeat' split) <;> first | rfl | omega
  | 6 => simp only [up, mOf, pIx]; (repeat' split) <;> first | rfl | omega
  | 7 => simp only [up, mOf, pIx]; (repeat' split) <;> first | rfl | omega
  | 8 => simp only [up, mOf, pIx]; (repeat' split) <;> first | rfl | omega
  | 9 => simp only [up, mOf, pIx]; (repeat' split) <;> first | rfl | omega
  | 10 => simp only [up, mOf, pIx]; (repeat' split) <;> first | rfl | omega
  | 11 => simp only [up, mOf, pIx]; (repeat' split) <;> first | rfl | omega
  | 12 => simp only [up, mOf, pIx]; (repeat' split) <;> first | rfl | omega
  | 13 => simp only [up, mOf, pIx]; (repeat' split) <;> first | rfl | omega
  | 14 => simp only [up, mOf, pIx]; (repeat' split) <;> first | rfl | omega
  | 15 => simp only [up, mOf, pIx]; (repeat' split) <;> first | rfl | omega
  | 16 => simp only [up, mOf, pIx]; (repeat' split) <;> first | rfl | omega
  | 17 => simp only [up, mOf, pIx]; (repeat' split) <;> first | rfl | omega
  | 18 => simp only [up, mOf, pIx]; (repeat' split) <;> first | rfl | omega
  | 19 => simp only [up, mOf, pIx]; (repeat' split) <;> first | rfl | omega
  | 20 => simp only [up, mOf, pIx]; (repeat' split) <;> first | rfl | omega
  | x + 21 => simp only [up, mOf]; (repeat' split) <;> first | rfl | omega
set_option maxHeartbeats 1000000 in
theorem mU_9 {rf v : Int} {σ : Sg} {i : Nat} (hi : i < 8) : up (mOf rf σ) 8 i v = mOf rf (up σ (9 + i) 9 v) := by
  funext x y
  match x with
  | 0 => simp only [up, mOf, pIx]; (repeat' split) <;> first | rfl | omega
  | 1 => simp only [up, mOf, pIx]; (repeat' split) <;> first | rfl | omega
  | 2 => simp only [up, mOf, pIx]; (repeat' split) <;> first | rfl | omega
  | 3 => simp only [up, mOf, pIx]; (repeat' split) <;> first | rfl | omega
  | 4 => simp only [up, mOf, pIx]; (repeat' split) <;> first | rfl | omega
  | 5 => simp only [up, mOf, pIx]; (repeat' split) <;> first | rfl | omega
  | 6 => simp only [up, mOf, pIx]; (repeat' split) <;> first | rfl | omega
  | 7 => simp only [up, mOf, pIx]; (repeat' split) <;> first | rfl | omega
  | 8 => simp only [up, mOf, pIx]; (repeat' split) <;> first | rfl | omega
  | 9 => simp only [up, mOf, pIx]; (repeat' split) <;> first | rfl | omega
  | 10 => simp only [up, mOf, pIx]; (repeat' split) <;> first | rfl | omega
  | 11 => simp only [up, mOf, pIx]; (repeat' split) <;> first | rfl | omega
  | 12 => simp only [up, mOf, pIx]; (repeat' split) <;> first | rfl | omega
  | 13 => simp only [up, mOf, pIx]; (repeat' split) <;> first | rfl | omega
  | 14 => simp only [up, mOf, pIx]; (repeat' split) <;> first | rfl | omega
  | 15 => simp only [up, mOf, pIx]; (repeat' split) <;> first | rfl | omega
  | 16 => simp only [up, mOf, pIx]; (repeat' split) <;> first | rfl | omega
  | 17 => simp only [up, mOf, pIx]; (repeat' split) <;> first | rfl | omega
  | 18 => simp only [up, mOf, pIx]; (repeat' split) <;> first | rfl | omega
  | 19 => simp only [up, mOf, pIx]; (repeat' split) <;> first | rfl | omega
  | 20 => simp only [up, mOf, pIx]; (repeat' split) <;> first | rfl | omega
  | x + 21 => simp only [up, mOf]; (repeat' split) <;> first | rfl | omega
set_option maxHeartbeats 1000000 in
theorem mU_10 {rf v : Int} {σ : Sg} {i : Nat} (hi : i < 8) : up (mOf rf σ) 9 i v = mOf rf (up σ (9 + i) 10 v) := by
  funext x y
  match x with
  | 0 => simp only [up, mOf, pIx]; (repeat' split) <;> first | rfl | omega
  | 1 => simp only [up, mOf, pIx]; (repeat' split) <;> first | rfl | omega
  | 2 => simp only [up, mOf, pIx]; (repeat' split) <;> first | rfl | omega
  | 3 => simp only [up, mOf, pIx]; (repeat' split) <;> first | rfl | omega
  | 4 => simp only [up, mOf, pIx]; (repeat' split) <;> first | rfl | omega
  | 5 => simp only [up, mOf, pIx]; (repeat' split) <;> first | rfl | omega
  | 6 => simp only [up, mOf, pIx]; (repeat' split) <;> first | rfl | omega
  | 7 => simp only [up, mOf, pIx]; (repeat' split) <;> first | rfl | omega
  | 8 => simp only [up, mOf, pIx]; (repeat' split) <;> first | rfl | omega
  | 9 => simp only [up, mOf, pIx]; (repeat' split) <;> first | rfl | omega
  | 10 => simp only [up, mOf, pIx]; (repeat' split) <;> first | rfl | omega
  | 11 => simp only [up, mOf, pIx]; (repeat' split) <;> first | rfl | omega
  | 12 => simp only [up, mOf, pIx]; (repeat' split) <;> first | rfl | omega
  | 13 => simp only [up, mOf, pIx]; (repeat' split) <;> first | rfl | omega
  | 14 => simp only [up, mOf, pIx]; (repeat' split) <;> first | rfl | omega
  | 15 => simp only [up, mOf, pIx]; (repeat' split) <;> first | rfl | omega
  | 16 => simp only [up, mOf, pIx]; (repeat' split) <;> first | rfl | omega
  | 17 => simp only [up, mOf, pIx]; (repeat' split) <;> first | rfl | omega
  | 18 => simp only [up, mOf, pIx]; (repeat' split) <;> first | rfl | omega
  | 19 => simp only [up, mOf, pIx]; (repeat' split) <;> first | rfl | omega
  | 20 => simp only [up, mOf, pIx]; (repeat' split) <;> first | rfl | omega
  | x + 21 => simp only [up, mOf]; (repeat' split) <;> first | rfl | omega
set_option maxHeartbeats 1000000 in
theorem mU_11 {rf v : Int} {σ : Sg} {i : Nat} (hi : i < 8) : up (mOf rf σ) 7 i v = mOf rf (up σ (9 + i) 11 v) := by
  funext x y
  match x with
  | 0 => simp only [up, mOf, pIx]; (repeat' split) <;> first | rfl | omega
  | 1 => simp only [up, mOf, pIx]; (repeat' split) <;> first | rfl | omega
  | 2 => simp only [up, mOf, pIx]; (repeat' split) <;> first | rfl | omega
  | 3 => simp only [up, mOf, pIx]; (repeat' split) <;> first | rfl | omega
  | 4 => simp only [up, mOf, pIx]; (repeat' split) <;> first | rfl | omega
  | 5 => simp only [up, mOf, pIx]; (repeat' split) <;> first | rfl | omega
  | 6 => simp only [up, mOf, pIx]; (repeat' split) <;> first | rfl | omega
  | 7 => simp only [up, mOf, pIx]; (repeat' split) <;> first | rfl | omega
  | 8 => simp only [up, mOf, pIx]; (repeat' split) <;> first | rfl | omega
  | 9 => simp only [up, mOf, pIx]; (repeat' split) <;> first | rfl | omega
  | 10 => simp only [up, mOf, pIx]; (repeat' split) <;> first | rfl | omega
  | 11 => simp only [up, mOf, pIx]; (repeat' split) <;> first | rfl | omega
  | 12 => simp only [up, mOf, pIx]; (repeat' split) <;> first | rfl | omega
  | 13 => simp only [up, mOf, pIx]; (repeat' split) <;> first | rfl | omega
  | 14 => simp only [up, mOf, pIx]; (repeat' split) <;> first | rfl | omega
  | 15 => simp only [up, mOf, pIx]; (repeat' split) <;> first | rfl | omega
  | 16 => simp only [up, mOf, pIx]; (repeat' split) <;> first | rfl | omega
  | 17 => simp only [up, mOf, pIx]; (repeat' split) <;> first | rfl | omega
  | 18 => simp only [up, mOf, pIx]; (repeat' split) <;> first | rfl | omega
  | 19 => simp only [up, mOf, pIx]; (repeat' split) <;> first | rfl | omega
  | 20 => simp only [up, mOf, pIx]; (repeat' split) <;> first | rfl | omega
  | x + 21 => simp only [up, mOf]; (repeat' split) <;> first | rfl | omega
set_option maxHeartbeats 1000000 in
theorem mU_13 {rf v : Int} {σ : Sg} {i : Nat} (hi : i < 8) : up (mOf rf σ) 14 i v = mOf rf (up σ (9 + i) 13 v) := by
  funext x y
  match x with
  | 0 => simp only [up, mOf, pIx]; (repeat' split) <;> first | rfl | omega
  | 1 => simp only [up, mOf, pIx]; (repeat' split) <;> first | rfl | omega
  | 2 => simp only [up, mOf, pIx]; (repeat' split) <;> first | rfl | omega
  | 3 => simp only [up, mOf, pIx]; (repeat' split) <;> first | rfl | omega
  | 4 => simp only [up, mOf, pIx]; (repeat' split) <;> first | rfl | omega
  | 5 => simp only [up, mOf, pIx]; (repeat' split) <;> first | rfl | omega
  | 6 => simp only [up, mOf, pIx]; (repeat' split) <;> first | rfl | omega
  | 7 => simp only [up, mOf, pIx]; (repeat' split) <;> first | rfl | omega
  | 8 => simp only [up, mOf, pIx]; (repeat' split) <;> first | rfl | omega
  | 9 => simp only [up, mOf, pIx]; (repeat' split) <;> first | rfl | omega
  | 10 => simp only [up, mOf, pIx]; (repeat' split) <;> first | rfl | omega
  | 11 => simp only [up, mOf, pIx]; (repeat' split) <;> first | rfl | omega
  | 12 => simp only [up, mOf, pIx]; (repeat' split) <;> first | rfl | omega
  | 13 => simp only [up, mOf, pIx]; (repeat' split) <;> first | rfl | omega
  | 14 => simp only [up, mOf, pIx]; (repeat' split) <;> first | rfl | omega
  | 15 => simp only [up, mOf, pIx]; (repeat' split) <;> first | rfl | omega
  | 16 => simp only [up, mOf, pIx]; (repeat' split) <;> first | rfl | omega
  | 17 => simp only [up, mOf, pIx]; (repeat' split) <;> first | rfl | omega
  | 18 => simp only [up, mOf, pIx]; (repeat' split) <;> first | rfl | omega
  | 19 => simp only [up, mOf, pIx]; (repeat' split) <;> first | rfl | omega
  | 20 => simp only [up, mOf, pIx]; (repeat' split) <;> first | rfl | omega
  | x + 21 => simp only [up, mOf]; (repeat' split) <;> first | rfl | omega
set_option maxHeartbeats 1000000 in
theorem mU_14 {rf v : Int} {σ : Sg} {i : Nat} (hi : i < 8) : up (mOf rf σ) 16 i v = mOf rf (up σ (9 + i) 14 v) := by
  funext x y
  match x with
  | 0 => simp only [up, mOf, pIx]; (repeat' split) <;> first | rfl | omega
  | 1 => simp only [up, mOf, pIx]; (repeat' split) <;> first | rfl | omega
  | 2 => simp only [up, mOf, pIx]; (repeat' split) <;> first | rfl | omega
  | 3 => simp only [up, mOf, pIx]; (repeat' split) <;> first | rfl | omega
  | 4 => simp only [up, mOf, pIx]; (repeat' split) <;> first | rfl | omega
  | 5 => simp only [up, mOf, pIx]; (repeat' split) <;> first | rfl | omega
  | 6 => simp only [up, mOf, pIx]; (repeat' split) <;> first | rfl | omega
  | 7 => simp only [up, mOf, pIx]; (repeat' split) <;> first | rfl | omega
  | 8 => simp only [up, mOf, pIx]; (repeat' split) <;> first | rfl | omega
  | 9 => simp only [up, mOf, pIx]; (repeat' split) <;> first | rfl | omega
  | 10 => simp only [up, mOf, pIx]; (repeat' split) <;> first | rfl | omega
  | 11 => simp only [up, mOf, pIx]; (repeat' split) <;> first | rfl | omega
  | 12 => simp only [up, mOf, pIx]; (repeat' split) <;> first | rfl | omega
  | 13 => simp only [up, mOf, pIx]; (repeat' split) <;> first | rfl | omega
  | 14 => simp only [up, mOf, pIx]; (repeat' split) <;> first | rfl | omega
  | 15 => simp only [up, mOf, pIx]; (repeat' split) <;> first | rfl | omega
  | 16 => simp only [up, mOf, pIx]; (repeat' split) <;> first | rfl | omega
  | 17 => simp only [up, mOf, pIx]; (repeat' split) <;> first | rfl | omega
  | 18 => simp only [up, mOf, pIx]; (repeat' split) <;> first | rfl | omega
  | 19 => simp only [up, mOf, pIx]; (repeat' split) <;> first | rfl | omega
  | 20 => simp only [up, mOf, pIx]; (repeat' split) <;> first | rfl | omega
  | x + 21 => simp only [up, mOf]; (repeat' split) <;> first | rfl | omega
set_option maxHeartbeats 1000000 in
theorem mU_16 {rf v : Int} {σ : Sg} {i : Nat} (hi : i < 8) : up (mOf rf σ) 15 i v = mOf rf (up σ (9 + i) 16 v) := by
  funext x y
  match x with
  | 0 => simp only [up, mOf, pIx]; (repeat' split) <;> first | rfl | omega
  | 1 => simp only [up, mOf, pIx]; (repeat' split) <;> first | rfl | omega
  | 2 => simp only [up, mOf, pIx]; (repeat' split) <;> first | rfl | omega
  | 3 => simp only [up, mOf, pIx]; (repeat' split) <;> first | rfl | omega
  | 4 => simp only [up, mOf, pIx]; (repeat' split) <;> first | rfl | omega
  | 5 => simp only [up, mOf, pIx]; (repeat' split) <;> first | rfl | omega
  | 6 => simp only [up, mOf, pIx]; (repeat' split) <;> first | rfl | omega
  | 7 => simp only [up, mOf, pIx]; (repeat' split) <;> first | rfl | omega
  | 8 => simp only [up, mOf, pIx]; (repeat' split) <;> first | rfl | omega
  | 9 => simp only [up, mOf, pIx]; (repeat' split) <;> first | rfl | omega
  | 10 => simp only [up, mOf, pIx]; (repeat' split) <;> first | rfl | omega
  | 11 => simp only [up, mOf, pIx]; (repeat' split) <;> first | rfl | omega
  | 12 => simp only [up, mOf, pIx]; (repeat' split) <;> first | rfl | omega
  | 13 => simp only [up, mOf, pIx]; (repeat' split) <;> first | rfl | omega
  | 14 => simp only [up, mOf, pIx]; (repeat' split) <;> first | rfl | omega
  | 15 => simp only [up, mOf, pIx]; (repeat' split) <;> first | rfl | omega
  | 16 => simp only [up, mOf, pIx]; (repeat' split) <;> first | rfl | omega
  | 17 => simp only [up, mOf, pIx]; (repeat' split) <;> first | rfl | omega
  | 18 => simp only [up, mOf, pIx]; (repeat' split) <;> first | rfl | omega
  | 19 => simp only [up, mOf, pIx]; (repeat' split) <;> first | rfl | omega
  | 20 => simp only [up, mOf, pIx]; (repeat' split) <;> first | rfl | omega
  | x + 21 => simp only [up, mOf]; (repeat' split) <;> first | rfl | omega
set_option maxHeartbeats 1000000 in
theorem mU_12 {rf v : Int} {σ : Sg} {i : Nat} (hi : i < 8) (hc : (i : Int) < σ 0 2) : up (mOf rf σ) 13 i v = mOf rf (up σ (9 + i) 12 v) := by
  funext x y
  match x with
  | 0 => simp only [up, mOf, pIx]; (repeat' split) <;> first | rfl | omega
  | 1 => simp only [up, mOf, pIx]; (repeat' split) <;> first | rfl | omega
  | 2 => simp only [up, mOf, pIx]; (repeat' split) <;> first | rfl | omega
  | 3 => simp only [up, mOf, pIx]; (repeat' split) <;> first | rfl | omega
  | 4 => simp only [up, mOf, pIx]; (repeat' split) <;> first | rfl | omega
  | 5 => simp only [up, mOf, pIx]; (repeat' split) <;> first | rfl | omega
  | 6 => simp only [up, mOf, pIx]; (repeat' split) <;> first | rfl | omega
  | 7 => simp only [up, mOf, pIx]; (repeat' split) <;> first | rfl | omega
  | 8 => simp only [up, mOf, pIx]; (repeat' split) <;> first | rfl | omega
  | 9 => simp only [up, mOf, pIx]; (repeat' split) <;> first | rfl | omega
  | 10 => simp only [up, mOf, pIx]; (repeat' split) <;> first | rfl | omega
  | 11 => simp only [up, mOf, pIx]; (repeat' split) <;> first | rfl | omega
  | 12 => simp only [up, mOf, pIx]; (repeat' split) <;> first | rfl | omega
  | 13 => simp only [up, mOf, pIx]; (repeat' split) <;> first | rfl | omega
  | 14 => simp only [up, mOf, pIx]; (repeat' split) <;> first | rfl | omega
  | 15 => simp only [up, mOf, pIx]; (repeat' split) <;> first | rfl | omega
  | 16 => simp only [up, mOf, pIx]; (repeat' split) <;> first | rfl | omega
  | 17 => simp only [up, mOf, pIx]; (repeat' split) <;> first | rfl | omega
  | 18 => simp only [up, mOf, pIx]; (repeat' split) <;> first | rfl | omega
  | 19 => simp only [up, mOf, pIx]; (repeat' split) <;> first | rfl | omega
  | 20 => simp only [up, mOf, pIx]; (repeat' split) <;> first | rfl | omega
  | x + 21 => simp only [up, mOf]; (repeat' split) <;> first | rfl | omega
set_option maxHeartbeats 1000000 in
theorem mU_15 {rf v : Int} {σ : Sg} {i : Nat} (hi : i < 8) (hc : (i : Int) < σ 0 2) : up (mOf rf σ) 17 i v = mOf rf (up σ (9 + i) 15 v) := by
  funext x y
  match x with
  | 0 => simp only [up, mOf, pIx]; (repeat' split) <;> first | rfl | omega
  | 1 => simp only [up, mOf, pIx]; (repeat' split) <;> first | rfl | omega
  | 2 => simp only [up, mOf, pIx]; (repeat' split) <;> first | rfl | omega
  | 3 => simp only [up, mOf, pIx]; (repeat' split) <;> first | rfl | omega
  | 4 => simp only [up, mOf, pIx]; (repeat' split) <;> first | rfl | omega
  | 5 => simp only [up, mOf, pIx]; (repeat' split) <;> first | rfl | omega
  | 6 => simp only [up, mOf, pIx]; (repeat' split) <;> first | rfl | omega
  | 7 => simp only [up, mOf, pIx]; (repeat' split) <;> first | rfl | omega
  | 8 => simp only [up, mOf, pIx]; (repeat' split) <;> first | rfl | omega
  | 9 => simp only [up, mOf, pIx]; (repeat' split) <;> first | rfl | omega
  | 10 => simp only [up, mOf, pIx]; (repeat' split) <;> first | rfl | omega
  | 11 => simp only [up, mOf, pIx]; (repeat' split) <;> first | rfl | omega
  | 12 => simp only [up, mOf, pIx]; (repeat' split) <;> first | rfl | omega
  | 13 => simp only [up, mOf, pIx]; (repeat' split) <;> first | rfl | omega
  | 14 => simp only [up, mOf, pIx]; (repeat' split) <;> first | rfl | omega
  | 15 => simp only [up, mOf, pIx]; (repeat' split) <;> first | rfl | omega
  | 16 => simp only [up, mOf, pIx]; (repeat' split) <;> first | rfl | omega
  | 17 => simp only [up, mOf, pIx]; (repeat' split) <;> first | rfl | omega
  | 18 => simp only [up, mOf, pIx]; (repeat' split) <;> first | rfl | omega
  | 19 => simp only [up, mOf, pIx]; (repeat' split) <;> first | rfl | omega
  | 20 => simp only [up, mOf, pIx]; (repeat' split) <;> first | rfl | omega
  | x + 21 => simp only [up, mOf]; (repeat' split) <;> first | rfl | omega
set_option maxHeartbeats 1000000 in
theorem mU_P {rf v : Int} {σ : Sg} {i k : Nat} (hi : i < 8) (hk : k < 5) : up (mOf rf σ) 19 (5 * i + k) v = mOf rf (up σ (17 + i) k v) := by
  funext x y
  match x with
  | 0 => simp only [up, mOf, pIx]; (repeat' split) <;> first | rfl | omega
  | 1 => simp only [up, mOf, pIx]; (repeat' split) <;> first | rfl | omega
  | 2 => simp only [up, mOf, pIx]; (repeat' split) <;> first | rfl | omega
  | 3 => simp only [up, mOf, pIx]; (repeat' split) <;> first | rfl | omega
  | 4 => simp only [up, mOf, pIx]; (repeat' split) <;> first | rfl | omega
  | 5 => simp only [up, mOf, pIx]; (repeat' split) <;> first | rfl | omega
  | 6 => simp only [up, mOf, pIx]; (repeat' split) <;> first | rfl | omega
  | 7 => simp only [up, mOf, pIx]; (repeat' split) <;> first | rfl | omega
  | 8 => simp only [up, mOf, pIx]; (repeat' split) <;> first | rfl | omega
  | 9 => simp only [up, mOf, pIx]; (repeat' split) <;> first | rfl | omega
  | 10 => simp only [up, mOf, pIx]; (repeat' split) <;> first | rfl | omega
  | 11 => simp only [up, mOf, pIx]; (repeat' split) <;> first | rfl | omega
  | 12 => simp only [up, mOf, pIx]; (repeat' split) <;> first | rfl | omega
  | 13 => simp only [up, mOf, pIx]; (repeat' split) <;> first | rfl | omega
  | 14 => simp only [up, mOf, pIx]; (repeat' split) <;> first | rfl | omega
  | 15 => simp only [up, mOf, pIx]; (repeat' split) <;> first | rfl | omega
  | 16 => simp only [up, mOf, pIx]; (repeat' split) <;> first | rfl | omega
  | 17 => simp only [up, mOf, pIx]; (repeat' split) <;> first | rfl | omega
  | 18 => simp only [up, mOf, pIx]; (repeat' split) <;> first | rfl | omega
  | 19 =>
    show up (mOf rf σ) 19 (5 * i + k) v 19 y = if y < 40 then up σ (17 + i) k v (17 + y / 5) (y % 5) else 0
    by_cases hy : y = 5 * i + k
    · subst hy
      rw [up_s, if_pos (by omega), show (5 * i + k) / 5 = i by omega, show (5 * i + k) % 5 = k by omega, up_s]
    · rw [up_b hy]
      show (if y < 40 then σ (17 + y / 5) (y % 5) else 0) = _
      by_cases h : y < 40
      · rw [if_pos h, if_pos h]
        by_cases e : y % 5 = k
        · rw [up_a (by omega)]
        · rw [up_b e]
      · rw [if_neg h, if_neg h]
  | 20 => simp only [up, mOf, pIx]; (repeat' split) <;> first | rfl | omega
  | x + 21 => simp only [up, mOf]; (repeat' split) <;> first | rfl | omega
set_option maxHeartbeats 1000000 in
theorem mU_N {rf v : Int} {σ : Sg} {i k : Nat} (hi : i < 3) (hk : k < 4) : up (mOf rf σ) 1 (4 * i + k) v = mOf rf (up σ (6 + i) k v) := by
  funext x y
  match x with
  | 0 => simp only [up, mOf, pIx]; (repeat' split) <;> first | rfl | omega
  | 1 =>
    show up (mOf rf σ) 1 (4 * i + k) v 1 y = if y < 12 then up σ (6 + i) k v (6 + y / 4) (y % 4) else 0
    by_cases hy : y = 4 * i + k
    · subst hy
      rw [up_s, if_pos (by omega), show (4 * i + k) / 4 = i by omega, show (4 * i + k) % 4 = k by omega, up_s]
    · rw [up_b hy]
      show (if y < 12 then σ (6 + y / 4) (y % 4) else 0) = _
      by_cases h : y < 12
      · rw [if_pos h, if_pos h]
        by_cases e : y % 4 = k
        · rw [up_a (by omega)]
        · rw [up_b e]
      · rw [if_neg h, if_neg h]
  | 2 => simp only [up, mOf, pIx]; (repeat' split) <;> first | rfl | omega
  | 3 => simp only [up, mOf, pIx]; (repeat' split) <;> first | rfl | omega
  | 4 => simp only [up, mOf, pIx]; (repeat' split) <;> first | rfl | omega
  | 5 => simp only [up, mOf, pIx]; (repeat' split) <;> first | rfl | omega
  | 6 => simp only [up, mOf, pIx]; (repeat' split) <;> first | rfl | omega
  | 7 => simp only [up, mOf, pIx]; (repeat' split) <;> first | rfl | omega
  | 8 => simp only [up, mOf, pIx]; (repeat' split) <;> first | rfl | omega
  | 9 => simp only [up, mOf, pIx]; (repeat' split) <;> first | rfl | omega
  | 10 => simp only [up, mOf, pIx]; (repeat' split) <;> first | rfl | omega
  | 11 => simp only [up, mOf, pIx]; (repeat' split) <;> first | rfl | omega
  | 12 => simp only [up, mOf, pIx]; (repeat' split) <;> first | rfl | omega
  | 13 => simp only [up, mOf, pIx]; (repeat' split) <;> first | rfl | omega
  | 14 => simp only [up, mOf, pIx]; (repeat' split) <;> first | rfl | omega
  | 15 => simp only [up, mOf, pIx]; (repeat' split) <;> first | rfl | omega
  | 16 => simp only [up, mOf, pIx]; (repeat' split) <;> first | rfl | omega
  | 17 => simp only [up, mOf, pIx]; (repeat' split) <;> first | rfl | omega
  | 18 => simp only [up, mOf, pIx]; (repeat' split) <;> first | rfl | omega
  | 19 => simp only [up, mOf, pIx]; (repeat' split) <;> first | rfl | omega
  | 20 => simp only [up, mOf, pIx]; (repeat' split) <;> first | rfl | omega
  | x + 21 => simp only [up, mOf]; (repeat' split) <;> first | rfl | omega
set_option maxHeartbeats 1000000 in
theorem mU_C1 {rf v : Int} {σ : Sg} {i : Nat} (hi : i < 3) : up (mOf rf σ) 2 i v = mOf rf (up σ (3 + i) 1 v) := by
  funext x y
  match x with
  | 0 => simp only [up, mOf, pIx]; (repeat' split) <;> first | rfl | omega
  | 1 => simp only [up, mOf, pIx]; (repeat' split) <;> first | rfl | omega
  | 2 => simp only [up, mOf, pIx]; (repeat' split) <;> first | rfl | omega
  | 3 => simp only [up, mOf, pIx]; (repeat' split) <;> first | rfl | omega
  | 4 => simp only [up, mOf, pIx]; (repeat' split) <;> first | rfl | omega
  | 5 => simp only [up, mOf, pIx]; (repeat' split) <;> first | rfl | omega
  | 6 => simp only [up, mOf, pIx]; (repeat' split) <;> first | rfl | omega
  | 7 => simp only [up, mOf, pIx]; (repeat' split) <;> first | rfl | omega
  | 8 => simp only [up, mOf, pIx]; (repeat' split) <;> first | rfl | omega
  | 9 => simp only [up, mOf, pIx]; (repeat' split) <;> first | rfl | omega
  | 10 => simp only [up, mOf, pIx]; (repeat' split) <;> first | rfl | omega
  | 11 => simp only [up, mOf, pIx]; (repeat' split) <;> first | rfl | omega
  | 12 => simp only [up, mOf, pIx]; (repeat' split) <;> first | rfl | omega
  | 13 => simp only [up, mOf, pIx]; (repeat' split) <;> first | rfl | omega
  | 14 => simp only [up, mOf, pIx]; (repeat' split) <;> first | rfl | omega
  | 15 => simp only [up, mOf, pIx]; (repeat' split) <;> first | rfl | omega
  | 16 => simp only [up, mOf, pIx]; (repeat' split) <;> first | rfl | omega
  | 17 => simp only [up, mOf, pIx]; (repeat' split) <;> first | rfl | omega
  | 18 => simp only [up, mOf, pIx]; (repeat' split) <;> first | rfl | omega
  | 19 => simp only [up, mOf, pIx]; (repeat' split) <;> first | rfl | omega
  | 20 => simp only [up, mOf, pIx]; (repeat' split) <;> first | rfl | omega
  | x + 21 => simp only [up, mOf]; (repeat' split) <;> first | rfl | omega
set_option maxHeartbeats 1000000 in
theorem mU_C2 {rf v : Int} {σ : Sg} {i : Nat} (hi : i < 3) : up (mOf rf σ) 3 i v = mOf rf (up σ (3 + i) 2 v) := by
  funext x y
  match x with
  | 0 => simp only [up, mOf, pIx]; (repeat' split) <;> first | rfl | omega
  | 1 => simp only [up, mOf, pIx]; (repeat' split) <;> first | rfl | omega
  | 2 => simp only [up, mOf, pIx]; (repeat' split) <;> first | rfl | omega
  | 3 => simp only [up, mOf, pIx]; (repeat' split) <;> first | rfl | omega
  | 4 => simp only [up, mOf, pIx]; (repeat' split) <;> first | rfl | omega
  | 5 => simp only [up, mOf, pIx]; (repeat' split) <;> first | rfl | omega
  | 6 => simp only [up, mOf, pIx]; (repeat' split) <;> first | rfl | omega
  | 7 => simp only [up, mOf, pIx]; (repeat' split) <;> first | rfl | omega
  | 8 => simp only [up, mOf, pIx]; (repeat' split) <;> first | rfl | omega
  | 9 => simp only [up, mOf, pIx]; (repeat' split) <;> first | rfl | omega
  | 10 => simp only [up, mOf, pIx]; (repeat' split) <;> first | rfl | omega
  | 11 => simp only [up, mOf, pIx]; (repeat' split) <;> first | rfl | omega
  | 12 => simp only [up, mOf, pIx]; (repeat' split) <;> first | rfl | omega
  | 13 => simp only [up, mOf, pIx]; (repeat' split) <;> first | rfl | omega
  | 14 => simp only [up, mOf, pIx]; (repeat' split) <;> first | rfl | omega
  | 15 => simp only [up, mOf, pIx]; (repeat' split) <;> first | rfl | omega
  | 16 => simp only [up, mOf, pIx]; (repeat' split) <;> first | rfl | omega
  | 17 => simp only [up, mOf, pIx]; (repeat' split) <;> first | rfl | omega
  | 18 => simp only [up, mOf, pIx]; (repeat' split) <;> first | rfl | omega
  | 19 => simp only [up, mOf, pIx]; (repeat' split) <;> first | rfl | omega
  | 20 => simp only [up, mOf, pIx]; (repeat' split) <;> first | rfl | omega
  | x + 21 => simp only [up, mOf]; (repeat' split) <;> first | rfl | omega
set_option maxHeartbeats 1000000 in
theorem mU_s {rf v : Int} {σ : Sg}  : up (mOf rf σ) 0 1 v = mOf rf (up σ 0 3 v) := by
  funext x y
  match x with
  | 0 => simp only [up, mOf, pIx]; (repeat' split) <;> first | rfl | omega
  | 1 => simp only [up, mOf, pIx]; (repeat' split) <;> first | rfl | omega
  | 2 => simp only [up, mOf, pIx]; (repeat' split) <;> first | rfl | omega
  | 3 => simp only [up, mOf, pIx]; (repeat' split) <;> first | rfl | omega
  | 4 => simp only [up, mOf, pIx]; (repeat' split) <;> first | rfl | omega
  | 5 => simp only [up, mOf, pIx]; (repeat' split) <;> first | rfl | omega
  | 6 => simp only [up, mOf, pIx]; (repeat' split) <;> first | rfl | omega
  | 7 => simp only [up, mOf, pIx]; (repeat' split) <;> first | rfl | omega
  | 8 => simp only [up, mOf, pIx]; (repeat' split) <;> first | rfl | omega
  | 9 => simp only [up, mOf, pIx]; (repeat' split) <;> first | rfl | omega
  | 10 => simp only [up, mOf, pIx]; (repeat' split) <;> first | rfl | omega
  | 11 => simp only [up, mOf, pIx]; (repeat' split) <;> first | rfl | omega
  | 12 => simp only [up, mOf, pIx]; (repeat' split) <;> first | rfl | omega
  | 13 => simp only [up, mOf, pIx]; (repeat' split) <;> first | rfl | omega
  | 14 => simp only [up, mOf, pIx]; (repeat' split) <;> first | rfl | omega
  | 15 => simp only [up, mOf, pIx]; (repeat' split) <;> first | rfl | omega
  | 16 => simp only [up, mOf, pIx]; (repeat' split) <;> first | rfl | omega
  | 17 => simp only [up, mOf, pIx]; (repeat' split) <;> first | rfl | omega
  | 18 => simp only [up, mOf, pIx]; (repeat' split) <;> first | rfl | omega
  | 19 => simp only [up, mOf, pIx]; (repeat' split) <;> first | rfl | omega
  | 20 => simp only [up, mOf, pIx]; (repeat' split) <;> first | rfl | omega
  | x + 21 => simp only [up, mOf]; (repeat' split) <;> first | rfl | omega
set_option maxHeartbeats 1000000 in
theorem mU_k {rf v : Int} {σ : Sg}  : up (mOf rf σ) 0 2 v = mOf rf (up σ 0 4 v) := by
  funext x y
  match x with
  | 0 => simp only [up, mOf, pIx]; (repeat' split) <;> first | rfl | omega
  | 1 => simp only [up, mOf, pIx]; (repeat' split) <;> first | rfl | omega
  | 2 => simp only [up, mOf, pIx]; (repeat' split) <;> first | rfl | omega
  | 3 => simp only [up, mOf, pIx]; (repeat' split) <;> first | rfl | omega
  | 4 => simp only [up, mOf, pIx]; (repeat' split) <;> first | rfl | omega
  | 5 => simp only [up, mOf, pIx]; (repeat' split) <;> first | rfl | omega
  | 6 => simp only [up, mOf, pIx]; (repeat' split) <;> first | rfl | omega
  | 7 => simp only [up, mOf, pIx]; (repeat' split) <;> first | rfl | omega
  | 8 => simp only [up, mOf, pIx]; (repeat' split) <;> first | rfl | omega
  | 9 => simp only [up, mOf, pIx]; (repeat' split) <;> first | rfl | omega
  | 10 => simp only [up, mOf, pIx]; (repeat' split) <;> first | rfl | omega
  | 11 => simp only [up, mOf, pIx]; (repeat' split) <;> first | rfl | omega
  | 12 => simp only [up, mOf, pIx]; (repeat' split) <;> first | rfl | omega
  | 13 => simp only [up, mOf, pIx]; (repeat' split) <;> first | rfl | omega
  | 14 => simp only [up, mOf, pIx]; (repeat' split) <;> first | rfl | omega
  | 15 => simp only [up, mOf, pIx]; (repeat' split) <;> first | rfl | omega
  | 16 => simp only [up, mOf, pIx]; (repeat' split) <;> first | rfl | omega
  | 17 => simp only [up, mOf, pIx]; (repeat' split) <;> first | rfl | omega
  | 18 => simp only [up, mOf, pIx]; (repeat' split) <;> first | rfl | omega
  | 19 => simp only [up, mOf, pIx]; (repeat' split) <;> first | rfl | omega
  | 20 => simp only [up, mOf, pIx]; (repeat' split) <;> first | rfl | omega
  | x + 21 => simp only [up, mOf]; (repeat' split) <;> first | rfl | omega
