/-! what the class's methods do to the state -/
def mn (x y : Int) : Int := if y < x then y else x
section KM
variable {p : Program} {l : Launch} {e : Env} {R : Room} {s : State} {m : MethodId} {args : Array Value} {below : List Frame} {meth : Method} {c : Code} {H : Heap} {locs : List Loc} {cells slots : Nat} {Q : State → Prop} {cc : ByteArray} {pc : Nat} {ls : Array Slot} {rest : List Value}
theorem k_mminl (hx : p.tables.exec = Jvm.exec) (hb : c.code = cc) (hml : c.maxLocals = ls.size) {own : String} {index : Nat} (hown : s.vm.findClass own = some m.cls) (hlink : (Cond.methodLink own index Lib.MathLoose.min_long.x).before args s = true) (hstat : (Cond.static Lib.MathLoose.min_long.x).before args s = true) (hini : (Cond.initialized "java/lang/Math").before args s = true) (hcode : (Cond.code Lib.MathLoose.min_long.x Lib.MathLoose.min_long.code 4 (some .long)).before args s = true)
    (hframes : 1 ≤ R.frames) (hlocals : (rest.map fun v => v.category).sum + 15 ≤ R.locals) (hc : cells ≤ R.cells) (hs : slots ≤ R.slots) {x y : Int} (hA : lB x) (hB : lB y) (hd : decode cc pc = .ok (.invokestatic index, 3))
    (kk : W p l e R s m args below meth c H locs cells slots Q (F0 m (pc + 3) ls (.long (iL (mn x y)) :: rest))) : W p l e R s m args below meth c H locs cells slots Q (F0 m pc ls (.long (iL y) :: .long (iL x) :: rest)) :=
  va_mmin_long hx hb hml hown hlink hstat hini hcode hframes hlocals hc hs hd (by
    have e : (if iL y < iL x then iL y else iL x) = iL (mn x y) := by
      by_cases h : y < x
      · rw [if_pos ((iL_lt hB hA).mpr h), mn, if_pos h]
      · rw [if_neg (fun h' => h ((iL_lt hB hA).mp h')), mn, if_neg h]
    rw [e]; exact kk)
theorem k_mmini (hx : p.tables.exec = Jvm.exec) (hb : c.code = cc) (hml : c.maxLocals = ls.size) {own : String} {index : Nat} (hown : s.vm.findClass own = some m.cls) (hlink : (Cond.methodLink own index Lib.Math.min.name).before args s = true) (hstat : (Cond.static Lib.Math.min.name).before args s = true) (hini : (Cond.initialized "java/lang/Math").before args s = true) (hcode : (Cond.code Lib.Math.min.name Lib.Math.min.code 2 (some .int)).before args s = true)
    (hframes : 1 ≤ R.frames) (hlocals : (rest.map fun v => v.category).sum + 13 ≤ R.locals) (hc : cells ≤ R.cells) (hs : slots ≤ R.slots) {x y : Int} (hA : nB x) (hB : nB y) (hd : decode cc pc = .ok (.invokestatic index, 3))
    (kk : W p l e R s m args below meth c H locs cells slots Q (F0 m (pc + 3) ls (.int (iI (mn x y)) :: rest))) : W p l e R s m args below meth c H locs cells slots Q (F0 m pc ls (.int (iI y) :: .int (iI x) :: rest)) :=
  va_mmin hx hb hml hown hlink hstat hini hcode hframes hlocals hc hs hd (by
    have e : (if iI y < iI x then iI y else iI x) = iI (mn x y) := by
      by_cases h : y < x
      · rw [if_pos ((iI_lt hB hA).mpr h), mn, if_pos h]
      · rw [if_neg (fun h' => h ((iI_lt hB hA).mp h')), mn, if_neg h]
    rw [e]; exact kk)
end KM
theorem mn_le1 (x y : Int) : mn x y ≤ x := by unfold mn; split <;> omega
theorem mn_le2 (x y : Int) : mn x y ≤ y := by unfold mn; split <;> omega
theorem mn_ge (x y a : Int) (h1 : a ≤ x) (h2 : a ≤ y) : a ≤ mn x y := by unfold mn; split <;> omega
/-- f over the first n -/
def itr (f : Sg → Nat → Sg) (σ : Sg) : Nat → Sg
  | 0 => σ
  | n + 1 => f (itr f σ n) n
def fNeed (σ : Sg) (c : Nat) : Nat → Int
  | 0 => 0
  | n + 1 => fNeed σ c n + σ (6 + c) n
/-- needUpTo(stage) -/
def fNeedUp (σ : Sg) (c : Nat) (st : Int) : Int := fNeed σ c (mn 4 (st + 1)).toNat
def fPlanted (σ : Sg) (i : Nat) : Int := if σ (9 + i) 12 = -1 then 0 else 1
def fCharge (σ : Sg) (i : Nat) (x : Int) : Sg := up (up σ (9 + i) 2 (σ (9 + i) 2 + x)) (9 + i) 4 (σ (9 + i) 4 + x)
def fInterest (σ : Sg) (i : Nat) : Sg := fCharge σ i (σ (9 + i) 2 * 2 / 100)
def fLower (σ : Sg) (i : Nat) (x : Int) (src : Nat) : Sg := up (up σ (9 + i) 2 (σ (9 + i) 2 - x)) (17 + i) src (σ (17 + i) src + x)
def fReceive (σ : Sg) (i : Nat) (x : Int) (src : Nat) : Sg := up (fLower σ i (mn x (σ (9 + i) 2)) src) (9 + i) 1 (σ (9 + i) 1 + (x - mn x (σ (9 + i) 2)))
def fRepay (σ : Sg) (i : Nat) (x : Int) : Sg := fLower (up σ (9 + i) 1 (σ (9 + i) 1 - x)) i x 0
def fHarvest0 (σ : Sg) (i c : Nat) : Sg := up (up σ (9 + i) 9 (σ (9 + i) 9 + σ (9 + i) 13 * σ (3 + c) 2 * σ (9 + i) 15 / 100)) (9 + i) 11 (σ (9 + i) 12)
def fHarvest (σ : Sg) (i c : Nat) : Sg := if σ (9 + i) 15 < σ (9 + i) 14 then fReceive (fHarvest0 σ i c) i (σ (9 + i) 13 * σ (3 + c) 2 * σ (3 + c) 1 * (σ (9 + i) 14 - σ (9 + i) 15) / 100) 1 else fHarvest0 σ i c
def fPledge (σ : Sg) (i : Nat) (u pr : Int) : Sg := fReceive (up (up σ (9 + i) 10 (σ (9 + i) 10 + u)) (9 + i) 3 (σ (9 + i) 3 + u * pr * 60 / 100)) i (u * pr * 60 / 100) 2
def fMove (σ : Sg) (i : Nat) : Sg := up (fCharge σ i (σ (9 + i) 3)) (9 + i) 3 0
def fFree (σ : Sg) (i : Nat) (u : Int) : Int := mn u (σ (9 + i) 9 - σ (9 + i) 10)
def fLowered (σ : Sg) (i : Nat) (u pr : Int) : Int := mn ((u - fFree σ i u) * pr) (σ (9 + i) 3)
def fSell0 (σ : Sg) (i : Nat) (u pr : Int) : Sg := fReceive (up (up (up σ (9 + i) 9 (σ (9 + i) 9 - u)) (9 + i) 10 (σ (9 + i) 10 - (u - fFree σ i u))) (9 + i) 3 (σ (9 + i) 3 - fLowered σ i u pr)) i (fFree σ i u * pr + (u - fFree σ i u) * pr - fLowered σ i u pr) 3
def fSell (σ : Sg) (i : Nat) (u pr : Int) : Sg := if σ (9 + i) 10 - (u - fFree σ i u) = 0 then fMove (fSell0 σ i u pr) i else fSell0 σ i u pr
/-- takeInstalment() -/
def fTakeV (σ : Sg) (i : Nat) : Int := if 3 - σ (9 + i) 8 < 0 ∨ 3 ≤ 3 - σ (9 + i) 8 then 0 else σ (25 + i) (3 - σ (9 + i) 8).toNat
def fTake (σ : Sg) (i : Nat) : Sg := if 3 - σ (9 + i) 8 < 0 ∨ 3 ≤ 3 - σ (9 + i) 8 then σ else up σ (9 + i) 8 (σ (9 + i) 8 - 1)
def fSettle0 (σ : Sg) (i : Nat) : Sg := up (fTake (up σ (9 + i) 5 0) i) (9 + i) 2 (σ (9 + i) 2 + fTakeV (up σ (9 + i) 5 0) i)
def fSettle (σ : Sg) (i : Nat) : Sg := fRepay (fSettle0 σ i) i (mn (σ (9 + i) 2 + fTakeV (up σ (9 + i) 5 0) i) (σ (9 + i) 1))
def fSum (σ : Sg) (i : Nat) : Nat → Int
  | 0 => 0
  | k + 1 => fSum σ i k + (if 3 - σ (9 + i) 8 ≤ k then σ (25 + i) k else 0)
def fMayRoll (σ : Sg) (i : Nat) : Int := if ¬ σ (9 + i) 12 = -1 ∧ σ (9 + i) 15 < 60 ∧ σ (9 + i) 8 = 0 then 1 else 0
def fParts (σ : Sg) (i : Nat) : Nat → Sg
  | 0 => σ
  | k + 1 => up (fParts σ i k) (25 + i) k (σ (9 + i) 2 / 3)
def fRoll (σ : Sg) (i : Nat) : Sg := up (up (up (fParts σ i 3) (25 + i) 2 (σ (9 + i) 2 - σ (9 + i) 2 / 3 * 2)) (9 + i) 8 3) (9 + i) 2 0
def fPayC (σ : Sg) (i j : Nat) : Int := mn (σ (9 + j) 2) (mn (σ (9 + i) 1) (20000 - σ (9 + i) 5))
/-- i pays for j -/
def fPay (σ : Sg) (i j : Nat) : Sg := fLower (up (up σ (9 + i) 1 (σ (9 + i) 1 - fPayC σ i j)) (9 + i) 5 (σ (9 + i) 5 + fPayC σ i j)) j (fPayC σ i j) 4
def fForget (σ : Sg) (i : Nat) : Sg := up (up (up (up (up σ (9 + i) 12 (-1)) (9 + i) 13 0) (9 + i) 14 0) (9 + i) 15 100) (9 + i) 16 0
theorem fPl_0 (σ : Sg) (i : Nat) : fPlanted σ i = 0 ↔ σ (9 + i) 12 = -1 := by unfold fPlanted; split <;> simp_all
theorem fPl_nB (σ : Sg) (i : Nat) : nB (fPlanted σ i) := by unfold fPlanted; split <;> decide
theorem mulB {a b A B : Int} (h1 : 0 ≤ a ∧ a ≤ A) (h2 : 0 ≤ b ∧ b ≤ B) : 0 ≤ a * b ∧ a * b ≤ A * B := ⟨Int.mul_nonneg h1.1 h2.1, Int.mul_le_mul h1.2 h2.2 h2.1 (by omega)⟩
theorem fTake_o {σ : Sg} {i r b : Nat} (h : b ≠ 8) : fTake σ i r b = σ r b := by
  unfold fTake
  split
  · rfl
  · exact up_b h
