/-! READING A TEXT, AS THE CLASS DOES: h the byte at a place (0 behind the last) -/
def zbA (g : Nat → Int32) (n a : Nat) : Int32 := if a < n then g a else 0
abbrev zdgP (v : Int32) : Prop := nI 48 ≤ v ∧ v ≤ nI 57
def zcnt (h : Nat → Int32) : Nat → Nat → Nat | _, 0 => 0 | a, m + 1 => if zdgP (h a) then 1 + zcnt h (a + 1) m else 0
def zdgA (h : Nat → Int32) (a m : Nat) : Nat := if h a = nI 48 then 1 else zcnt h a m
def zval (h : Nat → Int32) (a : Nat) : Nat → Int32 | 0 => nI 0 | i + 1 => zval h a i * nI 10 + h (a + i) - nI 48
def zln (h : Nat → Int32) (a w : Nat) : Nat := if w = 100 then zdgA h a 1 else if w = 110 then zdgA h a 5 else if h a = nI w then 1 else 0
/-- the form of a letter, by its place -/
def zfm (v : Int32) : Nat := if v = nI 97 then 4 else if v = nI 98 then 3 else if v = nI 109 then 0 else if v = nI 114 then 0 else if v = nI 115 then 2 else if v = nI 119 then 1 else 5
theorem zfm_lt (v : Int32) : zfm v < 6 := by
  unfold zfm
  repeat' split
  all_goals decide
/-- behind what a form wants: whether all was there, and the place (of the first wrong byte) -/
def zpe (h : Nat → Int32) : List Nat → Nat → Bool × Nat | [], a => (true, a) | w :: l, a => if zln h a w = 0 then (false, a) else zpe h l (a + zln h a w)
/-- the numbers told meanwhile -/
def ztd (h : Nat → Int32) : List Nat → Nat → Nat → (Nat → Nat) → (Nat → Nat) | [], _, _, t => t | w :: l, a, k, t => if zln h a w = 0 then t else if (w = 100 ∨ w = 110) ∧ k < 3 then ztd h l (a + zln h a w) (k + 1) (fun b => if b = k then iN (zval h a (zln h a w)) else t b) else ztd h l (a + zln h a w) k t
theorem zcnt_y {h : Nat → Int32} {a m : Nat} (hd : zdgP (h a)) : zcnt h a (m + 1) = 1 + zcnt h (a + 1) m := by rw [zcnt, if_pos hd]
theorem zcnt_n {h : Nat → Int32} {a m : Nat} (hd : ¬ zdgP (h a)) : zcnt h a m = 0 := by
  cases m with
  | zero => rfl
  | succ m => rw [zcnt, if_neg hd]
theorem zcnt_le (h : Nat → Int32) : ∀ (m a : Nat), zcnt h a m ≤ m
  | 0, _ => Nat.le_refl _
  | m + 1, a => by
    rw [zcnt]
    split
    · have := zcnt_le h m (a + 1); omega
    · omega
theorem zdgA_le {h : Nat → Int32} {a m : Nat} (hm : 1 ≤ m) : zdgA h a m ≤ m := by
  unfold zdgA
  split
  · exact hm
  · exact zcnt_le h m a
theorem zln_le {h : Nat → Int32} {a w : Nat} : zln h a w ≤ 5 := by
  unfold zln
  split
  · exact Nat.le_trans (zdgA_le (by decide)) (by decide)
  · split
    · exact zdgA_le (by decide)
    · split <;> omega
theorem zdgP_t {v : Int32} (h1 : ¬ v < nI 48) (h2 : ¬ nI 57 < v) : zdgP v := ⟨Int32.not_lt.mp h1, Int32.not_lt.mp h2⟩
theorem zdgP_1 {v : Int32} (h1 : v < nI 48) : ¬ zdgP v := fun q => absurd h1 (Int32.not_lt.mpr q.1)
theorem zdgP_2 {v : Int32} (h1 : nI 57 < v) : ¬ zdgP v := fun q => absurd h1 (Int32.not_lt.mpr q.2)
/-- ~ of a place -/
def znt (a : Nat) : Int32 := nI a ^^^ nI 4294967295
theorem znt_is {a : Nat} (ha : a < 2147483648) : (znt a).toInt = -1 - (a : Int) ∧ znt a ^^^ nI 4294967295 = nI a := by
  have e : nI 4294967295 = -1 := by decide
  refine ⟨?_, ?_⟩
  · unfold znt
    have e2 : nI a ^^^ (-1 : Int32) = ~~~ (nI a) := by
      apply Int32.toBitVec_inj.mp
      show (nI a).toBitVec ^^^ (-1 : Int32).toBitVec = ~~~ (nI a).toBitVec
      rw [show (-1 : Int32).toBitVec = BitVec.allOnes 32 from by decide, BitVec.xor_allOnes]
    rw [e, e2, Int32.toInt_not, zi_of ha]
    show Int.bmod (-(a : Int) - 1) 4294967296 = _
    rw [Int.bmod_def]
    omega
  · unfold znt
    rw [e, Int32.xor_assoc, show (-1 : Int32) ^^^ (-1 : Int32) = 0 from by decide, Int32.xor_zero]
theorem znt_lt {a : Nat} (ha : a < 2147483648) : znt a < 0 := by
  rw [z32_lt, (znt_is ha).1, show (0 : Int32).toInt = 0 from by decide]
  omega
