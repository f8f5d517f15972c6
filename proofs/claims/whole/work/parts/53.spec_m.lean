/-! READING A LAND: what stands in the row; the place, whether it is bad -/
def zch (σ : MS) (a : Nat) : Nat := if a < σ.1 17 then σ.2 46 (σ.1 16 + a) % 256 else 4294967295
theorem zch_lt (σ : MS) (a : Nat) : zch σ a < 256 ∨ zch σ a = 4294967295 := by
  unfold zch
  split
  · exact Or.inl (Nat.mod_lt _ (by decide))
  · exact Or.inr rfl
def ztk (b h c : Nat) : Nat := if b ≠ 0 ∨ h ≠ c then 1 else 0
def zdg (b h : Nat) : Nat := if b ≠ 0 ∨ ¬ (48 ≤ h ∧ h ≤ 57) then 1 else 0
theorem zdig {h : Nat} (hh : h < 256 ∨ h = 4294967295) : (lN 48 ≤ (nI h).toInt64 ∧ (nI h).toInt64 ≤ lN 57) ↔ (48 ≤ h ∧ h ≤ 57) := by
  simp only [z64_le, zi_l, zl_toInt (show 48 < 9223372036854775808 by decide), zl_toInt (show 57 < 9223372036854775808 by decide)]
  rcases hh with h1 | h1
  · rw [zi_of (by omega)]; omega
  · rw [h1, zneg (by decide) (by decide)]; omega
/-- the state of reading: place a, bad b -/
def zp (σ : MS) (a b : Nat) : MS := (fun j => if j = 18 then a else if j = 19 then b else σ.1 j, σ.2)
theorem zp_F18 {σ : MS} {a b x : Nat} : sF (zp σ a b) 18 x = zp σ x b := by
  refine Prod.ext (funext fun j => ?_) rfl
  show (if j = 18 then x else if j = 18 then a else if j = 19 then b else σ.1 j) = (if j = 18 then x else if j = 19 then b else σ.1 j)
  split <;> rfl
theorem zp_F19 {σ : MS} {a b x : Nat} : sF (zp σ a b) 19 x = zp σ a x := by
  refine Prod.ext (funext fun j => ?_) rfl
  show (if j = 19 then x else if j = 18 then a else if j = 19 then b else σ.1 j) = (if j = 18 then a else if j = 19 then x else σ.1 j)
  by_cases h : j = 18
  · subst h; rfl
  · rw [if_neg h, if_neg h]; split <;> rfl
theorem zp_self (σ : MS) : σ = zp σ (σ.1 18) (σ.1 19) := by
  refine Prod.ext (funext fun j => ?_) rfl
  show σ.1 j = if j = 18 then σ.1 18 else if j = 19 then σ.1 19 else σ.1 j
  repeat (split; · rename_i h; rw [h])
  rfl
theorem zp_zp {σ : MS} {a b a' b' : Nat} : zp (zp σ a b) a' b' = zp σ a' b' := by
  refine Prod.ext (funext fun j => ?_) rfl
  show (if j = 18 then a' else if j = 19 then b' else if j = 18 then a else if j = 19 then b else σ.1 j) = (if j = 18 then a' else if j = 19 then b' else σ.1 j)
  by_cases h : j = 18
  · simp only [h, if_true, ite_true]
  · by_cases h2 : j = 19
    · simp only [h, h2, if_false, if_true, ite_true, ite_false]
    · simp only [h, h2, if_false, ite_false]
/-- bytes of the row that is read: small, or below 0 -/
abbrev zby8 (σ : MS) : Prop := ∀ i, i < σ.1 17 → σ.2 46 (σ.1 16 + i) < 128 ∨ (18446744073709551488 ≤ σ.2 46 (σ.1 16 + i) ∧ σ.2 46 (σ.1 16 + i) < 18446744073709551616)
abbrev zpOk (σ : MS) : Prop := σ.1 16 ≤ 700 ∧ σ.1 17 ≤ 100 ∧ σ.1 18 ≤ 100 ∧ σ.1 19 < 2
