/-! A STATEMENT COMES TO THE LAND: whether, and the land then -/
theorem zin_n {a lo hi : Nat} (ha : a < 2147483648) (hl : lo < 2147483648) (hh : hi < 2147483648) : (lN lo ≤ (nI a).toInt64 ∧ (nI a).toInt64 ≤ lN hi) ↔ (lo ≤ a ∧ a ≤ hi) := by
  simp only [z64_le, zi_l, zl_toInt (show lo < 9223372036854775808 by omega), zl_toInt (show hi < 9223372036854775808 by omega)]
  rw [zi_of (by omega)]; omega
abbrev zcoA (σ : MS) (i : Nat) : Prop :=
  (σ.2 22 i = 114 → σ.2 23 i ≤ 7 ∧ σ.2 24 i ≤ 7 ∧ σ.2 23 i ≠ σ.2 24 i ∧ (1 ≤ σ.2 25 i ∧ σ.2 25 i ≤ 60) ∧ σ.1 0 ≠ 16) ∧
  (σ.2 22 i = 119 → (1 ≤ σ.2 23 i ∧ σ.2 23 i ≤ 100) ∧ σ.2 24 i ≤ 7 ∧ σ.2 25 i ≤ 65535 ∧ σ.1 4 ≠ 5 ∧ zsum (σ.2 5) (σ.1 4) + σ.2 23 i ≤ 100) ∧
  (σ.2 22 i = 115 → σ.2 23 i ≤ 4 ∧ σ.2 25 i ≤ 99 ∧ σ.1 8 ≠ 6) ∧
  (σ.2 22 i = 109 → σ.2 23 i ≤ 7 ∧ σ.2 24 i < σ.1 8 ∧ σ.2 25 i ≤ 100 ∧ zsum (fun s => σ.2 11 (6 * σ.2 23 i + s)) 6 - σ.2 11 (6 * σ.2 23 i + σ.2 24 i) + σ.2 25 i ≤ 100) ∧
  (σ.2 22 i = 98 → σ.2 23 i ≤ 7) ∧ (σ.2 22 i = 97 → σ.2 23 i ≤ 30)
def zcoN (σ : MS) (i : Nat) : MS :=
  if σ.2 22 i = 114 then sF (sE (sE (sE σ 1 (σ.1 0) (σ.2 23 i)) 2 (σ.1 0) (σ.2 24 i)) 3 (σ.1 0) (σ.2 25 i)) 0 (σ.1 0 + 1)
  else if σ.2 22 i = 119 then sF (sE (sE (sE σ 5 (σ.1 4) (σ.2 23 i)) 6 (σ.1 4) (σ.2 24 i)) 7 (σ.1 4) (σ.2 25 i)) 4 (σ.1 4 + 1)
  else if σ.2 22 i = 115 then sF (sE (sE σ 9 (σ.1 8) (σ.2 23 i)) 10 (σ.1 8) (σ.2 25 i)) 8 (σ.1 8 + 1)
  else if σ.2 22 i = 109 then sE σ 11 (6 * σ.2 23 i + σ.2 24 i) (σ.2 25 i)
  else if σ.2 22 i = 98 then sF σ 12 (σ.2 23 i) else sF σ 13 (σ.2 23 i)
def zcoR (σ : MS) (i : Nat) : Nat := if zcoA σ i then 1 else 0
def zcoT (σ : MS) (i : Nat) : MS := if zcoA σ i then zcoN σ i else σ
theorem sF_self (σ : MS) (k : Nat) : sF σ k (σ.1 k) = σ := by
  refine Prod.ext (funext fun j => ?_) rfl
  show (if j = k then σ.1 k else σ.1 j) = σ.1 j
  split
  · rename_i h; rw [h]
  · rfl
/-- what was read stands in these bounds -/
abbrev zrdOk (σ : MS) (i : Nat) : Prop := i < 50 ∧ σ.2 23 i < 100000 ∧ σ.2 24 i < 10 ∧ σ.2 25 i < 100000 ∧ (σ.2 22 i = 114 ∨ σ.2 22 i = 119 ∨ σ.2 22 i = 115 ∨ σ.2 22 i = 109 ∨ σ.2 22 i = 98 ∨ σ.2 22 i = 97)
