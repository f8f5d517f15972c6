/-- more digits of a number, k at most, from a on -/
def znl (σ : MS) : Nat → Nat → Nat → Nat × Nat | 0, v, a => (v, a) | k + 1, v, a => if 0 < v ∧ 48 ≤ zch σ a ∧ zch σ a ≤ 57 then znl σ k (10 * v + zch σ a - 48) (a + 1) else (v, a)
theorem znl_stop {σ : MS} {v a : Nat} (h : ¬ (0 < v ∧ 48 ≤ zch σ a ∧ zch σ a ≤ 57)) : ∀ k, znl σ k v a = (v, a)
  | 0 => rfl
  | k + 1 => by rw [znl, if_neg h]
theorem znl_go {σ : MS} {v a k : Nat} (h : 0 < v ∧ 48 ≤ zch σ a ∧ zch σ a ≤ 57) : znl σ (k + 1) v a = znl σ k (10 * v + zch σ a - 48) (a + 1) := by rw [znl, if_pos h]
abbrev zB (σ : MS) : Nat := zdg (σ.1 19) (zch σ (σ.1 18))
def znum (σ : MS) : Nat × Nat := znl σ 4 (if zB σ = 0 then zch σ (σ.1 18) - 48 else 0) (if zB σ = 0 then σ.1 18 + 1 else σ.1 18)
theorem zdg_0 {b h : Nat} (e : zdg b h = 0) : b = 0 ∧ 48 ≤ h ∧ h ≤ 57 := by
  unfold zdg at e
  by_cases q : b ≠ 0 ∨ ¬ (48 ≤ h ∧ h ≤ 57)
  · rw [if_pos q] at e; omega
  · omega
theorem zdg_lt (b h : Nat) : zdg b h < 2 := by
  unfold zdg
  split <;> omega
theorem zch_in {σ : MS} {a : Nat} (h : zch σ a ≤ 57) : a < σ.1 17 := by
  rcases Nat.lt_or_ge a (σ.1 17) with q | q
  · exact q
  · have : zch σ a = 4294967295 := if_neg (by omega)
    omega
theorem zv_step {v d k : Nat} (h : (v + 1) * 10 ^ (k + 1) ≤ 100000) (hd : d ≤ 9) : (10 * v + d + 1) * 10 ^ k ≤ 100000 := by
  have h1 : (10 * v + d + 1) * 10 ^ k ≤ (10 * v + 10) * 10 ^ k := Nat.mul_le_mul_right _ (by omega)
  have h2 : (10 * v + 10) * 10 ^ k = (v + 1) * 10 ^ (k + 1) := by
    rw [Nat.pow_succ, show 10 * v + 10 = (v + 1) * 10 by omega, Nat.mul_assoc, Nat.mul_comm 10]
  omega
theorem zv_lt {v k : Nat} (h : (v + 1) * 10 ^ k ≤ 100000) : v < 100000 := by
  have h1 := Nat.le_mul_of_pos_right (v + 1) (show 0 < 10 ^ k from Nat.pow_pos (by decide))
  omega
