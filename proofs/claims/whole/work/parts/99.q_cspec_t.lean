/-! KINDS HELD -/
def zhkA (g : Nat → Int32) : Nat → Bool | 0 => true | n + 1 => zhkA g n && decide (zir (g n) 6)
def zhkD (g : Nat → Int32) (n : Nat) : Bool := decide (1 ≤ n ∧ n ≤ 6) && zhkA g n
theorem zhkA_all {g : Nat → Int32} : ∀ {n : Nat}, zhkA g n = true ↔ ∀ i, i < n → zir (g i) 6
  | 0 => ⟨fun _ i hi => absurd hi (Nat.not_lt_zero i), fun _ => rfl⟩
  | n + 1 => by
    rw [zhkA, Bool.and_eq_true, decide_eq_true_iff, zhkA_all]
    refine ⟨fun h i hi => ?_, fun h => ⟨fun i hi => h i (by omega), h n (by omega)⟩⟩
    rcases Nat.lt_or_ge i n with q | q
    · exact h.1 i q
    · rw [show i = n by omega]; exact h.2
theorem zhkD_y {g : Nat → Int32} {n : Nat} (h : 1 ≤ n ∧ n ≤ 6) (h2 : ∀ i, i < n → zir (g i) 6) : zhkD g n = true := by
  unfold zhkD
  rw [decide_eq_true h, zhkA_all.mpr h2]
  rfl
theorem zhkD_n {g : Nat → Int32} {n : Nat} (h : ¬ ((1 ≤ n ∧ n ≤ 6) ∧ ∀ i, i < n → zir (g i) 6)) : ¬ zhkD g n = true := fun q => by
  unfold zhkD at q
  rw [Bool.and_eq_true, decide_eq_true_iff, zhkA_all] at q
  exact h q
