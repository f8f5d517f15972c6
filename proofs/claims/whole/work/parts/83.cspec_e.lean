theorem zmetW_lt {τ : MS} {c d : Nat} (h8 : τ.1 8 ≤ 6) : zmetW τ c d < 6 ∨ zmetW τ c d = 4294967295 := by
  unfold zmetW
  split
  · exact Or.inl (by omega)
  · exact Or.inr rfl
theorem zmetW_in {τ : MS} {c d : Nat} (h : zmetW τ c d ≠ 4294967295) : zmetW τ c d < τ.1 8 := by
  unfold zmetW at h ⊢
  split
  · assumption
  · rename_i h2
    rw [if_neg h2] at h
    exact absurd rfl h
theorem zans_p {τ : MS} {z c w : Nat} (h : c = τ.1 28) : zans τ z c w = w := by unfold zans; rw [if_pos h]
theorem zans_m {τ : MS} {z c w : Nat} (h8 : τ.1 8 ≤ 6) (h : c ≠ τ.1 28) : zans τ z c w = if zmetW τ c (zdrawn z) = 4294967295 then 4294967295 else zsaid τ (zmetW τ c (zdrawn z)) c w := by
  unfold zans
  rw [if_neg h]
  by_cases q : zfirst (zmetP τ c (zdrawn z)) (τ.1 8) < τ.1 8
  · have e : zmetW τ c (zdrawn z) = zfirst (zmetP τ c (zdrawn z)) (τ.1 8) := if_pos q
    rw [if_pos q, e]
    by_cases q2 : zfirst (zmetP τ c (zdrawn z)) (τ.1 8) = 4294967295
    · rw [if_pos q2]
      omega
    · rw [if_neg q2]
  · have e : zmetW τ c (zdrawn z) = 4294967295 := if_neg q
    rw [if_neg q, e, if_pos rfl]
