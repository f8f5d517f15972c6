/-! LEAST MEANS, SEEN FROM THE FACE -/
def zpostC (τ : MS) (n : Int32) (z : Nat) : Int32 := if ¬ zseeds n then -1 else if ¬ zready τ then -3 else nI (zleast (fun c => zmeans (sF τ 28 c) 3 0 n.toInt.toNat z) 8)
theorem zpostC_v {τ : MS} {n z : Nat} (hn : 1 ≤ n ∧ n ≤ 20) : zpostC τ (nI n) z = if ¬ zready τ then -3 else nI (zleast (fun c => zmeans (sF τ 28 c) 3 0 n z) 8) := by
  unfold zpostC
  rw [if_neg (fun q => q (zsd_N hn)), nI_N (by omega)]
theorem tOk_28 {τ : MS} {c : Nat} (h : tOk τ) : tOk (sF τ 28 c) := h
/-- the least so far, before any is known -/
def zlp (f : Nat → Nat) (c : Nat) : Nat := if c = 0 then 0 else zleast f c
def zlv (f : Nat → Nat) (c : Nat) : Nat := if c = 0 then 2147483647 else f (zleast f c)
theorem zlv_lt {f : Nat → Nat} (h : ∀ c, f c < 2147483648) (c : Nat) : zlv f c < 2147483648 := by
  unfold zlv
  split
  · decide
  · exact h _
theorem zlp_new {f : Nat → Nat} {c : Nat} (h : f c < zlv f c) : zlp f (c + 1) = c ∧ zlv f (c + 1) = f c := by
  have e : zleast f (c + 1) = c := by
    rw [zleast]
    by_cases q : c = 0
    · subst q
      split <;> rfl
    · have e2 : zlv f c = f (zleast f c) := if_neg q
      rw [if_pos (by omega)]
  unfold zlp zlv
  rw [if_neg (show ¬ c + 1 = 0 by omega), if_neg (show ¬ c + 1 = 0 by omega), e]
  exact ⟨rfl, rfl⟩
theorem zlp_old {f : Nat → Nat} {c : Nat} (hf : f c < 2147483648) (h : zlv f c ≤ f c) : zlp f (c + 1) = zlp f c ∧ zlv f (c + 1) = zlv f c := by
  by_cases q : c = 0
  · subst q
    have e2 : zlv f 0 = 2147483647 := rfl
    have e : zleast f (0 + 1) = 0 := by
      rw [zleast]
      split <;> rfl
    refine ⟨?_, ?_⟩
    · show (if 0 + 1 = 0 then 0 else zleast f (0 + 1)) = 0
      rw [if_neg (by omega), e]
    · show (if 0 + 1 = 0 then 2147483647 else f (zleast f (0 + 1))) = 2147483647
      rw [if_neg (by omega), e]
      omega
  · have e2 : zlv f c = f (zleast f c) := if_neg q
    have e : zleast f (c + 1) = zleast f c := by rw [zleast, if_neg (by omega)]
    unfold zlp zlv
    rw [if_neg q, if_neg q, if_neg (show ¬ c + 1 = 0 by omega), if_neg (show ¬ c + 1 = 0 by omega), e]
    exact ⟨rfl, rfl⟩
theorem zlv_0 (f : Nat → Nat) : zlv f 0 = 2147483647 := rfl
theorem zlp_0 (f : Nat → Nat) : zlp f 0 = 0 := rfl
theorem zlp_p {f : Nat → Nat} {c : Nat} (h : c ≠ 0) : zlp f c = zleast f c := if_neg h
