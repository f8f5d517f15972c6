/-- the CROSSING with the least of f so far; nobody (4294967295) before the first -/
def zb4 (f : Nat → Nat) (c : Nat) : Nat := if c = 0 then 4294967295 else zleast f c
def zl4 (f : Nat → Nat) (c : Nat) : Nat := if c = 0 then 0 else f (zleast f c)
theorem zb4_new {f : Nat → Nat} {c : Nat} (h : c = 0 ∨ f c < zl4 f c) : zb4 f (c + 1) = c ∧ zl4 f (c + 1) = f c := by
  unfold zb4 zl4 at *
  rw [if_neg (show ¬ c + 1 = 0 by omega), if_neg (show ¬ c + 1 = 0 by omega)]
  by_cases h0 : c = 0
  · subst h0
    rw [zleast_1]
    exact ⟨rfl, rfl⟩
  · rw [if_neg h0] at h
    have h1 : f c < f (zleast f c) := by omega
    rw [zleast, if_pos h1]
    exact ⟨rfl, rfl⟩
theorem zb4_old {f : Nat → Nat} {c : Nat} (h0 : ¬ c = 0) (h : zl4 f c ≤ f c) : zb4 f (c + 1) = zb4 f c ∧ zl4 f (c + 1) = zl4 f c := by
  unfold zb4 zl4 at *
  rw [if_neg (show ¬ c + 1 = 0 by omega), if_neg (show ¬ c + 1 = 0 by omega), if_neg h0, if_neg h0]
  rw [if_neg h0] at h
  rw [zleast, if_neg (Nat.not_lt.mpr h)]
  exact ⟨rfl, rfl⟩
/-- the land with a post -/
def zpo (σ : MS) (c : Nat) : MS := sF (zf σ) 28 c
theorem zw_P28 {σ : MS} {m v a : Nat → Nat} {mi as go lo se x : Nat} : sF (zw σ m v a mi as go lo se) 28 x = zw (sF σ 28 x) m v a mi as go lo se := by
  refine Prod.ext (funext fun j => ?_) rfl
  show (if j = 28 then x else if j = 30 then mi else if j = 31 then as else if j = 32 then go else if j = 33 then lo else if j = 34 then se else σ.1 j) = (if j = 30 then mi else if j = 31 then as else if j = 32 then go else if j = 33 then lo else if j = 34 then se else if j = 28 then x else σ.1 j)
  by_cases h : j = 28
  · subst h; rfl
  · rw [if_neg h, if_neg h]
theorem zpo_po (σ : MS) (c d : Nat) : sF (zpo σ c) 28 d = zpo σ d := by
  refine Prod.ext (funext fun j => ?_) rfl
  show (if j = 28 then d else if j = 28 then c else σ.1 j) = (if j = 28 then d else σ.1 j)
  split <;> rfl
theorem zpo_self {σ : MS} (h : σ.1 28 = 4294967295) : zpo σ 4294967295 = zf σ := by
  refine Prod.ext (funext fun j => ?_) rfl
  show (if j = 28 then 4294967295 else σ.1 j) = σ.1 j
  split
  · rename_i e; rw [e, h]
  · rfl
def zpostF (σ : MS) (n z : Nat) : Nat → Nat := fun c => zmeans (zpo σ c) 3 0 n z
def zpostS (σ : MS) (n : Int32) (z : Nat) : Int32 := if ¬ (1 ≤ n.toInt ∧ n.toInt < 21) then -1 else if ¬ zready σ then -3 else nI (zleast (zpostF σ n.toInt.toNat z) 8)
