/-! READING A LAND: what stands in the row; the place, whether it is bad -/
def zhere (σ : MS) : Nat := if σ.1 18 < σ.1 17 then σ.2 46 (σ.1 16 + σ.1 18) % 256 else 4294967295
theorem zhere_lt (σ : MS) : zhere σ < 4294967296 := by
  unfold zhere
  split
  · have := Nat.mod_lt (σ.2 46 (σ.1 16 + σ.1 18)) (show 0 < 256 by decide); omega
  · omega
/-- the state of reading: place a, bad b -/
def zp (σ : MS) (a b : Nat) : MS := (fun j => if j = 18 then a else if j = 19 then b else σ.1 j, σ.2)
theorem zp_F18 {σ : MS} {a b x : Nat} : sF (zp σ a b) 18 x = zp σ x b := by
  refine Prod.ext (funext fun j => ?_) rfl
  show (if j = 18 then x else if j = 18 then a else if j = 19 then b else σ.1 j) = (if j = 18 then x else if j = 19 then b else σ.1 j)
  split <;> rfl
theorem zp_F19 {σ : MS} {a b x : Nat} : sF (zp σ a b) 19 x = zp σ a x := by
  refine Prod.ext (funext fun j => ?_) rfl
  show (if j = 19 then x else if j = 18 then a else if j = 19 then b else σ.1 j) = (if j = 18 then a else if j = 19 then x else σ.1 j)
  by_cases h : j = 18
  · subst h; rfl
  · rw [if_neg h, if_neg h]; split <;> rfl
theorem zp_self (σ : MS) : σ = zp σ (σ.1 18) (σ.1 19) := by
  refine Prod.ext (funext fun j => ?_) rfl
  show σ.1 j = if j = 18 then σ.1 18 else if j = 19 then σ.1 19 else σ.1 j
  repeat (split; · rename_i h; rw [h])
  rfl
abbrev zpOk (σ : MS) : Prop := σ.1 16 ≤ 700 ∧ σ.1 17 ≤ 100 ∧ σ.1 18 ≤ 100 ∧ σ.1 19 < 2
