theorem zbmod {z : Int} (h1 : -2147483648 ≤ z) (h2 : z < 2147483648) : z.bmod (2 ^ 32) = z := by
  rw [Int.bmod_def]
  have e : ((2 ^ 32 : Nat) : Int) = 4294967296 := by decide
  rw [e]
  split <;> omega
theorem zsub_toInt {a b : Nat} (ha : a < 1073741824) (hb : b < 2147483648) : (nI a - nI b).toInt = (a : Int) - b := by
  rw [Int32.toInt_sub, zi_of (by omega), zi_of hb]
  exact zbmod (by omega) (by omega)
theorem mEq_A {σ τ : MS} {k : Nat} {g : Nat → Nat} (hk : k ≠ 27) (h : mEq σ τ) : mEq (sA σ k g) (sA τ k g) := by
  refine ⟨fun j hj => ⟨(h.1 j hj).1, ?_⟩, ?_⟩
  · show (if j = k then g else τ.2 j) = (if j = k then g else σ.2 j)
    rw [(h.1 j hj).2]
  · show zWok (if 27 = k then g else τ.2 27)
    rw [if_neg (fun e => hk e.symm)]
    exact h.2
theorem mEq_S {σ τ : MS} {k : Nat} {g : Nat → Nat} (hk : k ≠ 27) (hs : mScr k) (h : mEq σ τ) : mEq σ (sA τ k g) := by
  refine ⟨fun j hj => ⟨(h.1 j hj).1, ?_⟩, ?_⟩
  · show (if j = k then g else τ.2 j) = σ.2 j
    rw [if_neg (fun e : j = k => hj (by rw [e]; exact hs))]
    exact (h.1 j hj).2
  · show zWok (if 27 = k then g else τ.2 27)
    rw [if_neg (fun e => hk e.symm)]
    exact h.2
/-- n of f laid from e on -/
def zlay (f g : Nat → Nat) (e n : Nat) : Nat → Nat := fun a => if e ≤ a ∧ a < e + n then f (a - e) else g a
theorem zlay_0 (f g : Nat → Nat) (e : Nat) : zlay f g e 0 = g := funext fun a => if_neg (by omega)
theorem zlay_1 {f g : Nat → Nat} {e k v : Nat} (hv : v = f k) : (fun a => if a = e + k then v else zlay f g e k a) = zlay f g e (k + 1) := by
  funext a
  unfold zlay
  by_cases h : a = e + k
  · rw [if_pos h, if_pos (show e ≤ a ∧ a < e + (k + 1) by omega), hv, h, Nat.add_sub_cancel_left]
  · rw [if_neg h]
    by_cases h2 : e ≤ a ∧ a < e + k
    · rw [if_pos h2, if_pos (show e ≤ a ∧ a < e + (k + 1) by omega)]
    · rw [if_neg h2, if_neg (show ¬ (e ≤ a ∧ a < e + (k + 1)) by omega)]
abbrev zcopV (σ : MS) (d i e j n : Int32) : Prop := 0 ≤ n.toInt ∧ 0 ≤ i.toInt ∧ 0 ≤ j.toInt ∧ i.toInt + n.toInt ≤ (σ.2 45 d.toInt.toNat : Int) ∧ j.toInt + n.toInt ≤ (σ.2 45 e.toInt.toNat : Int)
abbrev zcop2 (σ : MS) (d e : Int32) : Prop := σ.2 41 d.toInt.toNat = 2 ∧ σ.2 41 e.toInt.toNat = 2 ∧ σ.2 44 d.toInt.toNat = σ.2 44 e.toInt.toNat
def zcopyS (σ : MS) (d i e j n : Int32) : Int32 := if ¬ (zir d 8 ∧ zir e 8) then -1 else if σ.2 41 d.toInt.toNat = 0 ∨ σ.2 41 e.toInt.toNat = 0 then -11 else if ¬ zcop2 σ d e then -12 else if ¬ zcopV σ d i e j n then -13 else n
def zcopyT (σ : MS) (d i e j n : Int32) : MS := if ¬ (zir d 8 ∧ zir e 8) then σ else if σ.2 41 d.toInt.toNat = 0 ∨ σ.2 41 e.toInt.toNat = 0 then σ else if ¬ zcop2 σ d e then σ else if ¬ zcopV σ d i e j n then σ else sA σ 46 (zlay (fun k => σ.2 46 (100 * d.toInt.toNat + i.toInt.toNat + k)) (σ.2 46) (100 * e.toInt.toNat + j.toInt.toNat) n.toInt.toNat)
