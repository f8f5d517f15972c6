def zskip (t : Nat) : Int64 := if t = 0 then -128 else if t = 1 then -32768 else -2147483648
def zjuP (σ : MS) (d : Nat) : Nat → Bool := fun w => decide (σ.2 45 d ≤ w ∨ (lN (σ.2 46 (100 * d + w)) ≠ zskip (σ.2 44 d) ∧ lN (σ.2 46 (100 * d + w)) ≠ lN (σ.2 14 w * 100 / zsum (σ.2 14) (σ.1 4))))
def zjudgeS (σ : MS) (d : Int32) : Int32 := if ¬ zir d 8 then -1 else if ¬ zready σ then -3 else if zrowK σ d < 0 then zrowK σ d else if zfirst (zjuP σ d.toInt.toNat) (σ.1 4) < σ.1 4 then nI (zfirst (zjuP σ d.toInt.toNat) (σ.1 4)) else if σ.1 4 < σ.2 45 d.toInt.toNat then nI (σ.1 4) else -4
