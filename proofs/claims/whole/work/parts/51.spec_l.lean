def zworthS (σ : MS) (c : Int32) : Int64 := if ¬ zir c 8 then -4000000000000000001 else if ¬ zready σ then -4000000000000000003 else zwsum (zf σ) c.toInt.toNat (σ.1 13) (σ.1 4)
def znevP (σ : MS) (c : Nat) : Nat → Bool := fun p => decide (¬ (lN 0 ≤ zwsum (zf σ) c 0 (σ.1 4) - lN 100 * lN p * lN (zsum (σ.2 14) (σ.1 4))))
def zneverS (σ : MS) (c : Int32) : Int32 := if ¬ zir c 8 then -1 else if ¬ zready σ then -3 else if zfirst (znevP σ c.toInt.toNat) 31 < 31 then nI (zfirst (znevP σ c.toInt.toNat) 31) else -4
