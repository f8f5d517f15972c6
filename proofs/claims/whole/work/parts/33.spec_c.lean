theorem zians {a : Int32} {n : Nat} (h : -1 ≤ a.toInt ∧ a.toInt < (n : Int)) (hn : n < 2147483648) : iN a < n ∨ iN a = 4294967295 := by
  by_cases h0 : 0 ≤ a.toInt
  · obtain ⟨j, hj, rfl⟩ := zi_in (n := n) (by omega) ⟨h0, h.2⟩
    left
    have e : iN (nI j) = j := by
      show (BitVec.ofNat 32 j).toNat = j
      rw [BitVec.toNat_ofNat, Nat.mod_eq_of_lt (show j < 2 ^ 32 by omega)]
    rw [e]; exact hj
  · right
    have e : a = -1 := by
      have : a.toInt = (-1 : Int32).toInt := by
        rw [show (-1 : Int32).toInt = -1 from by decide]; omega
      exact Int32.toInt_inj.mp this
    rw [e]; decide
theorem zout5 {x : Int32} (h0 : ¬ x = nI 0) (h1 : ¬ x = nI 1) (h2 : ¬ x = nI 2) (h3 : ¬ x = nI 3) (h4 : ¬ x = nI 4) (h5 : ¬ x = nI 5) : x.toInt < 0 ∨ 5 < x.toInt := by
  rcases Int.lt_or_le x.toInt 0 with q | q
  · exact Or.inl q
  · rcases Int.lt_or_le 5 x.toInt with q2 | q2
    · exact Or.inr q2
    · exfalso
      obtain ⟨j, hj, rfl⟩ := zi_in (n := 6) (by decide) ⟨q, by omega⟩
      rcases (show j = 0 ∨ j = 1 ∨ j = 2 ∨ j = 3 ∨ j = 4 ∨ j = 5 by omega) with rfl | rfl | rfl | rfl | rfl | rfl
      · exact h0 rfl
      · exact h1 rfl
      · exact h2 rfl
      · exact h3 rfl
      · exact h4 rfl
      · exact h5 rfl
def zcountS (σ : MS) (x : Int32) : Int32 := if x = nI 0 then nI (σ.1 0) else if x = nI 1 then nI (σ.1 4) else if x = nI 2 then nI (σ.1 8) else if x = nI 3 then nI (zsum (σ.2 5) (σ.1 4)) else if x = nI 4 then nI (σ.1 12) else if x = nI 5 then nI (zsum (σ.2 3) (σ.1 0)) else -1
def zchanceS (σ : MS) (c a w : Int32) : Int32 := if ¬ (zir c 8 ∧ (-1 ≤ a.toInt ∧ a.toInt < (σ.1 4 : Int)) ∧ zir w (σ.1 4)) then -1 else nI (zhund (zf σ) c.toInt.toNat (iN a) w.toInt.toNat)
def ztossS (σ : MS) (d : Int32) : Int32 := if zshK σ d < 0 then zshK σ d else if σ.2 42 d.toInt.toNat = 5 ∨ σ.2 43 d.toInt.toNat = 0 then -15 else if σ.2 42 d.toInt.toNat = 2 then nI (100 + σ.2 43 d.toInt.toNat) else if σ.2 42 d.toInt.toNat = 4 then nI (200 + zweigh (σ.2 42 d.toInt.toNat) (σ.2 43 d.toInt.toNat)) else nI (σ.2 43 d.toInt.toNat)
def zthinkS (σ : MS) (w k : Int32) : Int64 := if ¬ (zir w (σ.1 4) ∧ zir k 2) then -4000000000000000001 else if ¬ zready σ then -4000000000000000003 else if k = 0 then lN (σ.2 14 w.toInt.toNat / Nat.gcd (σ.2 14 w.toInt.toNat) (zsum (σ.2 14) (σ.1 4))) else lN (zsum (σ.2 14) (σ.1 4) / Nat.gcd (σ.2 14 w.toInt.toNat) (zsum (σ.2 14) (σ.1 4)))
