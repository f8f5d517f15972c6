def zac (k : Nat) : Nat := if k = 0 then 4294967295 else k - 1
theorem zac_inc (k : Nat) : nI (zac k + 1) = nI (zac (k + 1)) := by
  unfold zac
  by_cases h : k = 0
  · subst h; decide
  · rw [if_neg h, if_neg (show ¬ k + 1 = 0 by omega)]
    congr 1
    omega
theorem zac_ge {n k : Nat} (hn : n < 1000) (hk : k < 1000) : (nI n ≤ nI (zac k)) = (n < k) := by
  unfold zac
  by_cases h : k = 0
  · subst h
    rw [if_pos rfl, z32_le, zi_of (by omega), zneg (by decide) (by decide)]
    exact propext ⟨fun h => by omega, fun h => by omega⟩
  · rw [if_neg h, zn_le (by omega) (by omega)]
    exact propext ⟨fun h => by omega, fun h => by omega⟩
def zHa (σ : MS) (c a : Nat) : Nat → Nat := zhearM σ (σ.2 14) c a
def zRa (σ : MS) (c w a : Nat) : ZR := zwalk σ w c 4294967295 0 (zset (σ.1 4) (zHa σ c a)) 0
def zma (σ : MS) (c w a : Nat) : Nat := if (zRa σ c w a).1 = 0 ∧ zgall (zHa σ c a) (σ.1 4) ≠ 0 then (zRa σ c w a).2.1 else 999
def zwr (σ : MS) (c p w : Nat) : Nat → Int64 | 0 => lN 100 * lN (zin (zwalk σ w c 4294967295 0 (σ.2 14) 0)) - lN 100 * lN p | k + 1 => if 0 < zhund σ c (zac k) w then zwr σ c p w k - lN (zhund σ c (zac k) w) * lN (zma σ c w (zac k)) else zwr σ c p w k
def zwsum (σ : MS) (c p : Nat) : Nat → Int64 | 0 => lN 0 | w + 1 => if 0 < σ.2 14 w then zwsum σ c p w + zwr σ c p w (σ.1 4 + 1) * lN (σ.2 14 w) else zwsum σ c p w
theorem zwr_1 {σ : MS} {c p w k : Nat} {x : Nat} (h : 0 < zhund σ c (zac k) w) (hx : zma σ c w (zac k) = x) : zwr σ c p w k - lN (zhund σ c (zac k) w) * lN x = zwr σ c p w (k + 1) := by
  rw [← hx]
  exact (if_pos h).symm
theorem zwr_0 {σ : MS} {c p w k : Nat} (h : zhund σ c (zac k) w = 0) : zwr σ c p w k = zwr σ c p w (k + 1) := (if_neg (by omega)).symm
