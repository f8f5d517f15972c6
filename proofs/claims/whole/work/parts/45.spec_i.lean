def zkd (r : Nat) : Nat := iN (lN r).toInt32
theorem zkd_eq (r : Nat) : nI r = nI (zkd r) := by
  unfold zkd
  rw [nI_iN, lN_i]
theorem zkd_lt {r : Nat} (h : lN 0 ≤ lN r ∧ lN r ≤ lN 5) : zkd r < 6 := by
  have h0 : ¬ lN r < 0 := by
    rw [z64_lt]
    have h1 := h.1
    rw [z64_le, zl_toInt (by decide)] at h1
    rw [show (0 : Int64).toInt = 0 from by decide]
    omega
  obtain ⟨k, hk, e⟩ := pk_lOf h0
  have h2 := h.2
  rw [e, z64_le, zl_toInt hk, zl_toInt (by decide)] at h2
  unfold zkd
  rw [e, lN_i]
  show (BitVec.ofNat 32 k).toNat < 6
  rw [BitVec.toNat_ofNat, Nat.mod_eq_of_lt (show k < 2 ^ 32 by omega)]
  omega
def zgoodP (σ : MS) (d : Nat) : Nat → Bool := fun i => decide (lN 0 ≤ lN (σ.2 46 (100 * d + i)) ∧ lN (σ.2 46 (100 * d + i)) ≤ lN 5)
def zgood (σ : MS) (d : Nat) : Nat → Bool | 0 => decide (lN 1 ≤ lN (σ.2 45 d) ∧ lN (σ.2 45 d) ≤ lN 6) | i + 1 => zgood σ d i && zgoodP σ d i
theorem zgood_t {σ : MS} {d i : Nat} (h : zgood σ d i = true) (h2 : lN 0 ≤ lN (σ.2 46 (100 * d + i)) ∧ lN (σ.2 46 (100 * d + i)) ≤ lN 5) : zgood σ d (i + 1) = true := by
  show (zgood σ d i && zgoodP σ d i) = true
  rw [h, show zgoodP σ d i = true from decide_eq_true h2]
  rfl
theorem zgood_f1 {σ : MS} {d i : Nat} (h : ¬ zgood σ d i = true) : ¬ zgood σ d (i + 1) = true := by
  show ¬ (zgood σ d i && zgoodP σ d i) = true
  rw [Bool.and_eq_true]
  exact fun q => h q.1
theorem zgood_f2 {σ : MS} {d i : Nat} (h : ¬ (lN 0 ≤ lN (σ.2 46 (100 * d + i)) ∧ lN (σ.2 46 (100 * d + i)) ≤ lN 5)) : ¬ zgood σ d (i + 1) = true := by
  show ¬ (zgood σ d i && zgoodP σ d i) = true
  rw [Bool.and_eq_true]
  exact fun q => h (of_decide_eq_true q.2)
theorem zgood_all {σ : MS} {d : Nat} : ∀ {n : Nat}, zgood σ d n = true → (lN 1 ≤ lN (σ.2 45 d) ∧ lN (σ.2 45 d) ≤ lN 6) ∧ ∀ i, i < n → (lN 0 ≤ lN (σ.2 46 (100 * d + i)) ∧ lN (σ.2 46 (100 * d + i)) ≤ lN 5)
  | 0, h => ⟨of_decide_eq_true h, fun i hi => absurd hi (Nat.not_lt_zero i)⟩
  | n + 1, h => by
    have h1 : (zgood σ d n && zgoodP σ d n) = true := h
    rw [Bool.and_eq_true] at h1
    obtain ⟨g1, g2⟩ := zgood_all h1.1
    refine ⟨g1, fun i hi => ?_⟩
    rcases Nat.lt_or_ge i n with q | q
    · exact g2 i q
    · rw [show i = n by omega]; exact of_decide_eq_true h1.2
def zbestF (σ : MS) (d f n z : Nat) : Nat → Nat := fun i => zmeans (zf σ) (zkd (σ.2 46 (100 * d + i))) f n z
abbrev zbeV (d f n : Int32) : Prop := zir d 8 ∧ zir f 100 ∧ (1 ≤ n.toInt ∧ n.toInt < 21)
def zbestS (σ : MS) (d f n : Int32) (z : Nat) : Int32 := if ¬ zbeV d f n then -1 else if zrowK σ d < 0 then zrowK σ d else if σ.2 44 d.toInt.toNat ≠ 0 then -12 else if ¬ zgood σ d.toInt.toNat (σ.2 45 d.toInt.toNat) = true then -13 else if ¬ zready σ then -3 else nI (zleast (zbestF σ d.toInt.toNat f.toInt.toNat n.toInt.toNat z) (σ.2 45 d.toInt.toNat))
theorem zgood_0 {σ : MS} {d : Nat} : (if zgood σ d 0 = true then (1 : Int32) else 0) = (if lN 1 ≤ lN (σ.2 45 d) ∧ lN (σ.2 45 d) ≤ lN 6 then 1 else 0) := by
  by_cases h : lN 1 ≤ lN (σ.2 45 d) ∧ lN (σ.2 45 d) ≤ lN 6
  · rw [if_pos h, if_pos (show zgood σ d 0 = true from decide_eq_true h)]
  · have h2 : ¬ zgood σ d 0 = true := fun q => h (of_decide_eq_true (show decide (lN 1 ≤ lN (σ.2 45 d) ∧ lN (σ.2 45 d) ≤ lN 6) = true from q))
    rw [if_neg h, if_neg h2]
