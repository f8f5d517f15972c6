theorem zrowK_in {σ : MS} {d : Int32} (hh : ∀ d, d < 8 → σ.2 41 d < 3) (h : (0 : Int32) ≤ zrowK σ d) : zir d 8 ∧ σ.2 41 d.toInt.toNat = 2 := by
  unfold zrowK at h
  by_cases h1 : 0 ≤ d.toInt ∧ d.toInt < 8
  · rw [if_pos h1] at h
    refine ⟨⟨h1.1, by omega⟩, ?_⟩
    by_cases h2 : σ.2 41 d.toInt.toNat = 0
    · rw [if_pos h2] at h; exact absurd h (by decide)
    · rw [if_neg h2] at h
      by_cases h3 : σ.2 41 d.toInt.toNat = 2
      · exact h3
      · rw [if_neg h3] at h; exact absurd h (by decide)
  · rw [if_neg h1] at h; exact absurd h (by decide)
abbrev zkeepV (d w k f : Int32) : Prop := zir d 8 ∧ zir w 2 ∧ (w = nI 1 → zir k 6 ∧ zir f 100)
def zkeepSS (d w k f : Int32) : Int32 := if zkeepV d w k f then nI 0 else -1
def zkeepTT (σ : MS) (d w k f : Int32) : MS := if zkeepV d w k f then sE (sE (sE σ 41 d.toInt.toNat w.toInt.toNat) 42 d.toInt.toNat (iN k)) 43 d.toInt.toNat (iN f) else σ
def zsetS (σ : MS) (k x : Int32) : Int32 := if k = nI 0 ∧ zir x 8 then nI (σ.1 12) else if k = nI 1 ∧ zir x 31 then nI (σ.1 13) else -1
def zsetT (σ : MS) (k x : Int32) : MS := if k = nI 0 ∧ zir x 8 then sF (sF σ 12 x.toInt.toNat) 13 (σ.1 13) else if k = nI 1 ∧ zir x 31 then sF (sF σ 12 (σ.1 12)) 13 x.toInt.toNat else σ
def zputS (σ : MS) (d i : Int32) : Int32 := if zrowK σ d < 0 then zrowK σ d else if ¬ zir i (σ.2 45 d.toInt.toNat) then -13 else nI 0
def zputT (σ : MS) (d i v : Int32) : MS := if zrowK σ d < 0 then σ else if ¬ zir i (σ.2 45 d.toInt.toNat) then σ else sE σ 46 (100 * d.toInt.toNat + i.toInt.toNat) (lNN (znar v (σ.2 44 d.toInt.toNat)))
def zelT (σ : MS) (d i : Int32) : Nat := if zrowK σ d = -1 then 1 else if zrowK σ d < 0 ∨ ¬ zir i (σ.2 45 d.toInt.toNat) then 2 else 0
def zelS (σ : MS) (d i : Int32) : Int64 := if 0 < zelT σ d i then lN 0 else lN (σ.2 46 (100 * d.toInt.toNat + i.toInt.toNat))
def zrw (g : Nat → Nat) (d i : Nat) : Nat → Nat := fun a => if 100 * d ≤ a ∧ a < 100 * d + i then 0 else g a
theorem zrw_0 (g : Nat → Nat) (d : Nat) : zrw g d 0 = g := funext fun a => if_neg (by omega)
theorem zrw_1 (g : Nat → Nat) (d i : Nat) : (fun a => if a = 100 * d + i then 0 else zrw g d i a) = zrw g d (i + 1) := by
  funext a
  unfold zrw
  by_cases h : a = 100 * d + i
  · rw [if_pos h, if_pos (show 100 * d ≤ a ∧ a < 100 * d + (i + 1) by omega)]
  · rw [if_neg h]
    by_cases h2 : 100 * d ≤ a ∧ a < 100 * d + i
    · rw [if_pos h2, if_pos (show 100 * d ≤ a ∧ a < 100 * d + (i + 1) by omega)]
    · rw [if_neg h2, if_neg (show ¬ (100 * d ≤ a ∧ a < 100 * d + (i + 1)) by omega)]
abbrev zrowV (d t n : Int32) : Prop := zir d 8 ∧ zir t 3 ∧ n ≤ nI 100
def zrowS (d t n : Int32) : Int32 := if ¬ zrowV d t n then -1 else if n < 0 then -14 else nI 0
def zrowT (σ : MS) (d t n : Int32) : MS := if ¬ zrowV d t n then σ else if n < 0 then σ else sA (sE (sE (sE σ 41 d.toInt.toNat 2) 44 d.toInt.toNat t.toInt.toNat) 45 d.toInt.toNat n.toInt.toNat) 46 (zrw (σ.2 46) d.toInt.toNat 100)
theorem zi_nn {n : Int32} (h : n ≤ nI 100) (h2 : ¬ n < 0) : ∃ j, j < 101 ∧ n = nI j := by
  rw [z32_le, zi_of (by decide)] at h
  rw [z32_lt, show (0 : Int32).toInt = 0 from by decide] at h2
  exact zi_in (n := 101) (by decide) ⟨by omega, by omega⟩
