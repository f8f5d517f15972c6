/-! WORTH, SEEN FROM THE FACE -/
def zspS (τ : MS) (F F3 : Nat → Nat) (c a : Nat) : Nat → Nat := fun w => F w * τ.2 62 (5 * zplc c a + w) * zin (zwalk τ w c 4294967295 0 F3 0)
theorem zspS_0 {τ : MS} {F F3 : Nat → Nat} {c a w : Nat} (h : F w * τ.2 62 (5 * zplc c a + w) ≤ 0) : zsum (zspS τ F F3 c a) (w + 1) = zsum (zspS τ F F3 c a) w := by
  rw [zsum]
  unfold zspS
  rw [show F w * τ.2 62 (5 * zplc c a + w) = 0 by omega, Nat.zero_mul, Nat.add_zero]
def zgnS (τ : MS) (F : Nat → Nat) (c : Nat) : Nat → Nat := fun w => 100 * F w * zin (zwalk τ w c 4294967295 0 F 0)
def zgaH (τ : MS) (F : Nat → Nat) (c j : Nat) : Nat → Nat := zhe5 τ F (zplc c (zac j))
def zga (τ : MS) (F : Nat → Nat) (c : Nat) : Nat → Int64 | 0 => lN (zsum (zgnS τ F c) (τ.1 4)) | j + 1 => if zgall (zgaH τ F c j) 5 = 0 then zga τ F c j else zga τ F c j - lN (zsum (zspS τ F (zset 5 (zgaH τ F c j)) c (zac j)) (τ.1 4))
theorem zga_y {τ : MS} {F : Nat → Nat} {c j : Nat} (h : ¬ zgall (zgaH τ F c j) 5 = 0) : zga τ F c (j + 1) = zga τ F c j - lN (zsum (zspS τ F (zset 5 (zgaH τ F c j)) c (zac j)) (τ.1 4)) := if_neg h
theorem zga_n {τ : MS} {F : Nat → Nat} {c j : Nat} (h : zgall (zgaH τ F c j) 5 = 0) : zga τ F c (j + 1) = zga τ F c j := if_pos h
theorem zgaH_M {τ : MS} {F : Nat → Nat} {c j : Nat} (hod : ∀ k, k < 240 → τ.2 62 k ≤ 100) (hM : zM (τ.1 4) F) (hn : τ.1 4 ≤ 5) (hq : zplc c (zac j) < 48) : zM (τ.1 4) (zset 5 (zgaH τ F c j)) := zM_set hn (zhe5_lt hod hM.1 hq) (fun w h1 h2 => by
  show F w * _ = 0
  rw [hM.2 w h1 h2, Nat.zero_mul])
theorem zac_or {j : Nat} (h : j < 6) : zac j < 5 ∨ zac j = 4294967295 := by
  unfold zac
  split
  · exact Or.inr rfl
  · exact Or.inl (by omega)
def zwthC (τ : MS) (F : Nat → Nat) (c : Int32) : Int64 := if ¬ zir c 8 then -4000000000000000001 else if ¬ zready τ then -4000000000000000003 else zga τ F c.toInt.toNat (τ.1 4 + 1) - lN (100 * τ.1 13 * zsum F 5)
theorem zwthC_v {τ : MS} {F : Nat → Nat} {c : Nat} (h : c < 8) : zwthC τ F (nI c) = if ¬ zready τ then -4000000000000000003 else zga τ F c (τ.1 4 + 1) - lN (100 * τ.1 13 * zsum F 5) := by
  unfold zwthC
  rw [if_neg (fun q => q (zir_N h (by decide))), nI_N (by omega)]
def znvP (τ : MS) (F : Nat → Nat) (c : Nat) : Nat → Bool := fun p => decide (¬ (lN 0 ≤ zga τ F c (τ.1 4 + 1) - lN (100 * p * zsum F 5)))
def znvC (τ : MS) (F : Nat → Nat) (c : Int32) : Int32 := if ¬ zir c 8 then -1 else if ¬ zready τ then -3 else if zfirst (znvP τ F c.toInt.toNat) 31 < 31 then nI (zfirst (znvP τ F c.toInt.toNat) 31) else -4
theorem znvC_v {τ : MS} {F : Nat → Nat} {c : Nat} (h : c < 8) : znvC τ F (nI c) = if ¬ zready τ then -3 else if zfirst (znvP τ F c) 31 < 31 then nI (zfirst (znvP τ F c) 31) else -4 := by
  unfold znvC
  rw [if_neg (fun q => q (zir_N h (by decide))), nI_N (by omega)]
