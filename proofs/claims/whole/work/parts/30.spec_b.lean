/-! what calls that only ask leave as it was -/
def mScr (j : Nat) : Prop := (16 ≤ j ∧ j ≤ 27) ∨ (29 ≤ j ∧ j ≤ 36) ∨ j = 39 ∨ j = 40 ∨ j = 47
def mEq (σ u : MS) : Prop := (∀ j, ¬ mScr j → u.1 j = σ.1 j ∧ u.2 j = σ.2 j) ∧ zWok (u.2 27)
theorem mEq_refl {σ : MS} (h : zWok (σ.2 27)) : mEq σ σ := ⟨fun _ _ => ⟨rfl, rfl⟩, h⟩
theorem mEq_zw {σ : MS} (h : zWok (σ.2 27)) {m v a : Nat → Nat} {x1 x2 x3 x4 x5 : Nat} : mEq σ (zw (zf σ) m v a x1 x2 x3 x4 x5) := by
  refine ⟨fun j hj => ?_, zWok_ws h _⟩
  have h27 : j ≠ 27 := fun e => hj (by unfold mScr; omega)
  have hr : ∀ k, 29 ≤ k → k ≤ 36 → j ≠ k := fun k h1 h2 e => hj (by unfold mScr; omega)
  refine ⟨?_, ?_⟩
  · show (if j = 30 then x1 else if j = 31 then x2 else if j = 32 then x3 else if j = 33 then x4 else if j = 34 then x5 else σ.1 j) = σ.1 j
    rw [if_neg (hr 30 (by omega) (by omega)), if_neg (hr 31 (by omega) (by omega)), if_neg (hr 32 (by omega) (by omega)), if_neg (hr 33 (by omega) (by omega)), if_neg (hr 34 (by omega) (by omega))]
  · show (if j = 29 then m else if j = 35 then v else if j = 36 then a else if j = 27 then zws σ (σ.2 27) (σ.1 4) else σ.2 j) = σ.2 j
    rw [if_neg (hr 29 (by omega) (by omega)), if_neg (hr 35 (by omega) (by omega)), if_neg (hr 36 (by omega) (by omega)), if_neg h27]
theorem mEq_zf {σ : MS} (h : zWok (σ.2 27)) : mEq σ (zf σ) := by
  refine ⟨fun j hj => ⟨rfl, ?_⟩, zWok_ws h _⟩
  show (if j = 27 then _ else σ.2 j) = σ.2 j
  rw [if_neg (fun e => hj (by unfold mScr; omega))]
theorem zrul_1 {σ : MS} {d : Nat} (h : σ.2 41 d < 3) (h2 : (0 : Int32) ≤ zrulK σ d) : σ.2 41 d = 1 := Decidable.byContradiction fun h3 => absurd ((zrulK_neg h).1.mpr h3) (Int32.not_lt.mpr h2)
def zbyQ (R : ZR) (wh : Int32) : Int32 := if wh = 0 then zminutes R else if wh = nI 1 then nI R.2.2.1 else nI R.2.2.2
def zbyS (σ : MS) (d w : Int32) (z : Nat) (wh : Int32) : Int32 := if ¬ (zir d 8 ∧ zir w (σ.1 4) ∧ zir wh 3) then -1 else if zrulK σ d.toInt.toNat < 0 then zrulK σ d.toInt.toNat else if ¬ zready σ then -3 else zbyQ (zwalk (zf σ) w.toInt.toNat (σ.1 12) (σ.2 42 d.toInt.toNat) (σ.2 43 d.toInt.toNat) (σ.2 5) z) wh
def zwalkS (σ : MS) (w c : Int32) : Int32 := if ¬ (zir w (σ.1 4) ∧ zir c 8) then -1 else if ¬ zready σ then -3 else zminutes (zwalk (zf σ) w.toInt.toNat c.toInt.toNat 4294967295 0 (σ.2 14) 0)
def zmeanS (σ : MS) (d n : Int32) (z : Nat) : Int32 := if zwmean σ d n < 0 then zwmean σ d n else nI (zmeans (zf σ) (σ.2 42 d.toInt.toNat) (σ.2 43 d.toInt.toNat) n.toInt.toNat z)
theorem zwmean_in {σ : MS} {d n : Int32} (h : ¬ zwmean σ d n < 0) : zir d 8 ∧ (1 ≤ n.toInt ∧ n.toInt < 21) ∧ ¬ zrulK σ d.toInt.toNat < 0 ∧ zready σ := by
  unfold zwmean at h
  by_cases h1 : zir d 8 ∧ 1 ≤ n.toInt ∧ n.toInt < 21
  · rw [if_neg (fun q => q h1)] at h
    by_cases h2 : zrulK σ d.toInt.toNat < 0
    · rw [if_pos h2] at h; exact absurd h2 h
    · rw [if_neg h2] at h
      by_cases h3 : zready σ
      · exact ⟨h1.1, h1.2, h2, h3⟩
      · rw [if_neg h3] at h; exact absurd (by decide) h
  · rw [if_pos h1] at h; exact absurd (by decide) h
theorem zi_m1 (x : Int32) {n : Nat} (hn : n < 1073741824) : (lN 0 ≤ x.toInt64 ∧ x.toInt64 ≤ (nI n - nI 1).toInt64) ↔ zir x n := by
  simp only [z64_le, zi_l, zl_toInt (show 0 < 9223372036854775808 by decide), pk_sub_toInt (show n < 2 ^ 30 by omega) (show 1 < 2 ^ 30 by decide)]
  omega
def zwayS (σ : MS) (w c : Int32) : Int32 := if ¬ (zir w (σ.1 4) ∧ zir c 8) then -1 else nI ((zf σ).2 27 (8 * w.toInt.toNat + c.toInt.toNat))
def znextS (σ : MS) (w c : Int32) : Int32 := if ¬ (zir w (σ.1 4) ∧ zir c 8) then -1 else if σ.2 6 w.toInt.toNat = c.toInt.toNat then -4 else znext (zf σ) w.toInt.toNat c.toInt.toNat
def zsaysS (σ : MS) (s c w : Int32) : Int32 := if ¬ (zir s (σ.1 8) ∧ zir c 8 ∧ zir w (σ.1 4)) then -1 else nI (zsaid (zf σ) s.toInt.toNat c.toInt.toNat w.toInt.toNat)
def zworldS (σ : MS) (w k : Int32) : Int32 := if ¬ (zir w (σ.1 4) ∧ zir k 3) then -1 else if k = 0 then nI (σ.2 5 w.toInt.toNat) else if k = nI 1 then nI (σ.2 6 w.toInt.toNat) else nI (σ.2 7 w.toInt.toNat)
def zroadS (σ : MS) (r k : Int32) : Int32 := if ¬ (zir r (σ.1 0) ∧ zir k 3) then -1 else if k = 0 then nI (σ.2 1 r.toInt.toNat) else if k = nI 1 then nI (σ.2 2 r.toInt.toNat) else nI (σ.2 3 r.toInt.toNat)
def zmetS (σ : MS) (c s : Int32) : Int32 := if ¬ (zir c 8 ∧ zir s (σ.1 8)) then -1 else nI (σ.2 11 (6 * c.toInt.toNat + s.toInt.toNat))
def zweightS (σ : MS) (d : Int32) : Int32 := if zshK σ d < 0 then zshK σ d else nI (zweigh (σ.2 42 d.toInt.toNat) (σ.2 43 d.toInt.toNat))
theorem zshK_in {σ : MS} {d : Int32} (hh : ∀ d, d < 8 → σ.2 41 d < 3) (h : (0 : Int32) ≤ zshK σ d) : zir d 8 ∧ σ.2 41 d.toInt.toNat = 1 := by
  unfold zshK at h
  by_cases h1 : 0 ≤ d.toInt ∧ d.toInt < 8
  · rw [if_pos h1] at h
    exact ⟨⟨h1.1, by omega⟩, zrul_1 (hh _ (by omega)) h⟩
  · rw [if_neg h1] at h; exact absurd h (by decide)
theorem zmeans_zw {σ : MS} {m v a : Nat → Nat} {mi as go lo se : Nat} (r f n z : Nat) : zmeans (zw σ m v a mi as go lo se) r f n z = zmeans σ r f n z := by
  unfold zmeans
  refine congrArg (fun g => zsum g (σ.1 4)) (funext fun w => ?_)
  show zsum (fun k => σ.2 5 w * zin (zwalk (zw σ m v a mi as go lo se) w (σ.1 12) r f (σ.2 5) (z + k))) n = zsum (fun k => σ.2 5 w * zin (zwalk σ w (σ.1 12) r f (σ.2 5) (z + k))) n
  simp only [zwalk_zw]
