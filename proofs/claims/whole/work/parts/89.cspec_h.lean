/-! THE TABLES WORKED OUT -/
theorem zrel_no {τ : MS} {f t b : Nat} (h : ¬ (τ.2 27 t < 99999 ∧ τ.2 27 t + b < τ.2 27 f)) : sA τ 27 (zrel (τ.2 27) f t b) = τ := by
  have e : zrel (τ.2 27) f t b = τ.2 27 := by
    funext a
    show (if a = f then (if τ.2 27 t < 99999 ∧ τ.2 27 t + b < τ.2 27 f then τ.2 27 t + b else τ.2 27 f) else τ.2 27 a) = τ.2 27 a
    by_cases e : a = f
    · rw [if_pos e, if_neg h, e]
    · rw [if_neg e]
  rw [e, sA_self]
theorem zrel_yes {τ : MS} {f t b : Nat} (h : τ.2 27 t < 99999 ∧ τ.2 27 t + b < τ.2 27 f) : sE τ 27 f (τ.2 27 t + b) = sA τ 27 (zrel (τ.2 27) f t b) := by
  rw [sE_sA]
  refine sA_cong τ 27 (fun a => ?_)
  show (if a = f then τ.2 27 t + b else τ.2 27 a) = (if a = f then (if τ.2 27 t < 99999 ∧ τ.2 27 t + b < τ.2 27 f then τ.2 27 t + b else τ.2 27 f) else τ.2 27 a)
  rw [if_pos h]
theorem sA_rel {τ : MS} {G : Nat → Nat} {f t b : Nat} : sA (sA τ 27 G) 27 (zrel ((sA τ 27 G).2 27) f t b) = sA τ 27 (zrel G f t b) := by
  rw [sA_sA]
  rfl
def zna (g : Nat → Nat) (w c : Nat) : Nat → Nat := fun a => if 8 * w ≤ a ∧ a < 8 * w + c then 99999 else g a
theorem zna_0 (g : Nat → Nat) (w : Nat) : zna g w 0 = g := funext fun a => if_neg (by omega)
theorem zna_1 (g : Nat → Nat) (w c : Nat) : (fun a => if a = 8 * w + c then 99999 else zna g w c a) = zna g w (c + 1) := by
  funext a
  unfold zna
  by_cases h : a = 8 * w + c
  · rw [if_pos h, if_pos (by omega)]
  · rw [if_neg h]
    by_cases h2 : 8 * w ≤ a ∧ a < 8 * w + c
    · rw [if_pos h2, if_pos (by omega)]
    · rw [if_neg h2, if_neg (by omega)]
theorem zna_g (g : Nat → Nat) (w gl : Nat) (h : gl < 8) : (fun a => if a = 8 * w + gl then 0 else zna g w 8 a) = zinit g w gl 8 := by
  funext a
  unfold zna zinit
  by_cases h1 : a = 8 * w + gl
  · rw [if_pos h1, if_pos (by omega), if_pos (by omega)]
  · rw [if_neg h1]
    by_cases h2 : 8 * w ≤ a ∧ a < 8 * w + 8
    · rw [if_pos h2, if_pos h2, if_neg (by omega)]
    · rw [if_neg h2, if_neg h2]
theorem zWok_na {g : Nat → Nat} (h : zWok g) (w c : Nat) : zWok (zna g w c) := fun a => by
  unfold zna
  have := h a
  split <;> omega
/-- the class's ways: seven rounds -/
def zwc (τ : MS) (g : Nat → Nat) : Nat → (Nat → Nat) | 0 => g | w + 1 => zts τ w (zinit (zwc τ g w) w (τ.2 6 w) 8) 7
theorem zWok_wc {τ : MS} {g : Nat → Nat} (h : zWok g) : ∀ n, zWok (zwc τ g n)
  | 0 => h
  | n + 1 => zWok_ts (zWok_init (zWok_wc h n) _ _ _) _
theorem znr_n1 {τ : MS} {w c : Nat} (h : τ.2 6 w ≠ c) (h2 : ¬ τ.2 27 (8 * w + c) < 99999) : znr τ w c = 4294967295 := by unfold znr; rw [if_neg h, if_neg (fun q => h2 q.1)]
theorem znr_n2 {τ : MS} {w c : Nat} (h : τ.2 6 w ≠ c) (hno : ∀ j, j < τ.1 0 → znextP τ w c j = false) : znr τ w c = 4294967295 := by unfold znr; rw [if_neg h, if_neg (fun q => absurd q.2 (by rw [zfirst_none hno]; omega))]
theorem znr_r {τ : MS} {w c r : Nat} (h : τ.2 6 w ≠ c) (hW : τ.2 27 (8 * w + c) < 99999) (h0 : ∀ j, j < r → znextP τ w c j = false) (h1 : znextP τ w c r = true) (hr : r < τ.1 0) : znr τ w c = r := by unfold znr; rw [if_neg h, zfirst_at h0 h1 hr, if_pos ⟨hW, hr⟩]
theorem znextP_1 {τ : MS} {w c r : Nat} (h1 : ¬ (τ.2 1 r = c ∨ τ.2 2 r = c)) : znextP τ w c r = false := decide_eq_false (fun h => h1 h.1)
theorem znextP_2 {τ : MS} {w c r : Nat} (h1 : zshut τ w r) : znextP τ w c r = false := decide_eq_false (fun h => h.2.1 h1)
theorem znextP_3 {τ : MS} {w c r : Nat} (h1 : τ.2 27 (8 * w + (if τ.2 1 r = c then τ.2 2 r else τ.2 1 r)) + τ.2 3 r ≠ τ.2 27 (8 * w + c)) : znextP τ w c r = false := decide_eq_false (fun h => h1 h.2.2.2)
theorem znextP_y {τ : MS} {w c r : Nat} (h0 : τ.2 1 r = c ∨ τ.2 2 r = c) (hs : ¬ zshut τ w r) (hW : τ.2 27 (8 * w + c) < 99999) (h1 : τ.2 27 (8 * w + (if τ.2 1 r = c then τ.2 2 r else τ.2 1 r)) + τ.2 3 r = τ.2 27 (8 * w + c)) : znextP τ w c r = true := decide_eq_true ⟨h0, hs, by omega, h1⟩
theorem zplc_ac {c j : Nat} (hj : j < 10) : zplc c (zac j) = 6 * c + j := by
  unfold zplc zac
  by_cases h : j = 0
  · rw [if_pos h, if_pos rfl]; omega
  · rw [if_neg h]
    by_cases h2 : j - 1 = 4294967295
    · omega
    · rw [if_neg h2]; omega
