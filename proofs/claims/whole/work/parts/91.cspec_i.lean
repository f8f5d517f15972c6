/-! THE TABLE OF HUNDREDTHS -/
def zod (τ : MS) (c m : Nat) (g : Nat → Nat) : Nat → Nat := fun x => if 30 * c ≤ x ∧ x < 30 * c + 30 ∧ x % 5 < m then zhun0 τ c (zac (x / 5 - 6 * c)) (x % 5) else g x
def zoA (τ : MS) (c w j : Nat) (g : Nat → Nat) : Nat → Nat := fun x => if 30 * c ≤ x ∧ x < 30 * c + 5 * j ∧ x % 5 = w then 0 else zod τ c w g x
def zoB (τ : MS) (c w s : Nat) (g : Nat → Nat) : Nat → Nat := fun x => if 30 * c ≤ x ∧ x < 30 * c + 30 ∧ x % 5 = w then (if x / 5 = 6 * c then 100 - zsum (fun t => τ.2 11 (6 * c + t)) (τ.1 8) else zsum (fun t => if zsaid τ t c w = x / 5 - 6 * c - 1 then τ.2 11 (6 * c + t) else 0) s) else zod τ c w g x
theorem zod_0 (τ : MS) (c : Nat) (g : Nat → Nat) : zod τ c 0 g = g := funext fun x => if_neg (by omega)
theorem zoA_0 (τ : MS) (c w : Nat) (g : Nat → Nat) : zoA τ c w 0 g = zod τ c w g := funext fun x => if_neg (by omega)
theorem zoA_1 {τ : MS} {c w j : Nat} {g : Nat → Nat} (hw : w < 5) : (fun x => if x = 5 * (6 * c + j) + w then 0 else zoA τ c w j g x) = zoA τ c w (j + 1) g := by
  funext x
  unfold zoA
  by_cases h : x = 5 * (6 * c + j) + w
  · rw [if_pos h, if_pos (by omega)]
  · rw [if_neg h]
    by_cases h2 : 30 * c ≤ x ∧ x < 30 * c + 5 * j ∧ x % 5 = w
    · rw [if_pos h2, if_pos (by omega)]
    · rw [if_neg h2, if_neg (by omega)]
theorem zoB_0 {τ : MS} {c w : Nat} {g : Nat → Nat} (hw : w < 5) : (fun x => if x = 5 * (6 * c) + w then 100 - zsum (fun t => τ.2 11 (6 * c + t)) (τ.1 8) else zoA τ c w 6 g x) = zoB τ c w 0 g := by
  funext x
  unfold zoB zoA
  by_cases h : x = 5 * (6 * c) + w
  · rw [if_pos h, if_pos (by omega), if_pos (by omega)]
  · rw [if_neg h]
    by_cases h2 : 30 * c ≤ x ∧ x < 30 * c + 30 ∧ x % 5 = w
    · rw [if_pos (by omega), if_pos h2, if_neg (by omega)]
      rfl
    · rw [if_neg (by omega), if_neg h2]
theorem zoB_1 {τ : MS} {c w s : Nat} {g : Nat → Nat} (hw : w < 5) (hs : zsaid τ s c w < 5) : (fun x => if x = 5 * (6 * c + 1 + zsaid τ s c w) + w then zoB τ c w s g (5 * (6 * c + 1 + zsaid τ s c w) + w) + τ.2 11 (6 * c + s) else zoB τ c w s g x) = zoB τ c w (s + 1) g := by
  funext x
  by_cases h : x = 5 * (6 * c + 1 + zsaid τ s c w) + w
  · rw [if_pos h, ← h]
    unfold zoB
    have hC : 30 * c ≤ x ∧ x < 30 * c + 30 ∧ x % 5 = w := by omega
    have hn : ¬ x / 5 = 6 * c := by omega
    rw [if_pos hC, if_pos hC, if_neg hn, if_neg hn, zsum, if_pos (show zsaid τ s c w = x / 5 - 6 * c - 1 by omega)]
  · rw [if_neg h]
    unfold zoB
    by_cases h2 : 30 * c ≤ x ∧ x < 30 * c + 30 ∧ x % 5 = w
    · rw [if_pos h2, if_pos h2]
      by_cases h3 : x / 5 = 6 * c
      · rw [if_pos h3, if_pos h3]
      · rw [if_neg h3, if_neg h3, zsum, if_neg (show ¬ zsaid τ s c w = x / 5 - 6 * c - 1 by omega)]
        rfl
    · rw [if_neg h2, if_neg h2]
/-- nobody of a sort that isn't there is met -/
def mZ (τ : MS) : Prop := ∀ c s, c < 8 → τ.1 8 ≤ s → s < 6 → τ.2 11 (6 * c + s) = 0
theorem zoB_e {τ : MS} {c w : Nat} {g : Nat → Nat} (hok : mOk τ) (hz : mZ τ) (hc : c < 8) (hw : w < 5) : zoB τ c w (τ.1 8) g = zod τ c (w + 1) g := by
  funext x
  unfold zoB zod
  by_cases h2 : 30 * c ≤ x ∧ x < 30 * c + 30 ∧ x % 5 = w
  · have hC2 : 30 * c ≤ x ∧ x < 30 * c + 30 ∧ x % 5 < w + 1 := by omega
    rw [if_pos h2, if_pos hC2, h2.2.2]
    unfold zhun0 zac
    by_cases h3 : x / 5 = 6 * c
    · rw [if_pos h3, if_pos (show x / 5 - 6 * c = 0 by omega), if_pos rfl, zsum_ext (n := τ.1 8) (k := 6) hok.2.2.1 (fun s h4 h5 => hz c s hc h4 h5)]
    · rw [if_neg h3, if_neg (show ¬ x / 5 - 6 * c = 0 by omega), if_neg (show ¬ x / 5 - 6 * c - 1 = 4294967295 by omega)]
  · rw [if_neg h2]
    by_cases h4 : 30 * c ≤ x ∧ x < 30 * c + 30 ∧ x % 5 < w
    · rw [if_pos h4, if_pos (by omega)]
    · rw [if_neg h4, if_neg (by omega)]
theorem zrs_sA {τ : MS} {k : Nat} {h : Nat → Nat} (hk : k ≠ 1 ∧ k ≠ 2 ∧ k ≠ 3 ∧ k ≠ 7) {w : Nat} {g : Nat → Nat} : ∀ r, zrs (sA τ k h) w g r = zrs τ w g r
  | 0 => rfl
  | r + 1 => by
    have e : ∀ j, j ≠ k → (sA τ k h).2 j = τ.2 j := fun j hj => if_neg hj
    rw [zrs, zrs, zrs_sA hk r]
    unfold zshut
    rw [e 1 (by omega), e 2 (by omega), e 3 (by omega), e 7 (by omega)]
theorem zts_sA {τ : MS} {k : Nat} {h : Nat → Nat} (hk : k ≠ 1 ∧ k ≠ 2 ∧ k ≠ 3 ∧ k ≠ 7) {w : Nat} {g : Nat → Nat} : ∀ n, zts (sA τ k h) w g n = zts τ w g n
  | 0 => rfl
  | n + 1 => by
    rw [zts, zts, zts_sA hk n]
    exact zrs_sA hk _
/-- the ways of a world are written in its own row alone -/
theorem zrel_row {g : Nat → Nat} {w f t b a : Nat} (hf : f < 8) (ha : a < 8 * w ∨ 8 * w + 8 ≤ a) : zrel g (8 * w + f) t b a = g a := by
  unfold zrel
  rw [if_neg (by omega)]
theorem zrs_row {τ : MS} (hok : mOk τ) {w a : Nat} {g : Nat → Nat} (ha : a < 8 * w ∨ 8 * w + 8 ≤ a) : ∀ r, r ≤ τ.1 0 → zrs τ w g r a = g a
  | 0, _ => rfl
  | r + 1, hr => by
    have h7 := hok.2.2.2.1 r (by omega)
    rw [zrs]
    split
    · exact zrs_row hok ha r (by omega)
    · rw [zrel_row h7.2.1 ha, zrel_row h7.1 ha]
      exact zrs_row hok ha r (by omega)
theorem zts_row {τ : MS} (hok : mOk τ) {w a : Nat} {g : Nat → Nat} (ha : a < 8 * w ∨ 8 * w + 8 ≤ a) : ∀ n, zts τ w g n a = g a
  | 0 => rfl
  | n + 1 => by
    rw [zts, zrs_row hok ha _ (Nat.le_refl _)]
    exact zts_row hok ha n
theorem zwc_row {τ : MS} (hok : mOk τ) {g : Nat → Nat} {w a : Nat} (ha : a < 8 * w ∨ 8 * w + 8 ≤ a) : zwc τ g (w + 1) a = zwc τ g w a := by
  rw [zwc, zts_row hok ha]
  unfold zinit
  rw [if_neg (by omega)]
theorem zfirst_cong {P R : Nat → Bool} : ∀ {n : Nat}, (∀ i, i < n → P i = R i) → zfirst P n = zfirst R n
  | 0, _ => rfl
  | n + 1, h => by rw [zfirst, zfirst, zfirst_cong (fun i hi => h i (by omega)), h n (by omega)]
theorem znr_cong {τ : MS} (hok : mOk τ) {W W' : Nat → Nat} {w c : Nat} (hc : c < 8) (h : ∀ a, 8 * w ≤ a → a < 8 * w + 8 → W a = W' a) : znr (sA τ 27 W) w c = znr (sA τ 27 W') w c := by
  have e : zfirst (znextP (sA τ 27 W) w c) (τ.1 0) = zfirst (znextP (sA τ 27 W') w c) (τ.1 0) := zfirst_cong (fun r hr => by
    have h7 := hok.2.2.2.1 r hr
    unfold znextP
    show decide ((τ.2 1 r = c ∨ τ.2 2 r = c) ∧ ¬ zshut τ w r ∧ W (8 * w + (if τ.2 1 r = c then τ.2 2 r else τ.2 1 r)) < 99999 ∧ W (8 * w + (if τ.2 1 r = c then τ.2 2 r else τ.2 1 r)) + τ.2 3 r = W (8 * w + c)) = decide ((τ.2 1 r = c ∨ τ.2 2 r = c) ∧ ¬ zshut τ w r ∧ W' (8 * w + (if τ.2 1 r = c then τ.2 2 r else τ.2 1 r)) < 99999 ∧ W' (8 * w + (if τ.2 1 r = c then τ.2 2 r else τ.2 1 r)) + τ.2 3 r = W' (8 * w + c))
    have h8 : (if τ.2 1 r = c then τ.2 2 r else τ.2 1 r) < 8 := by split <;> omega
    rw [h _ (by omega) (show 8 * w + (if τ.2 1 r = c then τ.2 2 r else τ.2 1 r) < 8 * w + 8 by omega), h _ (by omega) (show 8 * w + c < 8 * w + 8 by omega)])
  unfold znr
  show (if τ.2 6 w = c then 4294967295 else if W (8 * w + c) < 99999 ∧ zfirst (znextP (sA τ 27 W) w c) (τ.1 0) < τ.1 0 then zfirst (znextP (sA τ 27 W) w c) (τ.1 0) else 4294967295) = (if τ.2 6 w = c then 4294967295 else if W' (8 * w + c) < 99999 ∧ zfirst (znextP (sA τ 27 W') w c) (τ.1 0) < τ.1 0 then zfirst (znextP (sA τ 27 W') w c) (τ.1 0) else 4294967295)
  rw [e, h _ (by omega) (show 8 * w + c < 8 * w + 8 by omega)]
def zn6 (τ : MS) (W : Nat → Nat) (n : Nat) : Nat → Nat := fun a => if a < n then znr (sA τ 27 W) (a / 8) (a % 8) else τ.2 60 a
def zw2 (τ : MS) (w c : Nat) : MS := sA (sA τ 27 (zwc τ (τ.2 27) w)) 60 (zn6 τ (zwc τ (τ.2 27) w) c)
theorem zw2_0 (τ : MS) : τ = zw2 τ 0 (8 * 0) := by
  unfold zw2
  rw [show zn6 τ (zwc τ (τ.2 27) 0) (8 * 0) = τ.2 60 from funext fun a => if_neg (by omega), show zwc τ (τ.2 27) 0 = τ.2 27 from rfl, sA_self]
  exact (sA_self τ 60).symm
theorem sA_comm {τ : MS} {j k : Nat} {g h : Nat → Nat} (hjk : j ≠ k) : sA (sA τ j g) k h = sA (sA τ k h) j g := by
  unfold sA
  refine congrArg (Prod.mk _) (funext fun i => ?_)
  show (if i = k then h else if i = j then g else τ.2 i) = (if i = j then g else if i = k then h else τ.2 i)
  by_cases h1 : i = k
  · rw [if_pos h1, if_neg (by omega), if_pos h1]
  · rw [if_neg h1, if_neg h1]
theorem zw2_w {τ : MS} (hok : mOk τ) {w : Nat} : sA (zw2 τ w (8 * w)) 27 (zts (zw2 τ w (8 * w)) w (zinit ((zw2 τ w (8 * w)).2 27) w ((zw2 τ w (8 * w)).2 6 w) 8) 7) = zw2 τ (w + 1) (8 * w + 0) := by
  have e1 : zts (zw2 τ w (8 * w)) w (zinit ((zw2 τ w (8 * w)).2 27) w ((zw2 τ w (8 * w)).2 6 w) 8) 7 = zwc τ (τ.2 27) (w + 1) := by
    unfold zw2
    rw [zts_sA (by decide), zts_sA (by decide)]
    rfl
  rw [e1]
  unfold zw2
  rw [sA_comm (by decide), sA_sA]
  refine congrArg (sA _ 60) (funext fun a => ?_)
  unfold zn6
  by_cases h : a < 8 * w
  · rw [if_pos h, if_pos (by omega)]
    refine znr_cong hok (Nat.mod_lt _ (by decide)) (fun b h1 h2 => (zwc_row hok (by omega)).symm)
  · rw [if_neg h, if_neg (by omega)]
theorem zw2_s {τ : MS} {w c : Nat} (hc : c < 8) : sE (zw2 τ (w + 1) (8 * w + c)) 60 (8 * w + c) (znr (zw2 τ (w + 1) (8 * w + c)) w c) = zw2 τ (w + 1) (8 * w + (c + 1)) := by
  have e : znr (zw2 τ (w + 1) (8 * w + c)) w c = znr (sA τ 27 (zwc τ (τ.2 27) (w + 1))) w c := rfl
  rw [e]
  unfold zw2
  rw [sA_e1]
  refine sA_cong _ 60 (fun a => ?_)
  unfold zn6
  by_cases h : a = 8 * w + c
  · rw [if_pos h, if_pos (by omega), show a / 8 = w by omega, show a % 8 = c by omega]
  · rw [if_neg h]
    by_cases h2 : a < 8 * w + c
    · rw [if_pos h2, if_pos (by omega)]
    · rw [if_neg h2, if_neg (by omega)]
def zw3 (τ : MS) (c : Nat) : MS := sA (zw2 τ (τ.1 4) (8 * τ.1 4)) 61 (zcp (fun c => zleast (fun o => zwc τ (τ.2 27) (τ.1 4) (8 * o + c)) (τ.1 4)) (τ.2 61) c)
def zodc (τ : MS) (g : Nat → Nat) : Nat → (Nat → Nat) | 0 => g | c + 1 => zod τ c (τ.1 4) (zodc τ g c)
def zw4 (τ : MS) (c : Nat) : MS := sA (zw3 τ 8) 62 (zodc (zw3 τ 8) (τ.2 62) c)
def zwork (τ : MS) : MS := zw4 τ 8
