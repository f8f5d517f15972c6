theorem zir_t {x : Int32} {n : Nat} (hn : n < 2147483648) (h1 : ¬ x < 0) (h2 : ¬ nI n ≤ x) : zir x n := by
  simp only [z32_lt, z32_le, zi_of hn, show (0 : Int32).toInt = 0 from rfl] at h1 h2
  exact ⟨by omega, by omega⟩
theorem zir_f1 {x : Int32} {n : Nat} (h1 : x < 0) : ¬ zir x n := by
  simp only [z32_lt, show (0 : Int32).toInt = 0 from rfl] at h1
  intro h
  have := h.1
  omega
theorem zir_f2 {x : Int32} {n : Nat} (hn : n < 2147483648) (h2 : nI n ≤ x) : ¬ zir x n := by
  simp only [z32_le, zi_of hn] at h2
  intro h
  have := h.2
  omega
theorem zir_t' {x : Int32} {n : Nat} (hn : n < 2147483648) (h1 : ¬ x < 0) (h2 : ¬ nI n < x) : zir x (n + 1) := by
  simp only [z32_lt, zi_of hn, show (0 : Int32).toInt = 0 from rfl] at h1 h2
  exact ⟨by omega, by omega⟩
theorem zir_f2' {x : Int32} {n : Nat} (hn : n < 2147483648) (h2 : nI n < x) : ¬ zir x (n + 1) := by
  simp only [z32_lt, zi_of hn] at h2
  intro h
  have := h.2
  omega
abbrev zseeds (x : Int32) : Prop := 1 ≤ x.toInt ∧ x.toInt < 21
theorem zsd_t {x : Int32} (h1 : ¬ x < nI 1) (h2 : ¬ nI 20 < x) : zseeds x := by
  simp only [z32_lt, zi_of (show 1 < 2147483648 by decide), zi_of (show 20 < 2147483648 by decide)] at h1 h2
  exact ⟨by omega, by omega⟩
theorem zsd_f1 {x : Int32} (h1 : x < nI 1) : ¬ zseeds x := by
  simp only [z32_lt, zi_of (show 1 < 2147483648 by decide)] at h1
  intro h
  have := h.1
  omega
theorem zsd_f2 {x : Int32} (h2 : nI 20 < x) : ¬ zseeds x := by
  simp only [z32_lt, zi_of (show 20 < 2147483648 by decide)] at h2
  intro h
  have := h.2
  omega
theorem zb_t {P : Prop} [Decidable P] (h : P) : nI 1 = (if P then 1 else 0) := by rw [if_pos h]; rfl
theorem zb_f {P : Prop} [Decidable P] (h : ¬ P) : nI 0 = (if P then 1 else 0) := by rw [if_neg h]; rfl
/-- what one of a sort says, by the table of who pleases -/
abbrev zpl (τ : MS) : Prop := ∀ c, c < 8 → τ.2 61 c = zleast (fun o => τ.2 27 (8 * o + c)) (τ.1 4)
theorem zsaid_0 {τ : MS} {s c w : Nat} (h : τ.2 9 s = 0) : zsaid τ s c w = w := by unfold zsaid; rw [if_pos h]
theorem zsaid_1 {τ : MS} {s c w : Nat} (h : τ.2 9 s = 1) : zsaid τ s c w = if τ.2 10 s < τ.1 4 then τ.2 10 s else τ.1 4 - 1 := by unfold zsaid; rw [if_neg (by omega), if_pos h]
theorem zsaid_2 {τ : MS} {s c w : Nat} (h : τ.2 9 s = 2) : zsaid τ s c w = zleast (fun o => τ.2 27 (8 * o + c)) (τ.1 4) := by unfold zsaid; rw [if_neg (by omega), if_neg (by omega), if_pos h]
theorem zsaid_3 {τ : MS} {s c w : Nat} (h : τ.2 9 s = 3) : zsaid τ s c w = if w = τ.1 4 - 1 then 0 else w + 1 := by unfold zsaid; rw [if_neg (by omega), if_neg (by omega), if_neg (by omega), if_pos h]
theorem zsaid_4 {τ : MS} {s c w : Nat} (h : τ.2 9 s = 4) : zsaid τ s c w = if w = 0 then τ.1 4 - 1 else w - 1 := by unfold zsaid; rw [if_neg (by omega), if_neg (by omega), if_neg (by omega), if_neg (by omega)]
def zmetW (τ : MS) (c d : Nat) : Nat := if zfirst (zmetP τ c d) (τ.1 8) < τ.1 8 then zfirst (zmetP τ c d) (τ.1 8) else 4294967295
