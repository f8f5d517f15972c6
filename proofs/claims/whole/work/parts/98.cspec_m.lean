/-! BOUNDS OF FRESH WEIGHTS -/
theorem zhe5_lt {τ : MS} {F : Nat → Nat} {q : Nat} (hod : ∀ k, k < 240 → τ.2 62 k ≤ 100) (hF : ∀ w, w < 5 → F w ≤ 100000000000) (hq : q < 48) : ∀ w, w < 5 → zhe5 τ F q w < 9223372036854775808 := fun w hw => by
  have h1 := hod (5 * q + w) (by omega)
  have h2 := Nat.mul_le_mul (hF w hw) h1
  show F w * τ.2 62 (5 * q + w) < _
  omega
theorem zhe2_lt {τ : MS} {F : Nat → Nat} {q x : Nat} (hod : ∀ k, k < 240 → τ.2 62 k ≤ 100) (hF : ∀ w, w < 5 → F w ≤ 100000000000) (hq : q < 48) (hx : x ≤ 100) : ∀ w, w < 5 → zhe2 τ F q x w < 9223372036854775808 := fun w hw => by
  have h1 := hod (5 * q + w) (by omega)
  have h2 := Nat.mul_le_mul (hF w hw) h1
  have h3 : (100 - x) * τ.2 62 (5 * q + w) ≤ 10000 := Nat.mul_le_mul (show 100 - x ≤ 100 by omega) h1
  have h4 : 100 * x + (100 - x) * τ.2 62 (5 * q + w) ≤ 20000 := by omega
  have h5 := Nat.mul_le_mul h2 h4
  show F w * τ.2 62 (5 * q + w) * (100 * x + (100 - x) * τ.2 62 (5 * q + w)) < _
  omega
theorem zsee_lt {τ : MS} {F : Nat → Nat} {r b : Nat} (hF : ∀ w, w < 5 → F w ≤ 100000000000) : ∀ w, w < 5 → zseeM τ F r b w < 9223372036854775808 := fun w hw => by
  have h1 := hF w hw
  unfold zseeM
  split <;> split <;> omega
theorem zir_t'' {x : Int32} {n : Nat} (hn : n < 2147483647) (h1 : ¬ x < 0) (h2 : x ≤ nI n) : zir x (n + 1) := by
  have h3 : x.toInt ≤ (nI n).toInt := Int32.le_iff_toInt_le.mp h2
  rw [zi_of (by omega)] at h3
  have h4 : ¬ x.toInt < (0 : Int32).toInt := fun q => h1 (Int32.lt_iff_toInt_lt.mpr q)
  rw [show (0 : Int32).toInt = 0 from by decide] at h4
  exact ⟨by omega, by omega⟩
theorem zir_f3 {x : Int32} {n : Nat} (hn : n < 2147483647) (h2 : ¬ x ≤ nI n) : ¬ zir x (n + 1) := fun q => h2 (Int32.le_iff_toInt_le.mpr (by
  have h3 := q.2
  rw [zi_of (by omega)]
  omega))
theorem zlaF_r {τ : MS} {F K : Nat → Nat} (h : zready τ) : (if zgall K 5 = 0 then F else zset 5 K) = zlaF τ F K := by
  unfold zlaF
  by_cases q : zgall K 5 = 0
  · rw [if_pos q, if_neg (fun r => r.2 q)]
  · rw [if_neg q, if_pos ⟨h, q⟩]
theorem zlaF_n {τ : MS} {F K : Nat → Nat} (h : ¬ zready τ) : F = zlaF τ F K := (if_neg (fun q => h q.1)).symm
theorem zlaR_y {τ : MS} {F K : Nat → Nat} (h : zready τ) (q : ¬ zgall K 5 = 0) : nI (zbest (if zgall K 5 = 0 then F else zset 5 K) 5) = zlaR τ K := by
  unfold zlaR
  rw [if_neg q, if_pos ⟨h, q⟩]
theorem zansC_n {τ : MS} {F : Nat → Nat} {c a : Int32} (h : ¬ (zir c 8 ∧ zanR τ a)) : zansC τ F c a = -1 ∧ zansF τ F c a = F := ⟨if_pos h, if_pos h⟩
theorem zsamC_n {τ : MS} {F : Nat → Nat} {c a x : Int32} (h : ¬ (zir c 8 ∧ zanR τ a ∧ zir x 101)) : zsamC τ F c a x = -1 ∧ zsamF τ F c a x = F := ⟨if_pos h, if_pos h⟩
