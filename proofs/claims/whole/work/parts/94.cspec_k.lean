/-! THE TABLES ARE RIGHT -/
theorem zhun0_le {τ : MS} (hok : mOk τ) {c a w : Nat} (hc : c < 8) : zhun0 τ c a w ≤ 100 := by
  have h := zhund_le (σ := sF τ 28 9) hok (c := c) (a := a) (w := w) hc
  rw [zhund_0 (show c ≠ 9 by omega)] at h
  exact h
theorem zodc_out {τ : MS} {g : Nat → Nat} {x : Nat} (h : τ.1 4 ≤ x % 5) : ∀ n, zodc τ g n x = g x
  | 0 => rfl
  | n + 1 => by
    rw [zodc]
    unfold zod
    rw [if_neg (by omega)]
    exact zodc_out h n
theorem zodc_in {τ : MS} {g : Nat → Nat} {x : Nat} (h : x % 5 < τ.1 4) : ∀ n, x < 30 * n → zodc τ g n x = zhun0 τ (x / 30) (zac (x / 5 - 6 * (x / 30))) (x % 5)
  | 0, hn => absurd hn (Nat.not_lt_zero _)
  | n + 1, hn => by
    rw [zodc]
    unfold zod
    by_cases q : 30 * n ≤ x
    · rw [if_pos (by omega), show x / 30 = n by omega]
    · rw [if_neg (by omega)]
      exact zodc_in h n (by omega)
/-- the land worked out: its ways, by the model's word -/
theorem zwork_27 {τ : MS} (hok : mOk τ) (hW : zWok (τ.2 27)) : (zwork τ).2 27 = zws τ (τ.2 27) (τ.1 4) := zwc_ws hok hW _ (Nat.le_refl _)
theorem zwork_61 {τ : MS} {c : Nat} (hc : c < 8) : (zwork τ).2 61 c = zleast (fun o => (zwork τ).2 27 (8 * o + c)) (τ.1 4) := by
  show zcp (fun c => zleast (fun o => zwc τ (τ.2 27) (τ.1 4) (8 * o + c)) (τ.1 4)) (τ.2 61) 8 c = _
  rw [zcp_in hc]
  rfl
theorem zwork_tOk {τ : MS} (hok : mOk τ) (ho : ∀ k, k < 240 → τ.2 62 k ≤ 100) (hs : ∀ w, w < 5 → τ.2 7 w < 65536) (hg : ∀ w, w < 5 → τ.2 6 w < 8) : tOk (zwork τ) := by
  have h4 : τ.1 4 ≤ 5 := hok.2.1
  have e0 : ∀ c a w, zhun0 (zwork τ) c a w = zhun0 (zw3 τ 8) c a w := fun c a w => rfl
  have e62 : (zwork τ).2 62 = zodc (zw3 τ 8) (τ.2 62) 8 := rfl
  refine ⟨hok, fun c hc => zwork_61 hc, fun k hk => ?_, fun c a w hc ha hw => ?_, fun w c hw hc => ?_, hs, hg⟩
  · rw [e62]
    rcases Nat.lt_or_ge (k % 5) (τ.1 4) with q | q
    · rw [zodc_in (τ := zw3 τ 8) q 8 (by omega)]
      exact zhun0_le (τ := zw3 τ 8) hok (by omega)
    · rw [zodc_out (τ := zw3 τ 8) q]
      exact ho k hk
  · have hw' : w < τ.1 4 := hw
    rw [e62, e0]
    rcases ha with ha | ha
    · have e : 5 * zplc c a + w = 30 * c + 5 + 5 * a + w := by unfold zplc; rw [if_neg (by omega)]; omega
      have q5 : (30 * c + 5 + 5 * a + w) % 5 = w := by omega
      rw [e, zodc_in (τ := zw3 τ 8) (by rw [q5]; exact hw') 8 (by omega), show (30 * c + 5 + 5 * a + w) / 30 = c by omega, show (30 * c + 5 + 5 * a + w) / 5 - 6 * c = a + 1 by omega, show (30 * c + 5 + 5 * a + w) % 5 = w by omega]
      unfold zac
      rw [if_neg (by omega), Nat.add_sub_cancel]
    · have e : 5 * zplc c a + w = 30 * c + w := by unfold zplc; rw [if_pos ha]; omega
      have q5 : (30 * c + w) % 5 = w := by omega
      rw [e, zodc_in (τ := zw3 τ 8) (by rw [q5]; exact hw') 8 (by omega), show (30 * c + w) / 30 = c by omega, show (30 * c + w) / 5 - 6 * c = 0 by omega, show (30 * c + w) % 5 = w by omega, ha]
      rfl
  · have hw' : w < τ.1 4 := hw
    show zn6 τ (zwc τ (τ.2 27) (τ.1 4)) (8 * τ.1 4) (8 * w + c) = _
    unfold zn6
    rw [if_pos (by omega), show (8 * w + c) / 8 = w by omega, show (8 * w + c) % 8 = c by omega]
    rfl
