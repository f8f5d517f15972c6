/-! LINKS: WHAT ASKING IS WORTH -/
def zs64 (f : Nat → Int64) : Nat → Int64 | 0 => lN 0 | n + 1 => zs64 f n + f n
theorem lN_a (a b : Nat) : lN (a + b) = lN a + lN b := Int64.ofNat_add a b
theorem lN_m (a b : Nat) : lN (a * b) = lN a * lN b := Int64.ofNat_mul a b
theorem lN_z : lN 0 = 0 := rfl
theorem zs64_cong {f g : Nat → Int64} : ∀ {n : Nat}, (∀ k, k < n → f k = g k) → zs64 f n = zs64 g n
  | 0, _ => rfl
  | n + 1, h => by rw [zs64, zs64, zs64_cong (fun k hk => h k (by omega)), h n (by omega)]
theorem zs64_N (f : Nat → Nat) : ∀ n, lN (zsum f n) = zs64 (fun w => lN (f w)) n
  | 0 => rfl
  | n + 1 => by rw [zsum, lN_a, zs64_N f n, zs64]
theorem zs64_sub (f g : Nat → Int64) : ∀ n, zs64 (fun w => f w - g w) n = zs64 f n - zs64 g n
  | 0 => by
    show lN 0 = lN 0 - lN 0
    rw [lN_z]; rfl
  | n + 1 => by
    rw [zs64, zs64, zs64, zs64_sub f g n]
    grind
theorem zs64_mul (a : Int64) (f : Nat → Int64) : ∀ n, zs64 (fun w => a * f w) n = a * zs64 f n
  | 0 => by
    show lN 0 = a * lN 0
    rw [lN_z]; grind
  | n + 1 => by
    rw [zs64, zs64, zs64_mul a f n]
    grind
theorem zs64_0 {f : Nat → Int64} : ∀ {n : Nat}, (∀ k, k < n → f k = 0) → zs64 f n = 0
  | 0, _ => rfl
  | n + 1, h => by
    rw [zs64, zs64_0 (fun k hk => h k (by omega)), h n (by omega)]
    rfl
theorem zwsum_is {σ : MS} {c p : Nat} : ∀ n, zwsum σ c p n = zs64 (fun w => zwr σ c p w (σ.1 4 + 1) * lN (σ.2 14 w)) n
  | 0 => rfl
  | n + 1 => by
    rw [zwsum, zwsum_is n, zs64]
    by_cases q : 0 < σ.2 14 n
    · rw [if_pos q]
    · rw [if_neg q, show σ.2 14 n = 0 by omega, lN_z]
      grind
theorem zgall_0 {f : Nat → Nat} : ∀ {n : Nat}, zgall f n = 0 → ∀ w, w < n → f w = 0
  | 0, _, w, hw => absurd hw (Nat.not_lt_zero w)
  | n + 1, h, w, hw => by
    rw [zgall, Nat.gcd_eq_zero_iff] at h
    by_cases e : w = n
    · rw [e]; exact h.1
    · exact zgall_0 h.2 w (by omega)
section LV
variable {σ τ : MS} {F : Nat → Nat}
theorem lk_in (h : zAg (zf σ) τ) (hok : mOk τ) {w c : Nat} {m m' : Nat → Nat} (hw : w < τ.1 4) (hc : c < 8) (hm : zsame (τ.1 4) m m') : zin (zwalk (zf σ) w c 4294967295 0 m 0) = zin (zwalk τ w c 4294967295 0 m' 0) := by rw [ag_walk h hok hw hc hm]
theorem zwr_step {σ : MS} {c p w k : Nat} : zwr σ c p w (k + 1) = zwr σ c p w k - lN (zhund σ c (zac k) w) * lN (zma σ c w (zac k)) := by
  rw [zwr]
  by_cases q : 0 < zhund σ c (zac k) w
  · rw [if_pos q]
  · rw [if_neg q, show zhund σ c (zac k) w = 0 by omega, lN_z]
    grind
theorem lk_ga (h : zAg (zf σ) τ) (hT : tOk τ) (h28 : τ.1 28 = 4294967295) (hF : zTh (τ.1 4) F (σ.2 14)) {c p : Nat} (hc : c < 8) : ∀ k, k ≤ τ.1 4 + 1 → zs64 (fun w => zwr (zf σ) c p w k * lN (σ.2 14 w)) (τ.1 4) = zga τ F c k - lN (100 * p * zsum F 5)
  | 0, _ => by
    have hn := hT.1.2.1
    have e1 : zsum F 5 = zsum (σ.2 14) (τ.1 4) := (zsum_ext hn (fun w h1 h2 => hF.1.2 w h1 h2)).trans (zsum_cong _ hF.2)
    rw [zga, e1, lN_m, zs64_N, zs64_N, ← zs64_mul, ← zs64_sub]
    refine zs64_cong (fun w hw => ?_)
    show (lN 100 * lN (zin (zwalk (zf σ) w c 4294967295 0 (σ.2 14) 0)) - lN 100 * lN p) * lN (σ.2 14 w) = lN (zgnS τ F c w) - lN (100 * p) * lN (σ.2 14 w)
    unfold zgnS
    rw [lk_in h hT.1 hw hc (m' := F) (fun k hk => (hF.2 k hk).symm), hF.2 w hw, lN_m, lN_m, lN_m]
    grind
  | k + 1, hk => by
    have hn := hT.1.2.1
    have ih := lk_ga h hT h28 hF hc k (by omega) (p := p)
    have ha : zac k < 5 ∨ zac k = 4294967295 := by unfold zac; split <;> omega
    obtain ⟨k1, k2, k3⟩ := lk_he h hT h28 hF hc ha
    have eg : zgall (zgaH τ F c k) 5 = zgall (zHa (zf σ) c (zac k)) (τ.1 4) := (zgall_ext hn k3).trans (zgall_cong k2)
    obtain ⟨x1, x2⟩ := zset_ext hn k2 k3
    have e0 : zs64 (fun w => zwr (zf σ) c p w (k + 1) * lN (σ.2 14 w)) (τ.1 4) = zs64 (fun w => zwr (zf σ) c p w k * lN (σ.2 14 w)) (τ.1 4) - zs64 (fun w => lN (zhund (zf σ) c (zac k) w) * lN (zma (zf σ) c w (zac k)) * lN (σ.2 14 w)) (τ.1 4) := by
      rw [← zs64_sub]
      refine zs64_cong (fun w _ => ?_)
      rw [zwr_step]
      grind
    rw [e0, ih, zga]
    by_cases q : zgall (zgaH τ F c k) 5 = 0
    · rw [if_pos q, zs64_0]
      · grind
      · intro w hw
        have hz := zgall_0 (eg ▸ q) w hw
        have hz : σ.2 14 w * zhund (zf σ) c (zac k) w = 0 := hz
        have hz2 : lN (σ.2 14 w) * lN (zhund (zf σ) c (zac k) w) = 0 := by rw [← lN_m, hz]; rfl
        grind
    · rw [if_neg q]
      have e2 : lN (zsum (zspS τ F (zset 5 (zgaH τ F c k)) c (zac k)) (τ.1 4)) = zs64 (fun w => lN (zhund (zf σ) c (zac k) w) * lN (zma (zf σ) c w (zac k)) * lN (σ.2 14 w)) (τ.1 4) := by
        rw [zs64_N]
        refine zs64_cong (fun w hw => ?_)
        unfold zspS zma zRa
        have e4 : (zf σ).1 4 = τ.1 4 := h.1.2.1
        rw [hT.2.2.2.1 c (zac k) w hc ha hw, ← lk_hund h hT.1 h28 hc, ← hF.2 w hw, e4, ← lk_in h hT.1 hw hc (m := zset (τ.1 4) (zHa (zf σ) c (zac k))) (m' := zset 5 (zgaH τ F c k)) (fun j hj => (x1 j hj).symm), lN_m, lN_m]
        have eg2 : zgall (zHa (zf σ) c (zac k)) (τ.1 4) ≠ 0 := eg ▸ q
        unfold zin
        by_cases q5 : (zwalk (zf σ) w c 4294967295 0 (zset (τ.1 4) (zHa (zf σ) c (zac k))) 0).1 = 0
        · rw [if_pos q5, if_pos ⟨q5, eg2⟩]
          grind
        · rw [if_neg q5, if_neg (fun x => q5 x.1)]
          grind
      rw [e2]
      grind
theorem lk_worth (h : zAg (zf σ) τ) (hT : tOk τ) (h28 : τ.1 28 = 4294967295) (hF : zTh (τ.1 4) F (σ.2 14)) {c : Int32} : zwthC τ F c = zworthS σ c := by
  unfold zwthC zworthS
  by_cases q : zir c 8
  · rw [if_neg (not_not_intro q), if_neg (not_not_intro q)]
    have hc := zir_N2 (by decide) q
    have e4 : (zf σ).1 4 = τ.1 4 := h.1.2.1
    have e := lk_ga h hT h28 hF (p := τ.1 13) hc (τ.1 4 + 1) (Nat.le_refl _)
    by_cases q2 : zready τ
    · rw [if_neg (not_not_intro q2), if_neg (not_not_intro ((lk_ready h).mpr q2)), zwsum_is, (lk_fields h).2.1, (lk_fields h).2.2.2.2.1, e4]
      exact e.symm
    · rw [if_pos q2, if_pos (show ¬ zready σ from fun x => q2 ((lk_ready h).mp x))]
  · rw [if_pos q, if_pos q]
theorem lk_never (h : zAg (zf σ) τ) (hT : tOk τ) (h28 : τ.1 28 = 4294967295) (hF : zTh (τ.1 4) F (σ.2 14)) {c : Int32} : znvC τ F c = zneverS σ c := by
  unfold znvC zneverS
  by_cases q : zir c 8
  · rw [if_neg (not_not_intro q), if_neg (not_not_intro q)]
    have hc := zir_N2 (by decide) q
    have hn := hT.1.2.1
    have e4 : (zf σ).1 4 = τ.1 4 := h.1.2.1
    have eP : zfirst (znvP τ F c.toInt.toNat) 31 = zfirst (znevP σ c.toInt.toNat) 31 := by
      refine zfirst_cong (fun p _ => ?_)
      unfold znvP znevP
      have e := lk_ga h hT h28 hF (p := 0) hc (τ.1 4 + 1) (Nat.le_refl _)
      have e2 : zwsum (zf σ) c.toInt.toNat 0 (σ.1 4) = zga τ F c.toInt.toNat (τ.1 4 + 1) - lN (100 * 0 * zsum F 5) := by
        rw [zwsum_is, (lk_fields h).2.1, e4]
        exact e
      rw [e2, ← lk_sumF h hn hF, lN_m (100 * p), lN_m 100 p, show 100 * 0 * zsum F 5 = 0 by omega, lN_z]
      have e3 : zga τ F c.toInt.toNat (τ.1 4 + 1) - 0 - lN 100 * lN p * lN (zsum F 5) = zga τ F c.toInt.toNat (τ.1 4 + 1) - lN 100 * lN p * lN (zsum F 5) := by grind
      rw [e3]
    by_cases q2 : zready τ
    · rw [if_neg (not_not_intro q2), if_neg (not_not_intro ((lk_ready h).mpr q2)), eP]
    · rw [if_pos q2, if_pos (show ¬ zready σ from fun x => q2 ((lk_ready h).mp x))]
  · rw [if_pos q, if_pos q]
end LV
