/-! TWO LANDS ALIKE BELOW THEIR COUNTS HAVE THE SAME WAYS -/
def zLd (σ τ : MS) : Prop := (σ.1 0 = τ.1 0 ∧ σ.1 4 = τ.1 4 ∧ σ.1 8 = τ.1 8 ∧ σ.1 12 = τ.1 12 ∧ σ.1 13 = τ.1 13) ∧ (∀ r, r < τ.1 0 → σ.2 1 r = τ.2 1 r ∧ σ.2 2 r = τ.2 2 r ∧ σ.2 3 r = τ.2 3 r) ∧ (∀ w, w < τ.1 4 → σ.2 5 w = τ.2 5 w ∧ σ.2 6 w = τ.2 6 w ∧ σ.2 7 w = τ.2 7 w) ∧ (∀ s, s < τ.1 8 → σ.2 9 s = τ.2 9 s ∧ σ.2 10 s = τ.2 10 s) ∧ ∀ k, k < 48 → σ.2 11 k = τ.2 11 k
theorem zLd_r {σ : MS} : zLd σ σ := ⟨⟨rfl, rfl, rfl, rfl, rfl⟩, fun _ _ => ⟨rfl, rfl, rfl⟩, fun _ _ => ⟨rfl, rfl, rfl⟩, fun _ _ => ⟨rfl, rfl⟩, fun _ _ => rfl⟩
theorem zLd_t {σ τ υ : MS} (h : zLd σ τ) (k : zLd τ υ) : zLd σ υ := by
  obtain ⟨⟨a0, a4, a8, a12, a13⟩, ar, aw, as, am⟩ := h
  obtain ⟨⟨b0, b4, b8, b12, b13⟩, br, bw, bs, bm⟩ := k
  refine ⟨⟨a0.trans b0, a4.trans b4, a8.trans b8, a12.trans b12, a13.trans b13⟩, fun r hr => ?_, fun w hw => ?_, fun s hs => ?_, fun q hq => (am q hq).trans (bm q hq)⟩
  · have x := ar r (by omega); have y := br r hr
    exact ⟨x.1.trans y.1, x.2.1.trans y.2.1, x.2.2.trans y.2.2⟩
  · have x := aw w (by omega); have y := bw w hw
    exact ⟨x.1.trans y.1, x.2.1.trans y.2.1, x.2.2.trans y.2.2⟩
  · have x := as s (by omega); have y := bs s hs
    exact ⟨x.1.trans y.1, x.2.trans y.2⟩
theorem zLd_s {σ τ : MS} (h : zLd σ τ) : zLd τ σ := by
  obtain ⟨⟨a0, a4, a8, a12, a13⟩, ar, aw, as, am⟩ := h
  refine ⟨⟨a0.symm, a4.symm, a8.symm, a12.symm, a13.symm⟩, fun r hr => ?_, fun w hw => ?_, fun s hs => ?_, fun q hq => (am q hq).symm⟩
  · have x := ar r (by omega)
    exact ⟨x.1.symm, x.2.1.symm, x.2.2.symm⟩
  · have x := aw w (by omega)
    exact ⟨x.1.symm, x.2.1.symm, x.2.2.symm⟩
  · have x := as s (by omega)
    exact ⟨x.1.symm, x.2.symm⟩
/-- what ways hang on -/
def zLw (σ τ : MS) : Prop := (σ.1 0 = τ.1 0 ∧ σ.1 4 = τ.1 4) ∧ (∀ r, r < τ.1 0 → σ.2 1 r = τ.2 1 r ∧ σ.2 2 r = τ.2 2 r ∧ σ.2 3 r = τ.2 3 r) ∧ (∀ w, w < τ.1 4 → σ.2 5 w = τ.2 5 w ∧ σ.2 6 w = τ.2 6 w ∧ σ.2 7 w = τ.2 7 w)
theorem zLd_w {σ τ : MS} (h : zLd σ τ) : zLw σ τ := ⟨⟨h.1.1, h.1.2.1⟩, h.2.1, h.2.2.1⟩
abbrev zrow8 (w : Nat) (g g' : Nat → Nat) : Prop := ∀ c, c < 8 → g (8 * w + c) = g' (8 * w + c)
theorem zrel_cong {w : Nat} {g g' : Nat → Nat} (h : zrow8 w g g') {f t b : Nat} (hf : f < 8) (ht : t < 8) : zrow8 w (zrel g (8 * w + f) (8 * w + t) b) (zrel g' (8 * w + f) (8 * w + t) b) := by
  intro c hc
  show (if 8 * w + c = 8 * w + f then (if g (8 * w + t) < 99999 ∧ g (8 * w + t) + b < g (8 * w + f) then g (8 * w + t) + b else g (8 * w + f)) else g (8 * w + c)) = if 8 * w + c = 8 * w + f then (if g' (8 * w + t) < 99999 ∧ g' (8 * w + t) + b < g' (8 * w + f) then g' (8 * w + t) + b else g' (8 * w + f)) else g' (8 * w + c)
  rw [h t ht, h f hf, h c hc]
theorem zrs_cong {σ τ : MS} (hL : zLw σ τ) (hok : mOk τ) {w : Nat} (hw : w < τ.1 4) {g g' : Nat → Nat} (h : zrow8 w g g') : ∀ r, r ≤ τ.1 0 → zrow8 w (zrs σ w g r) (zrs τ w g' r)
  | 0, _ => h
  | r + 1, hr => by
    have ih := zrs_cong hL hok hw h r (by omega)
    obtain ⟨e1, e2, e3⟩ := hL.2.1 r (by omega)
    have hb := hok.2.2.2.1 r (by omega)
    have e7 := (hL.2.2 w hw).2.2
    rw [zrs, zrs, e1, e2, e3]
    by_cases q : zshut τ w r
    · rw [if_pos q, if_pos (show zshut σ w r by unfold zshut; rw [e7]; exact q)]
      exact ih
    · rw [if_neg q, if_neg (show ¬ zshut σ w r by unfold zshut; rw [e7]; exact q)]
      exact zrel_cong (zrel_cong ih hb.1 hb.2.1) hb.2.1 hb.1
theorem zts_cong {σ τ : MS} (hL : zLw σ τ) (hok : mOk τ) {w : Nat} (hw : w < τ.1 4) {g g' : Nat → Nat} (h : zrow8 w g g') : ∀ n, zrow8 w (zts σ w g n) (zts τ w g' n)
  | 0 => h
  | n + 1 => by
    rw [zts, zts, hL.1.1]
    exact zrs_cong hL hok hw (zts_cong hL hok hw h n) _ (Nat.le_refl _)
theorem zws_cong {σ τ : MS} (hL : zLw σ τ) (hs : mOk σ) (hok : mOk τ) {g g' : Nat → Nat} : ∀ n, n ≤ τ.1 4 → ∀ w, w < n → zrow8 w (zws σ g n) (zws τ g' n)
  | 0, _, w, hw => absurd hw (Nat.not_lt_zero w)
  | n + 1, hn, w, hw => by
    rw [zws, zws, (hL.2.2 n (by omega)).2.1]
    by_cases e : w = n
    · subst e
      refine zts_cong hL hok (by omega) (fun c hc => ?_) 8
      have q : 8 * w ≤ 8 * w + c ∧ 8 * w + c < 8 * w + 8 := by omega
      unfold zinit
      rw [if_pos q, if_pos q]
    · intro c hc
      rw [zts_row hs (show 8 * w + c < 8 * n ∨ 8 * n + 8 ≤ 8 * w + c by omega), zts_row hok (show 8 * w + c < 8 * n ∨ 8 * n + 8 ≤ 8 * w + c by omega)]
      unfold zinit
      rw [if_neg (by omega), if_neg (by omega)]
      exact zws_cong hL hs hok n (by omega) w (by omega) c hc
/-- a land whose ways are worked out -/
def zWd (τ : MS) : Prop := ∀ w c, w < τ.1 4 → c < 8 → τ.2 27 (8 * w + c) = zws τ (τ.2 27) (τ.1 4) (8 * w + c)
theorem zWd_work {τ : MS} (hok : mOk τ) (hW : zWok (τ.2 27)) : zWd (zwork τ) := fun w c hw hc => by
  have e := zwork_27 hok hW
  have hw : w < τ.1 4 := hw
  rw [e]
  exact (zws_cong (σ := zwork τ) (τ := τ) (zLd_w zLd_r) hok hok (g := zws τ (τ.2 27) (τ.1 4)) (g' := τ.2 27) (τ.1 4) (Nat.le_refl _) w hw c hc).symm
theorem zAg_of {σ τ : MS} (hL : zLd σ τ) (h28 : σ.1 28 = τ.1 28) (hs : mOk σ) (hok : mOk τ) (hw : zWd τ) : zAg (zf σ) τ := by
  obtain ⟨⟨a0, a4, a8, a12, a13⟩, ar, aw, as, am⟩ := id hL
  refine ⟨⟨a0, a4, a8, a12, a13, h28⟩, ar, aw, as, am, fun w c hw9 hc => ?_⟩
  show zws σ (σ.2 27) (σ.1 4) (8 * w + c) = _
  rw [a4, hw w c hw9 hc]
  exact zws_cong (zLd_w hL) hs hok _ (Nat.le_refl _) w hw9 c hc
/-- whatever leaves a land's ways and counts leaves them worked out -/
theorem zWd_like {τ υ : MS} (hL : zLw τ υ) (h27 : τ.2 27 = υ.2 27) (hok : mOk τ) (ho : mOk υ) (h : zWd υ) : zWd τ := fun w c hw hc => by
  have e4 := hL.1.2
  rw [h27, h w c (by omega) hc, e4]
  exact (zws_cong hL hok ho _ (Nat.le_refl _) w (by omega) c hc).symm
/-- what an image may be taken of -/
def zmvO (σ : MS) : Prop := (∀ j, zpF j < 133 → σ.1 j < 2147483648) ∧ zbd σ
theorem zmvO_F {σ : MS} {k v : Nat} (hk : 14 ≤ k) (h : zmvO σ) : zmvO (sF σ k v) := ⟨fun j hj => by
  have := zpF_lt hj
  show (if j = k then v else σ.1 j) < 2147483648
  rw [if_neg (by omega)]
  exact h.1 j hj, h.2⟩
theorem zmvO_40 {σ : MS} {v : Nat} (hv : v < 2) (h : zmvO σ) : zmvOk (sF σ 40 v) := ⟨by show (if 40 = 40 then v else σ.1 40) < 2; rw [if_pos rfl]; exact hv, (zmvO_F (by decide) h).1, h.2⟩
theorem zmvO_of {σ : MS} (h : lOk σ) (hb : zbd σ) : zmvO σ := ⟨fun j hj => by
  obtain ⟨⟨k0, k4, k8, _, _, _, _, _, k12, k13⟩, _⟩ := h
  unfold zpF at hj
  by_cases e0 : j = 0
  · subst e0; omega
  by_cases e4 : j = 4
  · subst e4; omega
  by_cases e8 : j = 8
  · subst e8; omega
  by_cases e12 : j = 12
  · subst e12; omega
  by_cases e13 : j = 13
  · subst e13; omega
  rw [if_neg e0, if_neg e4, if_neg e8, if_neg e12, if_neg e13] at hj
  omega, hb⟩
