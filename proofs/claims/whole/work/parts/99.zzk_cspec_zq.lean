/-! THE TWO SIDES STAND ALIKE -/
theorem zgall_dvd {f : Nat → Nat} : ∀ {n w : Nat}, w < n → zgall f n ∣ f w
  | 0, w, h => absurd h (Nat.not_lt_zero w)
  | n + 1, w, h => by
    show Nat.gcd (f n) (zgall f n) ∣ f w
    by_cases e : w = n
    · subst e; exact Nat.gcd_dvd_left _ _
    · exact Nat.dvd_trans (Nat.gcd_dvd_right _ _) (zgall_dvd (by omega))
theorem zhalves_pos {n : Nat} : ∀ (k : Nat) {g : Nat → Nat} {w : Nat}, w < n → 0 < g w → 0 < zhalves n k g w
  | 0, _, _, _, h => h
  | k + 1, g, w, hw, h => by
    unfold zhalves
    split
    · refine zhalves_pos k hw ?_
      rw [zcp_in hw]
      unfold zhf
      split
      · exact Nat.one_pos
      · omega
    · exact h
theorem zsum_posw {f : Nat → Nat} : ∀ {n w : Nat}, w < n → 0 < f w → 0 < zsum f n
  | 0, w, h, _ => absurd h (Nat.not_lt_zero w)
  | n + 1, w, h, hp => by
    rw [zsum]
    by_cases e : w = n
    · subst e; omega
    · have := zsum_posw (f := f) (n := n) (w := w) (by omega) hp
      omega
theorem zset_pos {n : Nat} {g : Nat → Nat} (h : ¬ zgall g n = 0) : 0 < zsum (zset n g) n := by
  by_cases q : ∃ w, w < n ∧ 0 < g w
  · obtain ⟨w, hw, hp⟩ := q
    refine zsum_posw hw (zhalves_pos 64 hw ?_)
    rw [zcp_in hw]
    exact Nat.div_pos (Nat.le_of_dvd hp (zgall_dvd hw)) (Nat.pos_of_ne_zero h)
  · exact absurd (zgall_of_zero (fun w hw => by
      rcases Nat.eq_zero_or_pos (g w) with e | e
      · exact e
      · exact absurd ⟨w, hw, e⟩ q)) h
/-- the image out of its numbers -/
def zIm (g : Nat → Nat) : MS := (fun j => g (zpF j), fun j a => g (zpA j a))
def zRA (σ : MS) : Prop := lOk σ ∧ mSh σ ∧ zbd σ ∧ zint σ ∧ zbyt σ
def zRT (σ τ : MS) (F : Nat → Nat) : Prop := zLd σ τ ∧ lOk τ ∧ tOk τ ∧ zWd τ ∧ zWok (τ.2 27) ∧ τ.1 28 = 4294967295 ∧ zTh (τ.1 4) F (σ.2 14)
def zRI (σ τi : MS) (F5 : Nat → Nat) (hi : Nat) : Prop := lOk τi ∧ hi < 2 ∧ σ.1 37 = hi ∧ (hi = 1 → zLd (zIm (σ.2 38)) τi ∧ (zbd (zIm (σ.2 38)) ∧ (∀ w, w < 5 → (zIm (σ.2 38)).2 7 w < 65536) ∧ ∀ w, w < 5 → (zIm (σ.2 38)).2 6 w < 8) ∧ zTh (τi.1 4) F5 ((zIm (σ.2 38)).2 14) ∧ (zsum (τi.2 5) (τi.1 4) = 100 → 0 < zsum ((zIm (σ.2 38)).2 14) (τi.1 4)))
def zRel (σ τ τi : MS) (F F5 : Nat → Nat) (hi : Nat) : Prop := zRA σ ∧ zRT σ τ F ∧ zRI σ τi F5 hi
theorem lOk_Ld {σ u : MS} (h : lOk σ) (k : zLd u σ) (h7 : ∀ w, w < 5 → u.2 7 w < 65536) (h6 : ∀ w, w < 5 → u.2 6 w < 8) : lOk u := by
  obtain ⟨⟨k0, k4, k8, kr, kw, ks, kmet, kmt, k12, k13⟩, hs, hz, _, _⟩ := h
  obtain ⟨⟨e0, e4, e8, e12, e13⟩, er, ex, es, em⟩ := k
  refine ⟨⟨by omega, by omega, by omega, fun r hr => ?_, fun w hw => ?_, fun s hs9 => ?_, fun q hq => by rw [em q hq]; exact kmet q hq, fun c hc => ?_, by omega, by omega⟩, ?_, ?_, h7, h6⟩
  · have q := er r (by omega)
    rw [q.1, q.2.1, q.2.2]
    exact kr r (by omega)
  · have q := ex w (by omega)
    rw [q.1, q.2.1, q.2.2]
    exact kw w (by omega)
  · have q := es s (by omega)
    rw [q.1, q.2]
    exact ks s (by omega)
  · rw [zsum_cong (g := fun s => σ.2 11 (6 * c + s)) 6 (fun x hx => em (6 * c + x) (by omega))]
    exact kmt c hc
  · rw [e4, zsum_cong (g := σ.2 5) (σ.1 4) (fun x hx => (ex x hx).1)]
    exact hs
  · intro c s hc h8 hs6
    rw [em _ (by omega)]
    exact hz c s hc (by omega) hs6
theorem zLd_eq {σ u : MS} (h1 : ∀ j, zla j → u.1 j = σ.1 j) (h2 : ∀ j, zlb j → u.2 j = σ.2 j) : zLd u σ := by
  refine ⟨⟨h1 0 (by decide), h1 4 (by decide), h1 8 (by decide), h1 12 (by decide), h1 13 (by decide)⟩, fun r _ => ?_, fun x _ => ?_, fun s _ => ?_, fun k _ => congrFun (h2 11 (by decide)) k⟩
  · exact ⟨congrFun (h2 1 (by decide)) r, congrFun (h2 2 (by decide)) r, congrFun (h2 3 (by decide)) r⟩
  · exact ⟨congrFun (h2 5 (by decide)) x, congrFun (h2 6 (by decide)) x, congrFun (h2 7 (by decide)) x⟩
  · exact ⟨congrFun (h2 9 (by decide)) s, congrFun (h2 10 (by decide)) s⟩
theorem lOk_eq {σ u : MS} (h1 : ∀ j, zla j → u.1 j = σ.1 j) (h2 : ∀ j, zlb j → u.2 j = σ.2 j) (h : lOk σ) : lOk u := lOk_Ld h (zLd_eq h1 h2) (by rw [h2 7 (by decide)]; exact h.2.2.2.1) (by rw [h2 6 (by decide)]; exact h.2.2.2.2)
theorem zbd_eq {σ u : MS} (h : ∀ j, j < 14 → u.2 j = σ.2 j) (q : zbd σ) : zbd u := fun j i hj hz => by
  have hj2 : j < 14 := by
    unfold zpA at hz
    (repeat' split at hz) <;> omega
  rw [h j hj2]
  exact q j i hj hz
/-- what stays outside of what a call may scratch -/
def zSt (σ u : MS) : Prop := (∀ j, ¬ mScr j → j ≠ 15 → u.1 j = σ.1 j ∧ u.2 j = σ.2 j) ∧ zWok (u.2 27)
def zSt4 (σ u : MS) : Prop := (∀ j, ¬ mScr j → j ≠ 15 → j ≠ 14 → u.1 j = σ.1 j ∧ u.2 j = σ.2 j) ∧ zWok (u.2 27)
theorem nScr (j : Nat) (h : j < 16 ∨ j = 28 ∨ j = 37 ∨ j = 38 ∨ (40 < j ∧ j < 47)) : ¬ mScr j := fun q => by unfold mScr at q; omega
theorem zRel_14 {σ u τ τi : MS} {F F' F5 : Nat → Nat} {hi : Nat} (h : zRel σ τ τi F F5 hi) (hu : zSt4 σ u) (hF : zTh (τ.1 4) F' (u.2 14)) (hp : zsum (σ.2 5) (σ.1 4) = 100 → 0 < zsum (u.2 14) (σ.1 4)) : zRel u τ τi F' F5 hi := by
  obtain ⟨⟨a1, a2, a3, a4, a5⟩, ⟨b1, b2, b3, b4, b5, b6, b7⟩, ⟨d1, d2, d3, d4⟩⟩ := h
  have e1 := fun j (q : j < 16 ∨ j = 28 ∨ j = 37 ∨ j = 38 ∨ (40 < j ∧ j < 47)) (q2 : j ≠ 15) (q3 : j ≠ 14) => (hu.1 j (nScr j q) q2 q3).1
  have e2 := fun j (q : j < 16 ∨ j = 28 ∨ j = 37 ∨ j = 38 ∨ (40 < j ∧ j < 47)) (q2 : j ≠ 15) (q3 : j ≠ 14) => (hu.1 j (nScr j q) q2 q3).2
  have hLu : zLd u σ := zLd_eq (fun j q => e1 j (by omega) (by omega) (by omega)) (fun j q => e2 j (by omega) (by omega) (by omega))
  have e4 := b1.1.2.1
  refine ⟨⟨lOk_eq (fun j q => e1 j (by omega) (by omega) (by omega)) (fun j q => e2 j (by omega) (by omega) (by omega)) a1, ?_, zbd_eq (fun j q => e2 j (by omega) (by omega) (by omega)) a3, ?_, ?_⟩, ⟨zLd_t hLu b1, b2, b3, b4, b5, b6, hF⟩, ⟨d1, d2, by rw [e1 37 (by decide) (by decide) (by decide)]; exact d3, by rw [e2 38 (by decide) (by decide) (by decide)]; exact d4⟩⟩
  · obtain ⟨m1, m2, m3, m4, m5, m6, m7⟩ := a2
    unfold mSh
    rw [e2 41 (by decide) (by decide) (by decide), e2 42 (by decide) (by decide) (by decide), e2 43 (by decide) (by decide) (by decide), e2 44 (by decide) (by decide) (by decide), e2 45 (by decide) (by decide) (by decide), e1 28 (by decide) (by decide) (by decide), e1 4 (by decide) (by decide) (by decide), e2 5 (by decide) (by decide) (by decide)]
    refine ⟨m1, m2, m3, fun w hw => ?_, hu.2, m6, hp⟩
    rw [e4] at hw
    rw [← hF.2 w hw]
    exact hF.1.1 w (by have := b2.1.2.1; omega)
  · unfold zint
    rw [e2 41 (by decide) (by decide) (by decide), e2 45 (by decide) (by decide) (by decide), e2 46 (by decide) (by decide) (by decide)]
    exact a4
  · unfold zbyt
    rw [e2 41 (by decide) (by decide) (by decide), e2 44 (by decide) (by decide) (by decide), e2 45 (by decide) (by decide) (by decide), e2 46 (by decide) (by decide) (by decide)]
    exact a5
theorem zRel_St {σ u τ τi : MS} {F F5 : Nat → Nat} {hi : Nat} (h : zRel σ τ τi F F5 hi) (hu : zSt σ u) : zRel u τ τi F F5 hi := by
  have e14 : u.2 14 = σ.2 14 := (hu.1 14 (nScr 14 (by decide)) (by decide)).2
  refine zRel_14 h ⟨fun j a b _ => hu.1 j a b, hu.2⟩ (by rw [e14]; exact h.2.1.2.2.2.2.2.2) (fun q => ?_)
  rw [e14]
  exact h.1.2.1.2.2.2.2.2.2 q
theorem zSt_mEq {σ0 σ u : MS} (h15 : σ = sF σ0 15 0) (h : mEq σ u) : zSt σ0 u := ⟨fun j a b => by
  have q := h.1 j a
  rw [h15] at q
  exact ⟨q.1.trans (if_neg b), q.2⟩, h.2⟩
/-- what the relation gives to those that answer -/
theorem zRel_ag {σ τ τi : MS} {F F5 : Nat → Nat} {hi : Nat} (h : zRel σ τ τi F F5 hi) : zAg (zf σ) τ := zAg_of h.2.1.1 (h.1.2.1.2.2.2.2.2.1.trans h.2.1.2.2.2.2.2.1.symm) h.1.1.1 h.2.1.2.1.1 h.2.1.2.2.2.1
