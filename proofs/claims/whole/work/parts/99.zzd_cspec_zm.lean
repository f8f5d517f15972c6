/-! THE STATEMENTS READ, THE STATEMENTS TOLD: the model's loops are the class's words -/
theorem hh_cong {σ v : MS} (h16 : v.1 16 = σ.1 16) (h17 : v.1 17 = σ.1 17) (h46 : v.2 46 = σ.2 46) : hh v = hh σ := by
  unfold hh
  rw [h16, h17, h46]
theorem zen_go {σ v u : MS} {a : Nat} (h : hh v = hh σ) : zen (hh v) a = zen (hh σ) a := by rw [h]
def zri (v0 v : MS) : Prop := (∀ j, j ≠ 18 → j ≠ 19 → j ≠ 20 → v.1 j = v0.1 j) ∧ (∀ j, (j < 21 ∨ 25 < j) → v.2 j = v0.2 j) ∧ v.1 18 ≤ 100 ∧ v.1 19 < 2 ∧ (v.1 19 ≠ 0 → zsf (hh v0) (v0.1 17) 100 0 0 = (-1000) - nI (v.1 18)) ∧ (v.1 19 = 0 → v.1 20 ≤ 34 ∧ 3 * v.1 20 ≤ v.1 18 ∧ zsf (hh v0) (v0.1 17) 100 0 0 = zsf (hh v0) (v0.1 17) (100 - v.1 20) (v.1 20) (v.1 18) ∧ v.1 18 = zpz (hh v0) (v.1 20) ∧ ∀ j, j < v.1 20 → zok (hh v0) (zpz (hh v0) j) ∧ zrf (hh v0) v j (zpz (hh v0) j))
theorem zri_0 {v0 : MS} (h18 : v0.1 18 = 0) (h19 : v0.1 19 = 0) (h20 : v0.1 20 = 0) : zri v0 v0 := by
  refine ⟨fun _ _ _ _ => rfl, fun _ _ => rfl, by omega, by omega, fun q => absurd h19 q, fun _ => ⟨by omega, by omega, ?_, ?_, fun j hj => by omega⟩⟩
  · rw [h20, h18]
  · rw [h18, h20]; rfl
theorem zrf_cong {h : Nat → Int32} {u v : MS} {i a : Nat} (e : ∀ j, 21 ≤ j → j ≤ 25 → u.2 j i = v.2 j i) (q : zrf h v i a) : zrf h u i a := by
  unfold zrf at q ⊢
  rw [e 21 (by decide) (by decide), e 22 (by decide) (by decide), e 23 (by decide) (by decide), e 24 (by decide) (by decide), e 25 (by decide) (by decide)]
  exact q
theorem zri_hh {v0 v : MS} (h : zri v0 v) : hh v = hh v0 := hh_cong (h.1 16 (by decide) (by decide) (by decide)) (h.1 17 (by decide) (by decide) (by decide)) (h.2.1 46 (by decide))
theorem zri_step {v0 v u : MS} (h : zri v0 v) (hb : v.1 19 = 0) (hc : v.1 20 = 0 ∨ v.1 18 < v0.1 17) (hu : zrsP v u) : zri v0 u := by
  have hH := zri_hh h
  obtain ⟨f1, f2, a1, a2, a3, a4⟩ := h
  obtain ⟨b1, b2, b3, b4, b5⟩ := a4 hb
  obtain ⟨c1, c2, c3, c4, c5, c6, c7, c8, c9⟩ := hu
  rw [hH] at c5 c8 c9
  refine ⟨fun j x y z => (c1 j x y z).trans (f1 j x y z), fun j hj => (c2 j hj).trans (f2 j hj), c6, c7, fun q => ?_, fun q => ?_⟩
  · rw [b3, show 100 - v.1 20 = (99 - v.1 20) + 1 by omega, zsf_bad hc (fun w => q (c8.mpr w)), c5]
  · have ok := c8.mp q
    obtain ⟨d1, d2⟩ := c9 ok
    refine ⟨by omega, by omega, ?_, ?_, fun j hj => ?_⟩
    · rw [b3, show 100 - v.1 20 = (100 - u.1 20) + 1 by omega, zsf_go hc ok, c4, c5]
    · rw [c4, c5, b4]; rfl
    · by_cases e : j = v.1 20
      · subst e
        rw [← b4]
        exact ⟨ok, d2⟩
      · obtain ⟨e1, e2⟩ := b5 j (by omega)
        exact ⟨e1, zrf_cong (fun k h1 h2 => c3 k j e) e2⟩
theorem zri_end {v0 v : MS} (h : zri v0 v) (hb : v.1 19 = 0) (hc : ¬ (v.1 20 = 0 ∨ v.1 18 < v0.1 17)) : zsf (hh v0) (v0.1 17) 100 0 0 = nI (v.1 20) ∧ zrdM (hh v0) (v0.1 17) = v.1 20 ∧ (0 : Int32) < nI (v.1 20) := by
  obtain ⟨b1, b2, b3, b4, b5⟩ := h.2.2.2.2.2 hb
  have e : zsf (hh v0) (v0.1 17) 100 0 0 = nI (v.1 20) := by rw [b3, zsf_end hc]
  refine ⟨e, zrdM_is (m := v.1 20) (by rw [Nat.zero_add]; exact e) (by omega), ?_⟩
  rw [show (0 : Int32) = nI 0 from rfl, zn_lt (by decide) (by omega)]
  omega
/-- a statement comes as the class takes it -/
theorem zco_it {h : Nat → Int32} {w : MS} {i a : Nat} (hl : lOk w) (q : zrf h w i a) (t : Nat → Nat) : (zcoA w i ↔ zitP w (h a) (zpt h a t)) ∧ zcoT w i = zitT w (h a) (zpt h a t) := by
  obtain ⟨⟨k0, k4, k8, kr, kw, ks, kmet, kmt, k12, k13⟩, hs, hz, h7, h6⟩ := hl
  obtain ⟨e21, e22, e23, e⟩ := q
  rw [e22]
  rcases e with ⟨ec, e24, e25, et⟩ | ⟨ec, e25, et⟩ | ⟨ec, et⟩
  · obtain ⟨t0, t1, t2⟩ := et t
    rcases ec with ec | ec | ec
    · have hA := zcoA_114 (σ := w) (i := i) ec
      have hP := zit_114 (τ := w) (l := nI (w.2 22 i)) (t := zpt h a t) (by rw [ec])
      have hX : zaR w (zpt h a t 0) (zpt h a t 1) (zpt h a t 2) ↔ zcoA w i := by
        rw [hA, t0, t1, t2]
        unfold zaR
        omega
      refine ⟨hX.symm.trans hP, ?_⟩
      rw [ziT_114 (by rw [ec])]
      unfold zaRT
      by_cases c : zcoA w i
      · rw [zcoT_114 ec c, if_pos (hX.mpr c), t0, t1, t2]
      · rw [zcoT_n c, if_neg (fun x => c (hX.mp x))]
    · have hA := zcoA_119 (σ := w) (i := i) ec
      have hP := zit_119 (τ := w) (l := nI (w.2 22 i)) (t := zpt h a t) (by rw [ec])
      have hX : zaW w (zpt h a t 0) (zpt h a t 1) (zpt h a t 2) ↔ zcoA w i := by
        rw [hA, t0, t1, t2]
        unfold zaW
        omega
      refine ⟨hX.symm.trans hP, ?_⟩
      rw [ziT_119 (by rw [ec])]
      unfold zaWT
      by_cases c : zcoA w i
      · rw [zcoT_119 ec c, if_pos (hX.mpr c), t0, t1, t2]
      · rw [zcoT_n c, if_neg (fun x => c (hX.mp x))]
    · have hA := zcoA_109 (σ := w) (i := i) ec
      have hP := zit_109 (τ := w) (l := nI (w.2 22 i)) (t := zpt h a t) (by rw [ec])
      have hX : zaM w (zpt h a t 0) (zpt h a t 1) (zpt h a t 2) ↔ zcoA w i := by
        rw [hA, t0, t1, t2]
        unfold zaM
        by_cases c7 : w.2 23 i ≤ 7
        · by_cases cs : w.2 24 i < w.1 8
          · have he : zsum (fun s => w.2 11 (6 * w.2 23 i + s)) 6 = zsum (fun s => w.2 11 (6 * w.2 23 i + s)) (w.1 8) := zsum_ext k8 (fun x h1 h2 => hz _ x (by omega) h1 h2)
            have hm := kmt (w.2 23 i) (by omega)
            have hold : w.2 11 (6 * w.2 23 i + w.2 24 i) ≤ zsum (fun s => w.2 11 (6 * w.2 23 i + s)) 6 := by
              have h8 := zsum_put (f := fun s => w.2 11 (6 * w.2 23 i + s)) (b := w.2 24 i) (v := 0) (n := 6) (by omega)
              omega
            have hmx := kmet (6 * w.2 23 i + w.2 24 i) (by omega)
            rw [← he]
            omega
          · omega
        · omega
      refine ⟨hX.symm.trans hP, ?_⟩
      rw [ziT_109 (by rw [ec])]
      unfold zaMT
      by_cases c : zcoA w i
      · rw [zcoT_109 ec c, if_pos (hX.mpr c), t0, t1, t2]
      · rw [zcoT_n c, if_neg (fun x => c (hX.mp x))]
  · obtain ⟨t0, t1⟩ := et t
    have hA := zcoA_115 (σ := w) (i := i) ec
    have hP := zit_115 (τ := w) (l := nI (w.2 22 i)) (t := zpt h a t) (by rw [ec])
    have hX : zaS w (zpt h a t 0) (zpt h a t 1) ↔ zcoA w i := by
      rw [hA, t0, t1]
      unfold zaS
      omega
    refine ⟨hX.symm.trans hP, ?_⟩
    rw [ziT_115 (by rw [ec])]
    unfold zaST
    by_cases c : zcoA w i
    · rw [zcoT_115 ec c, if_pos (hX.mpr c), t0, t1]
    · rw [zcoT_n c, if_neg (fun x => c (hX.mp x))]
  · have t0 := et t
    rcases ec with ec | ec
    · have hA := zcoA_98 (σ := w) (i := i) ec
      have hP := zit_98 (τ := w) (l := nI (w.2 22 i)) (t := zpt h a t) (by rw [ec])
      have hX : zpt h a t 0 < 8 ↔ zcoA w i := by
        rw [hA, t0]
        omega
      refine ⟨hX.symm.trans hP, ?_⟩
      rw [ziT_98 (by rw [ec])]
      unfold zaBT
      by_cases c : zcoA w i
      · rw [zcoT_98 ec c, if_pos (hX.mpr c), t0]
      · rw [zcoT_n c, if_neg (fun x => c (hX.mp x))]
    · have hA := zcoA_97 (σ := w) (i := i) ec
      have hP := zit_97 (τ := w) (l := nI (w.2 22 i)) (t := zpt h a t) (by rw [ec])
      have hX : zpt h a t 0 ≤ 30 ↔ zcoA w i := by
        rw [hA, t0]
      refine ⟨hX.symm.trans hP, ?_⟩
      rw [ziT_97 (by rw [ec])]
      unfold zaAT
      by_cases c : zcoA w i
      · rw [zcoT_97 ec c, if_pos (hX.mpr c), t0]
      · rw [zcoT_n c, if_neg (fun x => c (hX.mp x))]
