/-! THE RELATION ALONG THE CALLS: image, restore -/
theorem zRA_eq {σ u : MS} (hu : ∀ j, (j < 15 ∨ j = 28 ∨ (40 < j ∧ j < 47)) → u.1 j = σ.1 j ∧ u.2 j = σ.2 j) (hW : zWok (u.2 27)) (h : zRA σ) : zRA u := by
  obtain ⟨a1, a2, a3, a4, a5⟩ := h
  refine ⟨lOk_eq (fun j q => (hu j (by omega)).1) (fun j q => (hu j (by omega)).2) a1, ?_, zbd_eq (fun j q => (hu j (by omega)).2) a3, ?_, ?_⟩
  · obtain ⟨m1, m2, m3, m4, m5, m6, m7⟩ := a2
    unfold mSh
    rw [(hu 41 (by decide)).2, (hu 42 (by decide)).2, (hu 43 (by decide)).2, (hu 44 (by decide)).2, (hu 45 (by decide)).2, (hu 28 (by decide)).1, (hu 4 (by decide)).1, (hu 5 (by decide)).2, (hu 14 (by decide)).2]
    exact ⟨m1, m2, m3, m4, hW, m6, m7⟩
  · unfold zint
    rw [(hu 41 (by decide)).2, (hu 45 (by decide)).2, (hu 46 (by decide)).2]
    exact a4
  · unfold zbyt
    rw [(hu 41 (by decide)).2, (hu 44 (by decide)).2, (hu 45 (by decide)).2, (hu 46 (by decide)).2]
    exact a5
theorem zpA_hi {j : Nat} (h : 14 < j) (a : Nat) : zpA j a = 133 := by
  unfold zpA
  rw [if_neg (by omega), if_neg (by omega), if_neg (by omega), if_neg (by omega), if_neg (by omega)]
theorem zpF_hi {j : Nat} (h : 13 < j) : zpF j = 133 := by
  unfold zpF
  rw [if_neg (by omega), if_neg (by omega), if_neg (by omega), if_neg (by omega), if_neg (by omega)]
theorem zimg_1 {σ : MS} {j : Nat} (h : j ≠ 39) : (zimgT σ).1 j = (sF (sF σ 37 1) 40 1).1 j := by
  show (if j = 39 then 133 else if (1 : Nat) = 0 ∧ zpF j < 133 then _ else _) = _
  rw [if_neg h, if_neg (fun q => absurd q.1 (by decide))]
theorem zmv_2 {s : MS} {n j a : Nat} : (zmv s n).2 j a = if s.1 40 = 0 then (if zpA j a < n then s.2 38 (zpA j a) else s.2 j a) else if j = 38 ∧ a < n then zvat s a else s.2 j a := rfl
theorem zimg_2 {σ : MS} {j : Nat} (h : j ≠ 38) : (zimgT σ).2 j = σ.2 j := by
  funext a
  show (zmv (sF (sF σ 37 1) 40 1) 133).2 j a = _
  rw [zmv_2, if_neg (show ¬ (sF (sF σ 37 1) 40 1).1 40 = 0 from (by decide : ¬ (1 : Nat) = 0)), if_neg (fun q => h q.1)]
  rfl
theorem zimg_38 {σ : MS} {a : Nat} (h : a < 133) : (zimgT σ).2 38 a = zvat (sF (sF σ 37 1) 40 1) a := by
  show (zmv (sF (sF σ 37 1) 40 1) 133).2 38 a = _
  rw [zmv_2, if_neg (show ¬ (sF (sF σ 37 1) 40 1).1 40 = 0 from (by decide : ¬ (1 : Nat) = 0)), if_pos ⟨rfl, h⟩]
theorem zimg_A {σ : MS} {j a : Nat} (h : zpA j a < 133) : (zIm ((zimgT σ).2 38)).2 j a = σ.2 j a := by
  obtain ⟨h5, hJ, hI⟩ := zpA_inv rfl h
  show (zimgT σ).2 38 (zpA j a) = _
  rw [zimg_38 h]
  unfold zvat
  rw [if_neg (by omega), hJ, hI]
  rfl
theorem zimg_F {σ : MS} : ∀ j, zla j → (zIm ((zimgT σ).2 38)).1 j = σ.1 j := by
  intro j hj
  rcases hj with rfl | rfl | rfl | rfl | rfl <;> rfl
theorem zpA_r {j r : Nat} (hj : j = 1 ∨ j = 2 ∨ j = 3) (hr : r < 16) : zpA j r < 133 := by
  unfold zpA
  rw [if_pos ⟨hj, hr⟩]
  omega
theorem zpA_w {j r : Nat} (hj : j = 5 ∨ j = 6 ∨ j = 7) (hr : r < 5) : zpA j r < 133 := by
  unfold zpA
  rw [if_neg (by omega), if_pos ⟨hj, hr⟩]
  omega
theorem zpA_t {r : Nat} (hr : r < 5) : zpA 14 r < 133 := by
  unfold zpA
  rw [if_neg (by omega), if_neg (by omega), if_pos ⟨rfl, hr⟩]
  omega
theorem zpA_s {j r : Nat} (hj : j = 9 ∨ j = 10) (hr : r < 6) : zpA j r < 133 := by
  unfold zpA
  rw [if_neg (by omega), if_neg (by omega), if_neg (by omega), if_pos ⟨hj, hr⟩]
  omega
theorem zpA_m {r : Nat} (hr : r < 48) : zpA 11 r < 133 := by
  unfold zpA
  rw [if_neg (by omega), if_neg (by omega), if_neg (by omega), if_neg (by omega), if_pos ⟨rfl, hr⟩]
  omega
/-- a land that agrees at every number of the image -/
theorem zLd_im {u v : MS} (hk : mOk v) (h1 : ∀ j, zla j → u.1 j = v.1 j) (h2 : ∀ j a, zpA j a < 133 → u.2 j a = v.2 j a) : zLd u v := by
  have k0 := hk.1
  have k4 := hk.2.1
  have k8 := hk.2.2.1
  refine ⟨⟨h1 0 (by decide), h1 4 (by decide), h1 8 (by decide), h1 12 (by decide), h1 13 (by decide)⟩, fun r hr => ?_, fun x hx => ?_, fun s hs => ?_, fun k hk9 => h2 11 k (zpA_m hk9)⟩
  · exact ⟨h2 1 r (zpA_r (by decide) (by omega)), h2 2 r (zpA_r (by decide) (by omega)), h2 3 r (zpA_r (by decide) (by omega))⟩
  · exact ⟨h2 5 x (zpA_w (by decide) (by omega)), h2 6 x (zpA_w (by decide) (by omega)), h2 7 x (zpA_w (by decide) (by omega))⟩
  · exact ⟨h2 9 s (zpA_s (by decide) (by omega)), h2 10 s (zpA_s (by decide) (by omega))⟩
theorem zRel_image {σ τ τi : MS} {F F5 : Nat → Nat} {hi : Nat} (h : zRel σ τ τi F F5 hi) : zRel (zimgT σ) τ (zlike τi τ) F F 1 := by
  obtain ⟨a, ⟨b1, b2, b3, b4, b5, b6, b7⟩, _⟩ := h
  have e1 : ∀ j, j ≠ 37 → j ≠ 39 → j ≠ 40 → (zimgT σ).1 j = σ.1 j := fun j x y z => by
    rw [zimg_1 y]
    show (if j = 40 then 1 else if j = 37 then 1 else σ.1 j) = _
    rw [if_neg z, if_neg x]
  have hL : zLd (zIm ((zimgT σ).2 38)) σ := zLd_im a.1.1 zimg_F (fun j x q => zimg_A q)
  have h5 := b2.1.2.1
  refine ⟨zRA_eq (fun j hj => ⟨e1 j (by omega) (by omega) (by omega), zimg_2 (by omega)⟩) (by rw [zimg_2 (by decide)]; exact a.2.1.2.2.2.2.1) a, ⟨zLd_t (zLd_eq (fun j q => e1 j (by omega) (by omega) (by omega)) (fun j q => zimg_2 (by omega))) b1, b2, b3, b4, b5, b6, by rw [zimg_2 (by decide)]; exact b7⟩, lOk_like b2, by decide, ?_, fun _ => ⟨zLd_t hL (zLd_t b1 zLd_r), ⟨fun j i hj hz => ?_, fun w hw => ?_, fun w hw => ?_⟩, ⟨b7.1, fun w hw => ?_⟩, fun q => ?_⟩⟩
  · rw [zimg_1 (by decide)]; rfl
  · rw [zimg_A hz]; exact a.2.2.1 j i hj hz
  · rw [zimg_A (zpA_w (by decide) hw)]; exact a.1.2.2.2.1 w hw
  · rw [zimg_A (zpA_w (by decide) hw)]; exact a.1.2.2.2.2 w hw
  · have hw : w < τ.1 4 := hw
    rw [zimg_A (zpA_t (by omega))]; exact b7.2 w hw
  · show 0 < zsum ((zIm ((zimgT σ).2 38)).2 14) (τ.1 4)
    have q : zsum (τ.2 5) (τ.1 4) = 100 := q
    rw [zsum_cong (g := σ.2 14) (τ.1 4) (fun w hw => zimg_A (zpA_t (by omega))), ← b1.1.2.1]
    refine a.2.1.2.2.2.2.2.2 ?_
    rw [b1.1.2.1, ← q]
    exact zsum_cong _ (fun w hw => (b1.2.2.1 w hw).1)
/-- a land become another, and worked out -/
theorem zRT_work {u τ υ : MS} (hL : zLd u υ) (ho : lOk υ) (hT : tOk τ) (hW : zWok (τ.2 27)) (h28 : τ.1 28 = 4294967295) : zLd u (zwork (zlike τ υ)) ∧ lOk (zwork (zlike τ υ)) ∧ tOk (zwork (zlike τ υ)) ∧ zWd (zwork (zlike τ υ)) ∧ zWok ((zwork (zlike τ υ)).2 27) ∧ (zwork (zlike τ υ)).1 28 = 4294967295 := by
  have ol : lOk (zlike τ υ) := lOk_like ho
  refine ⟨hL, ol, zwork_tOk ol.1 hT.2.2.1 ol.2.2.2.1 ol.2.2.2.2, zWd_work ol.1 hW, ?_, h28⟩
  rw [zwork_27 ol.1 hW]
  exact zWok_ws hW _
theorem zres_1 {σ : MS} {j : Nat} (h : zpF j < 133) (h9 : j ≠ 39) : (zmv (sF σ 40 0) 133).1 j = σ.2 38 (zpF j) := by
  show (if j = 39 then 133 else if (0 : Nat) = 0 ∧ zpF j < 133 then σ.2 38 (zpF j) else _) = _
  rw [if_neg h9, if_pos ⟨rfl, h⟩]
theorem zres_1n {σ : MS} {j : Nat} (h : 13 < j) (h9 : j ≠ 39) (h40 : j ≠ 40) : (zmv (sF σ 40 0) 133).1 j = σ.1 j := by
  show (if j = 39 then 133 else if (0 : Nat) = 0 ∧ zpF j < 133 then σ.2 38 (zpF j) else if j = 40 then 0 else σ.1 j) = _
  rw [if_neg h9, if_neg (fun q => by have := q.2; rw [zpF_hi h] at this; omega), if_neg h40]
theorem zres_2 {σ : MS} {j a : Nat} (h : zpA j a < 133) : (zmv (sF σ 40 0) 133).2 j a = (zIm (σ.2 38)).2 j a := by
  rw [zmv_2, if_pos (show (sF σ 40 0).1 40 = 0 from rfl), if_pos h]
  rfl
theorem zres_2n {σ : MS} {j : Nat} (h : 14 < j) : (zmv (sF σ 40 0) 133).2 j = σ.2 j := by
  funext a
  rw [zmv_2, if_pos (show (sF σ 40 0).1 40 = 0 from rfl), if_neg (by rw [zpA_hi h]; omega)]
  rfl
theorem zRel_restore {σ τ τi : MS} {F F5 : Nat → Nat} {hi : Nat} (h : zRel σ τ τi F F5 hi) : zRel (zresT σ) (if hi = 0 then τ else zwork (zlike τ τi)) τi (if hi = 0 then F else F5) F5 hi ∧ zresS σ = if hi = 0 then -3 else nI (τi.1 4) := by
  have h0 := h
  obtain ⟨⟨a1, a2, a3, a4, a5⟩, ⟨b1, b2, b3, b4, b5, b6, b7⟩, ⟨d1, d2, d3, d4⟩⟩ := h
  unfold zresT zresS
  rw [d3]
  by_cases e : hi = 0
  · rw [if_pos e, if_pos e, if_pos e, if_pos e, if_pos e]
    exact ⟨h0, rfl⟩
  · rw [if_neg e, if_neg e, if_neg e, if_neg e, if_neg e]
    obtain ⟨g1, ⟨g2, g7, g6⟩, g3, g4⟩ := d4 (by omega)
    have hL1 : ∀ j, zla j → (zmv (sF σ 40 0) 133).1 j = (zIm (σ.2 38)).1 j := fun j q => zres_1 (by unfold zpF; rcases q with rfl | rfl | rfl | rfl | rfl <;> decide) (by omega)
    have k0 : (zIm (σ.2 38)).1 0 = τi.1 0 := g1.1.1
    have k4 : (zIm (σ.2 38)).1 4 = τi.1 4 := g1.1.2.1
    have k8 : (zIm (σ.2 38)).1 8 = τi.1 8 := g1.1.2.2.1
    have h5 := d1.1.2.1
    have t7 : ∀ w, w < 5 → (zmv (sF σ 40 0) 133).2 7 w < 65536 := fun w hw => by rw [zres_2 (zpA_w (by decide) hw)]; exact g7 w hw
    have t6 : ∀ w, w < 5 → (zmv (sF σ 40 0) 133).2 6 w < 8 := fun w hw => by rw [zres_2 (zpA_w (by decide) hw)]; exact g6 w hw
    have oi : lOk (zIm (σ.2 38)) := lOk_Ld d1 g1 g7 g6
    have hL : zLd (zmv (sF σ 40 0) 133) τi := zLd_t (zLd_im oi.1 hL1 (fun j a q => zres_2 q)) g1
    have e14 : ∀ w, w < 5 → (zmv (sF σ 40 0) 133).2 14 w = (zIm (σ.2 38)).2 14 w := fun w hw => zres_2 (zpA_t hw)
    have hF : zTh (τi.1 4) F5 ((zmv (sF σ 40 0) 133).2 14) := ⟨g3.1, fun w hw => by rw [e14 w (by omega)]; exact g3.2 w hw⟩
    have u4 := hL.1.2.1
    obtain ⟨r1, r2, r3, r4, r5, r6⟩ := zRT_work hL d1 b3 b5 b6
    refine ⟨⟨⟨lOk_Ld d1 hL t7 t6, ?_, fun j i hj hz => by rw [zres_2 hz]; exact g2 j i hj hz, ?_, ?_⟩, ⟨r1, r2, r3, r4, r5, r6, hF⟩, d1, d2, by rw [zres_1n (by decide) (by decide) (by decide)]; exact d3, by rw [zres_2n (by decide)]; exact d4⟩, congrArg nI k4⟩
    · obtain ⟨m1, m2, m3, m4, m5, m6, m7⟩ := a2
      unfold mSh
      rw [zres_2n (j := 41) (by decide), zres_2n (j := 42) (by decide), zres_2n (j := 43) (by decide), zres_2n (j := 44) (by decide), zres_2n (j := 45) (by decide), zres_2n (j := 27) (by decide), zres_1n (j := 28) (by decide) (by decide) (by decide)]
      refine ⟨m1, m2, m3, fun w hw => ?_, m5, m6, fun q => ?_⟩
      · rw [u4] at hw
        rw [← hF.2 w hw]
        exact hF.1.1 w (by omega)
      · rw [u4, zsum_cong (g := (zIm (σ.2 38)).2 14) (τi.1 4) (fun w hw => e14 w (by omega))]
        refine g4 ?_
        rw [u4] at q
        rw [← q]
        exact zsum_cong _ (fun w hw => (hL.2.2.1 w hw).1.symm)
    · unfold zint
      rw [zres_2n (j := 41) (by decide), zres_2n (j := 45) (by decide), zres_2n (j := 46) (by decide)]
      exact a4
    · unfold zbyt
      rw [zres_2n (j := 41) (by decide), zres_2n (j := 44) (by decide), zres_2n (j := 45) (by decide), zres_2n (j := 46) (by decide)]
      exact a5
