/-! LAND, THE MODEL'S: told wholly, or as it was -/
theorem zpz_le (h : Nat → Int32) : ∀ i, zpz h i ≤ 31 * i
  | 0 => Nat.le_refl 0
  | i + 1 => by
    have h1 := zpz_le h i
    have h2 := zen_le h (zpz h i)
    show zen h (zpz h i) ≤ _
    omega
abbrev zW0 (v : MS) : MS := sA v 26 (zcp (v.2 11) (v.2 26) 48)
theorem zsA_j {v : MS} {k j : Nat} {g : Nat → Nat} (h : j ≠ k) : (sA v k g).2 j = v.2 j := if_neg h
theorem zln_te {σ v : MS} {d : Nat} (hd : d < 8) (h41 : σ.2 41 d = 2) (h44 : σ.2 44 d = 0) (h : zri (zv0 σ d) v) {S : Nat} : zte (hh (zv0 σ d)) S 0 (fun _ => 0) (zW0 v) = ((zte (hh (zv0 σ d)) S 0 (fun _ => 0) σ).1, zlike (zW0 v) (zte (hh (zv0 σ d)) S 0 (fun _ => 0) σ).2) := by
  have f := (zri_fr hd h41 h44 h).1
  have e : zlike (zW0 v) σ = zW0 v := by
    refine zlike_self (fun j hj => (f j (fun q => by unfold mScr at q; omega)).1) (fun j hj => ?_)
    rw [zsA_j (by omega)]
    exact (f j (fun q => by unfold mScr at q; omega)).2
  have e2 := zte_like (h := hh (zv0 σ d)) (σ := zW0 v) S 0 (fun _ => 0) σ
  rw [e] at e2
  exact e2
theorem zln_row {σ v : MS} {d : Nat} (h : zri (zv0 σ d) v) (hb : v.1 19 = 0) {j : Nat} (hj : j < v.1 20) : zrf (hh (zv0 σ d)) (zW0 v) j (zpz (hh (zv0 σ d)) j) := zrf_cong (fun k h1 h2 => congrFun (zsA_j (by omega)) j) ((h.2.2.2.2.2 hb).2.2.2.2 j hj).2
theorem zln_l0 {σ v : MS} {d : Nat} (hd : d < 8) (h41 : σ.2 41 d = 2) (h44 : σ.2 44 d = 0) (hl : lOk σ) (h : zri (zv0 σ d) v) : lOk (zW0 v) := (show lOk v from zri_lOk hd h41 h44 hl h)
theorem zln_b0 {σ v : MS} {d : Nat} (hd : d < 8) (h41 : σ.2 41 d = 2) (h44 : σ.2 44 d = 0) (hb : zbd σ) (h : zri (zv0 σ d) v) : zbd (zW0 v) := fun j i hj hz => by
  have hj2 : j < 14 := by
    unfold zpA at hz
    (repeat' split at hz) <;> omega
  rw [zsA_j (by omega)]
  exact zri_bd hd h41 h44 hb h j i hj hz
theorem zln_sc {σ v w : MS} {H : Nat → Int32} {S i d : Nat} (hd : d < 8) (h41 : σ.2 41 d = 2) (h44 : σ.2 44 d = 0) (h : zri (zv0 σ d) v) (hw : zrj H S (zW0 v) w i) {j : Nat} (hj : ¬ mScr j) (h14 : 14 ≤ j) : w.1 j = σ.1 j ∧ w.2 j = σ.2 j := by
  have f := (zri_fr hd h41 h44 h).1 j hj
  refine ⟨(hw.1 j (by omega) (by omega) (by omega) (by omega) (by omega)).trans f.1, ?_⟩
  rw [hw.2.1 j (by omega), zsA_j (fun e => hj (by unfold mScr; omega))]
  exact f.2
theorem zln_27 {σ v w : MS} {H : Nat → Int32} {S i d : Nat} (hd : d < 8) (h41 : σ.2 41 d = 2) (h44 : σ.2 44 d = 0) (h : zri (zv0 σ d) v) (hw : zrj H S (zW0 v) w i) : w.2 27 = σ.2 27 := by
  rw [hw.2.1 27 (by decide), zsA_j (by decide)]
  exact (zri_fr hd h41 h44 h).2.1
theorem zln_ok {σ v w : MS} {d : Nat} (hd : d < 8) (h41 : σ.2 41 d = 2) (h44 : σ.2 44 d = 0) (hW : zWok (σ.2 27)) (h : zri (zv0 σ d) v) (hb : v.1 19 = 0) (hc : ¬ (v.1 20 = 0 ∨ v.1 18 < σ.2 45 d)) (hw : zrj (hh (zv0 σ d)) (v.1 20) (zW0 v) w (v.1 20)) : nI (w.1 20) = zlnR σ (nI d) ∧ zlnP σ (nI d) (sA w 14 (zcp (w.2 5) (w.2 14) (w.1 4))) := by
  obtain ⟨z1, z2, z3⟩ := zri_end h hb hc
  have z1 : zsf (hh (zv0 σ d)) (σ.2 45 d) 100 0 0 = nI (v.1 20) := z1
  have z2 : zrdM (hh (zv0 σ d)) (σ.2 45 d) = v.1 20 := z2
  have z0 : (0 : Int32) ≤ nI (v.1 20) := Int32.le_of_lt z3
  have te := zrj_end hw
  rw [zln_te hd h41 h44 h] at te
  have t1 : (zte (hh (zv0 σ d)) (v.1 20) 0 (fun _ => 0) σ).1 = none := congrArg Prod.fst te
  have t2 : zlike (zW0 v) (zte (hh (zv0 σ d)) (v.1 20) 0 (fun _ => 0) σ).2 = w := congrArg Prod.snd te
  have e20 : w.1 20 = v.1 20 := hw.1 20 (by decide) (by decide) (by decide) (by decide) (by decide)
  have hR : nI (v.1 20) = zlnR σ (nI d) := by
    rw [zln_R hd h41 h44]
    unfold zrdR
    rw [z1, if_pos z0, z2, t1]
    rfl
  refine ⟨by rw [e20]; exact hR, fun j hj h14 => ?_, ?_, ⟨hw.2.2.1, fun j i hj hz => by rw [zsA_j hj]; exact hw.2.2.2.1.2 j i hj hz⟩, fun q => absurd (hR ▸ z3) q, fun _ => ⟨?_, ?_⟩⟩
  · have s := zln_sc hd h41 h44 h hw hj (by omega)
    exact ⟨s.1, by rw [zsA_j (by omega)]; exact s.2⟩
  · rw [zsA_j (by decide), zln_27 hd h41 h44 h hw]
    exact hW
  · have e1 : zlike σ (sA w 14 (zcp (w.2 5) (w.2 14) (w.1 4))) = zlike σ w := by
      refine Prod.ext rfl (funext fun j => ?_)
      show (if zlb j then (if j = 14 then _ else w.2 j) else σ.2 j) = if zlb j then w.2 j else σ.2 j
      by_cases q : zlb j
      · rw [if_pos q, if_pos q, if_neg (by omega)]
      · rw [if_neg q, if_neg q]
    rw [e1, nI_N (by omega)]
    unfold zlnT zrdT
    rw [← zv0_hh, z1, if_pos z0, z2, ← t2, zlike_2]
  · have e14 : w.2 14 = σ.2 14 := (zln_sc hd h41 h44 h hw (j := 14) (fun q => by unfold mScr at q; omega) (by decide)).2
    show zcp (w.2 5) (w.2 14) (w.1 4) = zcp (w.2 5) (σ.2 14) (w.1 4)
    rw [e14]
abbrev zFS (v w : MS) : MS := sF (sF (sF (sF (sF w 0 (v.1 0)) 4 (v.1 4)) 8 (v.1 8)) 12 (v.1 12)) 13 (v.1 13)
theorem zln_fail {σ v w : MS} {d i : Nat} (hd : d < 8) (h41 : σ.2 41 d = 2) (h44 : σ.2 44 d = 0) (hl : lOk σ) (hbd : zbd σ) (hW : zWok (σ.2 27)) (h : zri (zv0 σ d) v) (hb : v.1 19 = 0) (hc : ¬ (v.1 20 = 0 ∨ v.1 18 < σ.2 45 d)) (hw : zrj (hh (zv0 σ d)) (v.1 20) (zW0 v) w i) (hi : i < v.1 20) (ha : ¬ zcoA w i) : (-2000) - nI (w.2 21 i) = zlnR σ (nI d) ∧ zlnP σ (nI d) (sA (zFS v w) 11 (zcp (w.2 26) (w.2 11) 48)) := by
  obtain ⟨z1, z2, z3⟩ := zri_end h hb hc
  have z1 : zsf (hh (zv0 σ d)) (σ.2 45 d) 100 0 0 = nI (v.1 20) := z1
  have z2 : zrdM (hh (zv0 σ d)) (σ.2 45 d) = v.1 20 := z2
  have z0 : (0 : Int32) ≤ nI (v.1 20) := Int32.le_of_lt z3
  have hrow := zln_row h hb hi
  have te := zrj_bad hw hi hrow ha
  rw [zln_te hd h41 h44 h] at te
  have h34 := (h.2.2.2.2.2 hb).1
  have e21 : w.2 21 i = zpz (hh (zv0 σ d)) i := (congrFun (hw.2.1 21 (by decide)) i).trans hrow.1
  have hpz := zpz_le (hh (zv0 σ d)) i
  have hR : (-2000) - nI (w.2 21 i) = zlnR σ (nI d) := by
    rw [zln_R hd h41 h44]
    unfold zrdR
    rw [z1, if_pos z0, z2, te]
    rfl
  have hn : ¬ (0 : Int32) < zlnR σ (nI d) := by
    rw [← hR, e21, show (-2000 : Int32) = nI 4294965296 from by decide, pk_sub (by omega), z32_lt, zneg (by omega) (by omega), show (0 : Int32).toInt = 0 from by decide]
    omega
  have f := (zri_fr hd h41 h44 h).1
  have n : ∀ j, j ≤ 14 → ¬ mScr j := fun j hj q => by unfold mScr at q; omega
  obtain ⟨_, _, hlw, ⟨⟨_, _, _, br, bx, bs, bm⟩, hbw⟩, _⟩ := id hw
  have v1 := fun j hj => (f j (n j hj)).1
  have v2 := fun j hj => (f j (n j hj)).2
  have kp : zkp σ (sA (zFS v w) 11 (zcp (w.2 26) (w.2 11) 48)) := by
    refine ⟨⟨v1 0 (by decide), v1 4 (by decide), v1 8 (by decide), v1 12 (by decide), v1 13 (by decide)⟩, fun r hr => ?_, fun x hx => ?_, fun s hs => ?_, ?_, ?_⟩
    · have q := br r (by show r < v.1 0; rw [v1 0 (by decide)]; exact hr)
      refine ⟨q.1.trans ?_, q.2.1.trans ?_, q.2.2.trans ?_⟩
      · exact congrFun (v2 1 (by decide)) r
      · exact congrFun (v2 2 (by decide)) r
      · exact congrFun (v2 3 (by decide)) r
    · have q := bx x (by show x < v.1 4; rw [v1 4 (by decide)]; exact hx)
      refine ⟨q.1.trans ?_, q.2.1.trans ?_, q.2.2.trans ?_⟩
      · exact congrFun (v2 5 (by decide)) x
      · exact congrFun (v2 6 (by decide)) x
      · exact congrFun (v2 7 (by decide)) x
    · have q := bs s (by show s < v.1 8; rw [v1 8 (by decide)]; exact hs)
      refine ⟨q.1.trans ?_, q.2.trans ?_⟩
      · exact congrFun (v2 9 (by decide)) s
      · exact congrFun (v2 10 (by decide)) s
    · funext k
      show (if k < 48 then w.2 26 k else w.2 11 k) = σ.2 11 k
      by_cases q : k < 48
      · rw [if_pos q, hw.2.1 26 (by decide)]
        show (if k < 48 then v.2 11 k else v.2 26 k) = _
        rw [if_pos q, v2 11 (by decide)]
      · rw [if_neg q, bm k (by omega)]
        exact congrFun (v2 11 (by decide)) k
    · exact (zln_sc hd h41 h44 h hw (j := 14) (n 14 (by decide)) (by decide)).2
  refine ⟨hR, fun j hj h14 => ?_, ?_, ⟨zkp_lOk hl kp hlw.2.2.2.1 hlw.2.2.2.2, fun j i hj hz => ?_⟩, fun _ => kp, fun q => absurd q hn⟩
  · have s := zln_sc hd h41 h44 h hw hj (by omega)
    refine ⟨?_, ?_⟩
    · show (if j = 13 then _ else if j = 12 then _ else if j = 8 then _ else if j = 4 then _ else if j = 0 then _ else w.1 j) = _
      rw [if_neg (by omega), if_neg (by omega), if_neg (by omega), if_neg (by omega), if_neg (by omega)]
      exact s.1
    · rw [zsA_j (by omega)]
      exact s.2
  · rw [zsA_j (by decide)]
    show zWok (w.2 27)
    rw [zln_27 hd h41 h44 h hw]
    exact hW
  · by_cases e : j = 11
    · subst e
      rw [kp.2.2.2.2.1]
      exact hbd 11 i hj hz
    · rw [zsA_j e]
      exact hbw j i hj hz
abbrev zhh (σ : MS) (d : Nat) : Nat → Int32 := hh (zv0 σ d)
