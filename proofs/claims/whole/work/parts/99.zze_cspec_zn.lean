/-! LAND, THE MODEL'S: the statements told; what stands at the end -/
def zkb (v w : MS) : Prop := v.1 0 ≤ w.1 0 ∧ v.1 4 ≤ w.1 4 ∧ v.1 8 ≤ w.1 8 ∧ (∀ r, r < v.1 0 → w.2 1 r = v.2 1 r ∧ w.2 2 r = v.2 2 r ∧ w.2 3 r = v.2 3 r) ∧ (∀ x, x < v.1 4 → w.2 5 x = v.2 5 x ∧ w.2 6 x = v.2 6 x ∧ w.2 7 x = v.2 7 x) ∧ (∀ s, s < v.1 8 → w.2 9 s = v.2 9 s ∧ w.2 10 s = v.2 10 s) ∧ ∀ k, 48 ≤ k → w.2 11 k = v.2 11 k
theorem zkb_0 {v : MS} : zkb v v := ⟨Nat.le_refl _, Nat.le_refl _, Nat.le_refl _, fun _ _ => ⟨rfl, rfl, rfl⟩, fun _ _ => ⟨rfl, rfl, rfl⟩, fun _ _ => ⟨rfl, rfl⟩, fun _ _ => rfl⟩
theorem zkb_step {v w : MS} {i : Nat} (h : zkb v w) (hl : lOk w) (c : zcoA w i) : zkb v (zcoT w i) := by
  obtain ⟨h0, h4, h8, hr, hx, hs, hm⟩ := h
  have k8 : w.1 8 ≤ 6 := hl.1.2.2.1
  unfold zcoT
  rw [if_pos c]
  unfold zcoN
  split
  · refine ⟨Nat.le_succ_of_le h0, h4, h8, fun r q => ?_, hx, hs, hm⟩
    have e : ¬ r = w.1 0 := by omega
    show (if r = w.1 0 then _ else w.2 1 r) = _ ∧ (if r = w.1 0 then _ else w.2 2 r) = _ ∧ (if r = w.1 0 then _ else w.2 3 r) = _
    rw [if_neg e, if_neg e, if_neg e]
    exact hr r q
  · split
    · refine ⟨h0, Nat.le_succ_of_le h4, h8, hr, fun r q => ?_, hs, hm⟩
      have e : ¬ r = w.1 4 := by omega
      show (if r = w.1 4 then _ else w.2 5 r) = _ ∧ (if r = w.1 4 then _ else w.2 6 r) = _ ∧ (if r = w.1 4 then _ else w.2 7 r) = _
      rw [if_neg e, if_neg e, if_neg e]
      exact hx r q
    · split
      · refine ⟨h0, h4, Nat.le_succ_of_le h8, hr, hx, fun r q => ?_, hm⟩
        have e : ¬ r = w.1 8 := by omega
        show (if r = w.1 8 then _ else w.2 9 r) = _ ∧ (if r = w.1 8 then _ else w.2 10 r) = _
        rw [if_neg e, if_neg e]
        exact hs r q
      · split
        · rename_i e9
          have ca := (zcoA_109 e9).mp c
          refine ⟨h0, h4, h8, hr, hx, hs, fun k q => ?_⟩
          show (if k = 6 * w.2 23 i + w.2 24 i then _ else w.2 11 k) = _
          rw [if_neg (by omega)]
          exact hm k q
        · split
          · exact ⟨h0, h4, h8, hr, hx, hs, hm⟩
          · exact ⟨h0, h4, h8, hr, hx, hs, hm⟩
/-- no entry of a land is beyond an int -/
def zbd (σ : MS) : Prop := ∀ j i, j ≠ 14 → zpA j i < 133 → σ.2 j i < 2147483648
theorem zbd_E {σ : MS} {k a v : Nat} (h : zbd σ) (hv : v < 2147483648) : zbd (sE σ k a v) := fun j i hj hz => by
  show (if j = k then (fun b => if b = a then v else σ.2 k b) else σ.2 j) i < _
  by_cases e : j = k
  · subst e
    rw [if_pos rfl]
    show (if i = a then v else σ.2 j i) < _
    split
    · exact hv
    · exact h j i hj hz
  · rw [if_neg e]
    exact h j i hj hz
theorem zbd_T {w : MS} {i : Nat} (h : zbd w) (q : zrdO w i) : zbd (zcoT w i) := by
  unfold zcoT
  split
  · have h23 := q.2.1
    unfold zcoN
    split
    · rename_i e
      have b := zrdO_b q (by omega)
      exact zbd_E (zbd_E (zbd_E h (by omega)) (by omega)) (by omega)
    · split
      · rename_i e
        have b := zrdO_b q (by omega)
        exact zbd_E (zbd_E (zbd_E h (by omega)) (by omega)) (by omega)
      · split
        · rename_i e
          have b := zrdO_c q e
          exact zbd_E (zbd_E h (by omega)) (by omega)
        · split
          · rename_i e
            have b := zrdO_b q (by omega)
            exact zbd_E h (by omega)
          · split
            · exact h
            · exact h
  · exact h
def zrj (H : Nat → Int32) (S : Nat) (v w : MS) (i : Nat) : Prop := (∀ j, j ≠ 0 → j ≠ 4 → j ≠ 8 → j ≠ 12 → j ≠ 13 → w.1 j = v.1 j) ∧ (∀ j, 12 ≤ j → w.2 j = v.2 j) ∧ lOk w ∧ (zkb v w ∧ zbd w) ∧ ∃ t, zte H S 0 (fun _ => 0) v = zte H (S - i) (zpz H i) t w
theorem zrj_0 {H : Nat → Int32} {S : Nat} {v : MS} (h : lOk v) (hb : zbd v) : zrj H S v v 0 := ⟨fun _ _ _ _ _ _ => rfl, fun _ _ => rfl, h, ⟨zkb_0, hb⟩, _, rfl⟩
theorem zcoT_fr {w : MS} {i : Nat} : (∀ j, j ≠ 0 → j ≠ 4 → j ≠ 8 → j ≠ 12 → j ≠ 13 → (zcoT w i).1 j = w.1 j) ∧ (∀ j, 12 ≤ j → (zcoT w i).2 j = w.2 j) := by
  unfold zcoT
  split
  · unfold zcoN
    split
    · refine ⟨fun j a b c d e => if_neg a, fun j hj => ?_⟩
      show (if j = 3 then _ else if j = 2 then _ else if j = 1 then _ else w.2 j) = _
      rw [if_neg (by omega), if_neg (by omega), if_neg (by omega)]
    · split
      · refine ⟨fun j a b c d e => if_neg b, fun j hj => ?_⟩
        show (if j = 7 then _ else if j = 6 then _ else if j = 5 then _ else w.2 j) = _
        rw [if_neg (by omega), if_neg (by omega), if_neg (by omega)]
      · split
        · refine ⟨fun j a b c d e => if_neg c, fun j hj => ?_⟩
          show (if j = 10 then _ else if j = 9 then _ else w.2 j) = _
          rw [if_neg (by omega), if_neg (by omega)]
        · split
          · exact ⟨fun j a b c d e => rfl, fun j hj => if_neg (by omega)⟩
          · split
            · exact ⟨fun j a b c d e => if_neg d, fun j hj => rfl⟩
            · exact ⟨fun j a b c d e => if_neg e, fun j hj => rfl⟩
  · exact ⟨fun _ _ _ _ _ _ => rfl, fun _ _ => rfl⟩
theorem zrj_rd {H : Nat → Int32} {S i a : Nat} {v w : MS} (h : zrj H S v w i) (q : zrf H v i a) (hi : i < 50) : zrdO w i := by
  have qw : zrf H w i a := zrf_cong (fun j h1 h2 => congrFun (h.2.1 j (by omega)) i) q
  obtain ⟨_, _, e23, e⟩ := qw
  refine ⟨hi, e23, ?_⟩
  rcases e with ⟨h1, h2, h3, _⟩ | ⟨h1, h2, _⟩ | ⟨h1, _⟩
  · exact Or.inl ⟨h1, h2, h3⟩
  · exact Or.inr (Or.inl ⟨h1, h2⟩)
  · exact Or.inr (Or.inr h1)
theorem zrj_step {H : Nat → Int32} {S i : Nat} {v w : MS} (h : zrj H S v w i) (hi : i < S) (h5 : i < 50) (q : zrf H v i (zpz H i)) (c : zcoA w i) : zrj H S v (zcoT w i) (i + 1) := by
  have rd := zrj_rd h q h5
  obtain ⟨f1, f2, hl, hk, t, ht⟩ := h
  have qw : zrf H w i (zpz H i) := zrf_cong (fun j h1 h2 => congrFun (f2 j (by omega)) i) q
  have it := zco_it hl qw t
  have fr := zcoT_fr (w := w) (i := i)
  refine ⟨fun j a b c d e => (fr.1 j a b c d e).trans (f1 j a b c d e), fun j hj => (fr.2 j hj).trans (f2 j hj), by rw [it.2]; exact lOk_it hl, ⟨zkb_step hk.1 hl c, zbd_T hk.2 rd⟩, zpt H (zpz H i) t, ?_⟩
  rw [ht, show S - i = (S - (i + 1)) + 1 by omega, zte_go (it.1.mp c), it.2]
  rfl
theorem zrj_bad {H : Nat → Int32} {S i : Nat} {v w : MS} (h : zrj H S v w i) (hi : i < S) (q : zrf H v i (zpz H i)) (c : ¬ zcoA w i) : (zte H S 0 (fun _ => 0) v).1 = some (w.2 21 i) := by
  obtain ⟨f1, f2, hl, hk, t, ht⟩ := h
  have qw : zrf H w i (zpz H i) := zrf_cong (fun j h1 h2 => congrFun (f2 j (by omega)) i) q
  have it := zco_it hl qw t
  rw [ht, show S - i = (S - (i + 1)) + 1 by omega, zte_bad (fun x => c (it.1.mpr x)), qw.1]
theorem zrj_end {H : Nat → Int32} {S : Nat} {v w : MS} (h : zrj H S v w S) : zte H S 0 (fun _ => 0) v = (none, w) := by
  obtain ⟨f1, f2, hl, hk, t, ht⟩ := h
  rw [ht, Nat.sub_self]
  rfl
/-- a land as it was, below its counts -/
def zkp (σ u : MS) : Prop := (u.1 0 = σ.1 0 ∧ u.1 4 = σ.1 4 ∧ u.1 8 = σ.1 8 ∧ u.1 12 = σ.1 12 ∧ u.1 13 = σ.1 13) ∧ (∀ r, r < σ.1 0 → u.2 1 r = σ.2 1 r ∧ u.2 2 r = σ.2 2 r ∧ u.2 3 r = σ.2 3 r) ∧ (∀ x, x < σ.1 4 → u.2 5 x = σ.2 5 x ∧ u.2 6 x = σ.2 6 x ∧ u.2 7 x = σ.2 7 x) ∧ (∀ s, s < σ.1 8 → u.2 9 s = σ.2 9 s ∧ u.2 10 s = σ.2 10 s) ∧ u.2 11 = σ.2 11 ∧ u.2 14 = σ.2 14
theorem zkp_lOk {σ u : MS} (h : lOk σ) (k : zkp σ u) (h7 : ∀ w, w < 5 → u.2 7 w < 65536) (h6 : ∀ w, w < 5 → u.2 6 w < 8) : lOk u := by
  obtain ⟨⟨k0, k4, k8, kr, kw, ks, kmet, kmt, k12, k13⟩, hs, hz, _, _⟩ := h
  obtain ⟨⟨e0, e4, e8, e12, e13⟩, er, ex, es, em, _⟩ := k
  refine ⟨⟨by omega, by omega, by omega, fun r hr => ?_, fun w hw => ?_, fun s hs9 => ?_, by rw [em]; exact kmet, by rw [em]; exact kmt, by omega, by omega⟩, ?_, ?_, h7, h6⟩
  · have q := er r (by omega)
    rw [q.1, q.2.1, q.2.2]
    exact kr r (by omega)
  · have q := ex w (by omega)
    rw [q.1, q.2.1, q.2.2]
    exact kw w (by omega)
  · have q := es s (by omega)
    rw [q.1, q.2]
    exact ks s (by omega)
  · rw [e4, zsum_cong (g := σ.2 5) (σ.1 4) (fun x hx => (ex x hx).1)]
    exact hs
  · intro c s hc h8 hs6
    rw [em]
    exact hz c s hc (by omega) hs6
abbrev zla (j : Nat) : Prop := j = 0 ∨ j = 4 ∨ j = 8 ∨ j = 12 ∨ j = 13
abbrev zlb (j : Nat) : Prop := j = 1 ∨ j = 2 ∨ j = 3 ∨ j = 5 ∨ j = 6 ∨ j = 7 ∨ j = 9 ∨ j = 10 ∨ j = 11
theorem zlike_self {v σ : MS} (h1 : ∀ j, zla j → v.1 j = σ.1 j) (h2 : ∀ j, zlb j → v.2 j = σ.2 j) : zlike v σ = v := by
  refine Prod.ext (funext fun j => ?_) (funext fun j => ?_)
  · show (if zla j then σ.1 j else v.1 j) = v.1 j
    split
    · rename_i q; exact (h1 j q).symm
    · rfl
  · show (if zlb j then σ.2 j else v.2 j) = v.2 j
    split
    · rename_i q; exact (h2 j q).symm
    · rfl
/-- bytes are bytes -/
def zbyt (σ : MS) : Prop := ∀ d i, d < 8 → σ.2 41 d = 2 → σ.2 44 d = 0 → i < σ.2 45 d → σ.2 46 (100 * d + i) < 128 ∨ (18446744073709551488 ≤ σ.2 46 (100 * d + i) ∧ σ.2 46 (100 * d + i) < 18446744073709551616)
def zv0 (σ : MS) (d : Nat) : MS := sF (sF (sF (sF (sF σ 16 (100 * d)) 17 (σ.2 45 d)) 18 0) 19 0) 20 0
theorem zv0_hh (σ : MS) (d : Nat) : hh (zv0 σ d) = zbA (sel σ d) (σ.2 45 d) := by
  funext a
  show (if a < σ.2 45 d then (lN (σ.2 46 (100 * d + a))).toInt32 else 0) = if a < σ.2 45 d then (if a < σ.2 45 d then (lN (σ.2 46 (100 * d + a))).toInt32 else 0) else 0
  split <;> rfl
abbrev zlnR (σ : MS) (d : Int32) : Int32 := zlanR σ σ d (fun _ => 0)
def zlnT (σ : MS) (d : Nat) : MS := zrdT (zbA (sel σ d) (σ.2 45 d)) (σ.2 45 d) σ (fun _ => 0)
def zlnP (σ : MS) (d : Int32) (u : MS) : Prop := (∀ j, ¬ mScr j → 14 < j → u.1 j = σ.1 j ∧ u.2 j = σ.2 j) ∧ zWok (u.2 27) ∧ (lOk u ∧ zbd u) ∧ (¬ 0 < zlnR σ d → zkp σ u) ∧ (0 < zlnR σ d → zlike σ u = zlike σ (zlnT σ d.toInt.toNat) ∧ u.2 14 = zcp (u.2 5) (σ.2 14) (u.1 4))
theorem zkq_0 {σ : MS} : zkp σ σ := ⟨⟨rfl, rfl, rfl, rfl, rfl⟩, fun _ _ => ⟨rfl, rfl, rfl⟩, fun _ _ => ⟨rfl, rfl, rfl⟩, fun _ _ => ⟨rfl, rfl⟩, rfl, rfl⟩
theorem zln_no {σ : MS} {d : Int32} (hl : lOk σ) (hb : zbd σ) (hW : zWok (σ.2 27)) (h : ¬ 0 < zlnR σ d) : zlnP σ d σ := ⟨fun _ _ _ => ⟨rfl, rfl⟩, hW, ⟨hl, hb⟩, fun _ => zkq_0, fun q => absurd q h⟩
theorem zln_R {σ : MS} {d : Nat} (hd : d < 8) (h41 : σ.2 41 d = 2) (h44 : σ.2 44 d = 0) : zlnR σ (nI d) = zrdR (hh (zv0 σ d)) (σ.2 45 d) σ (fun _ => 0) := by
  rw [zv0_hh]
  exact zlan_is hd h41 h44
theorem zln_by {σ : MS} {d : Nat} (hd : d < 8) (h41 : σ.2 41 d = 2) (h44 : σ.2 44 d = 0) (hb : zbyt σ) : zby8 (zv0 σ d) := fun i hi => hb d i hd h41 h44 hi
theorem zri_fr {σ v : MS} {d : Nat} (hd : d < 8) (h41 : σ.2 41 d = 2) (h44 : σ.2 44 d = 0) (h : zri (zv0 σ d) v) : (∀ j, ¬ mScr j → v.1 j = σ.1 j ∧ v.2 j = σ.2 j) ∧ v.2 27 = σ.2 27 ∧ v.1 16 = 100 * d ∧ v.1 17 = σ.2 45 d := by
  obtain ⟨f1, f2, _⟩ := h
  refine ⟨fun j hj => ?_, f2 27 (by decide), f1 16 (by decide) (by decide) (by decide), f1 17 (by decide) (by decide) (by decide)⟩
  have hj2 : ¬ (16 ≤ j ∧ j ≤ 27) := fun q => hj (Or.inl q)
  refine ⟨(f1 j (by omega) (by omega) (by omega)).trans ?_, f2 j (by omega)⟩
  show (if j = 20 then _ else if j = 19 then _ else if j = 18 then _ else if j = 17 then _ else if j = 16 then _ else σ.1 j) = _
  rw [if_neg (by omega), if_neg (by omega), if_neg (by omega), if_neg (by omega), if_neg (by omega)]
theorem zri_lOk {σ v : MS} {d : Nat} (hd : d < 8) (h41 : σ.2 41 d = 2) (h44 : σ.2 44 d = 0) (hl : lOk σ) (h : zri (zv0 σ d) v) : lOk v := by
  have f := (zri_fr hd h41 h44 h).1
  have n : ∀ j, j ≤ 14 → ¬ mScr j := fun j hj q => by unfold mScr at q; omega
  refine zkp_lOk hl ⟨⟨(f 0 (n 0 (by decide))).1, (f 4 (n 4 (by decide))).1, (f 8 (n 8 (by decide))).1, (f 12 (n 12 (by decide))).1, (f 13 (n 13 (by decide))).1⟩, fun r _ => ?_, fun x _ => ?_, fun s _ => ?_, (f 11 (n 11 (by decide))).2, (f 14 (n 14 (by decide))).2⟩ ?_ ?_
  · rw [(f 1 (n 1 (by decide))).2, (f 2 (n 2 (by decide))).2, (f 3 (n 3 (by decide))).2]; exact ⟨rfl, rfl, rfl⟩
  · rw [(f 5 (n 5 (by decide))).2, (f 6 (n 6 (by decide))).2, (f 7 (n 7 (by decide))).2]; exact ⟨rfl, rfl, rfl⟩
  · rw [(f 9 (n 9 (by decide))).2, (f 10 (n 10 (by decide))).2]; exact ⟨rfl, rfl⟩
  · rw [(f 7 (n 7 (by decide))).2]; exact hl.2.2.2.1
  · rw [(f 6 (n 6 (by decide))).2]; exact hl.2.2.2.2
theorem zri_kp {σ v : MS} {d : Nat} (hd : d < 8) (h41 : σ.2 41 d = 2) (h44 : σ.2 44 d = 0) (h : zri (zv0 σ d) v) : zkp σ v := by
  have f := (zri_fr hd h41 h44 h).1
  have n : ∀ j, j ≤ 14 → ¬ mScr j := fun j hj q => by unfold mScr at q; omega
  refine ⟨⟨(f 0 (n 0 (by decide))).1, (f 4 (n 4 (by decide))).1, (f 8 (n 8 (by decide))).1, (f 12 (n 12 (by decide))).1, (f 13 (n 13 (by decide))).1⟩, fun r _ => ?_, fun x _ => ?_, fun s _ => ?_, (f 11 (n 11 (by decide))).2, (f 14 (n 14 (by decide))).2⟩
  · rw [(f 1 (n 1 (by decide))).2, (f 2 (n 2 (by decide))).2, (f 3 (n 3 (by decide))).2]; exact ⟨rfl, rfl, rfl⟩
  · rw [(f 5 (n 5 (by decide))).2, (f 6 (n 6 (by decide))).2, (f 7 (n 7 (by decide))).2]; exact ⟨rfl, rfl, rfl⟩
  · rw [(f 9 (n 9 (by decide))).2, (f 10 (n 10 (by decide))).2]; exact ⟨rfl, rfl⟩
theorem zri_bd {σ v : MS} {d : Nat} (hd : d < 8) (h41 : σ.2 41 d = 2) (h44 : σ.2 44 d = 0) (hb : zbd σ) (h : zri (zv0 σ d) v) : zbd v := fun j i hj hz => by
  have hj2 : j < 14 := by
    unfold zpA at hz
    (repeat' split at hz) <;> omega
  rw [((zri_fr hd h41 h44 h).1 j (fun q => by unfold mScr at q; omega)).2]
  exact hb j i hj hz
theorem zln_bad {σ v : MS} {d : Nat} (hd : d < 8) (h41 : σ.2 41 d = 2) (h44 : σ.2 44 d = 0) (hl : lOk σ) (hbd : zbd σ) (hW : zWok (σ.2 27)) (h : zri (zv0 σ d) v) (hb : v.1 19 ≠ 0) : (-1000) - nI (v.1 18) = zlnR σ (nI d) ∧ zlnP σ (nI d) v := by
  have e := h.2.2.2.2.1 hb
  have ha := h.2.2.1
  have hn : ((-1000 : Int32) - nI (v.1 18)).toInt < 0 := by
    rw [show (-1000 : Int32) = nI 4294966296 from by decide, pk_sub (by omega), zneg (by omega) (by omega)]
    omega
  have hR : (-1000) - nI (v.1 18) = zlnR σ (nI d) := by
    rw [zln_R hd h41 h44]
    unfold zrdR
    have e2 : zsf (hh (zv0 σ d)) (σ.2 45 d) 100 0 0 = (-1000) - nI (v.1 18) := e
    rw [e2, if_neg (fun q => by rw [z32_le, show (0 : Int32).toInt = 0 from by decide] at q; omega)]
  refine ⟨hR, ?_⟩
  have fr := zri_fr hd h41 h44 h
  refine ⟨fun j hj _ => fr.1 j hj, by rw [fr.2.1]; exact hW, ⟨zri_lOk hd h41 h44 hl h, zri_bd hd h41 h44 hbd h⟩, fun _ => zri_kp hd h41 h44 h, fun q => ?_⟩
  rw [← hR, z32_lt, show (0 : Int32).toInt = 0 from by decide] at q
  omega
