/-! LINKS: the class's words and the reference's -/
section LK
variable {σ τ : MS}
theorem lk_fields (h : zAg (zf σ) τ) : σ.1 0 = τ.1 0 ∧ σ.1 4 = τ.1 4 ∧ σ.1 8 = τ.1 8 ∧ σ.1 12 = τ.1 12 ∧ σ.1 13 = τ.1 13 ∧ σ.1 28 = τ.1 28 := h.1
theorem lk_ready (h : zAg (zf σ) τ) : zready σ ↔ zready τ := ag_ready (σ := zf σ) h
theorem zir_N2 {x : Int32} {n : Nat} (hn : n ≤ 2147483647) (h : zir x n) : x.toInt.toNat < n := by
  obtain ⟨j, hj, rfl⟩ := zir_of hn h
  rw [nI_N (by omega)]
  exact hj
theorem lk_road (h : zAg (zf σ) τ) (hok : mOk τ) {r k : Int32} : zroadS τ r k = zroadS σ r k := by
  unfold zroadS
  rw [(lk_fields h).1]
  by_cases q : zir r (τ.1 0) ∧ zir k 3
  · have hr := zir_N2 (by have := hok.1; omega) q.1
    obtain ⟨e1, e2, e3⟩ := h.2.1 _ hr
    have e1 : σ.2 1 r.toInt.toNat = τ.2 1 r.toInt.toNat := e1
    have e2 : σ.2 2 r.toInt.toNat = τ.2 2 r.toInt.toNat := e2
    have e3 : σ.2 3 r.toInt.toNat = τ.2 3 r.toInt.toNat := e3
    rw [e1, e2, e3]
  · rw [if_pos q, if_pos q]
theorem lk_world (h : zAg (zf σ) τ) (hok : mOk τ) {w k : Int32} : zworldS τ w k = zworldS σ w k := by
  unfold zworldS
  rw [(lk_fields h).2.1]
  by_cases q : zir w (τ.1 4) ∧ zir k 3
  · have hr := zir_N2 (by have := hok.2.1; omega) q.1
    obtain ⟨e1, e2, e3⟩ := h.2.2.1 _ hr
    have e1 : σ.2 5 w.toInt.toNat = τ.2 5 w.toInt.toNat := e1
    have e2 : σ.2 6 w.toInt.toNat = τ.2 6 w.toInt.toNat := e2
    have e3 : σ.2 7 w.toInt.toNat = τ.2 7 w.toInt.toNat := e3
    rw [e1, e2, e3]
  · rw [if_pos q, if_pos q]
theorem lk_met (h : zAg (zf σ) τ) (hok : mOk τ) {c s : Int32} : zmetS τ c s = zmetS σ c s := by
  unfold zmetS
  rw [(lk_fields h).2.2.1]
  by_cases q : zir c 8 ∧ zir s (τ.1 8)
  · have h8 := hok.2.2.1
    have hc := zir_N2 (by omega) q.1
    have hs := zir_N2 (by omega) q.2
    have e : σ.2 11 (6 * c.toInt.toNat + s.toInt.toNat) = τ.2 11 (6 * c.toInt.toNat + s.toInt.toNat) := h.2.2.2.2.1 _ (by omega)
    rw [e]
  · rw [if_pos q, if_pos q]
theorem lk_count (h : zAg (zf σ) τ) {x : Int32} : zcountS τ x = zcountS σ x := by
  have e3 : zsum (σ.2 3) (σ.1 0) = zsum (τ.2 3) (τ.1 0) := by
    rw [(lk_fields h).1]
    exact zsum_cong _ (fun k hk => (h.2.1 k hk).2.2)
  have e5 : zsum (σ.2 5) (σ.1 4) = zsum (τ.2 5) (τ.1 4) := ag_sum5 (σ := zf σ) h
  unfold zcountS
  rw [e3, e5, (lk_fields h).1, (lk_fields h).2.1, (lk_fields h).2.2.1, (lk_fields h).2.2.2.1]
theorem lk_setS (h : zAg (zf σ) τ) {k x : Int32} : zsetS τ k x = zsetS σ k x := by
  unfold zsetS
  rw [(lk_fields h).2.2.2.1, (lk_fields h).2.2.2.2.1]
theorem lk_way (h : zAg (zf σ) τ) (hok : mOk τ) {w c : Int32} : zwayC τ w c = zwayS σ w c := by
  unfold zwayC zwayS
  rw [(lk_fields h).2.1]
  by_cases q : zir w (τ.1 4) ∧ zir c 8
  · have h4 := hok.2.1
    rw [if_neg (not_not_intro q), if_neg (not_not_intro q), h.2.2.2.2.2 _ _ (zir_N2 (by omega) q.1) (zir_N2 (by omega) q.2)]
  · rw [if_pos q, if_pos q]
theorem lk_says (h : zAg (zf σ) τ) (hok : mOk τ) {s c w : Int32} : zsaysC τ s c w = zsaysS σ s c w := by
  unfold zsaysC zsaysS
  rw [(lk_fields h).2.1, (lk_fields h).2.2.1]
  by_cases q : zir s (τ.1 8) ∧ zir c 8 ∧ zir w (τ.1 4)
  · have h8 := hok.2.2.1
    rw [if_neg (not_not_intro q), if_neg (not_not_intro q), ag_said h (zir_N2 (by omega) q.1) (zir_N2 (by omega) q.2.1)]
  · rw [if_pos q, if_pos q]
theorem lk_next (h : zAg (zf σ) τ) (hT : tOk τ) {w c : Int32} : znextC τ w c = znextS σ w c := by
  unfold znextC znextS
  rw [(lk_fields h).2.1]
  by_cases q : zir w (τ.1 4) ∧ zir c 8
  · have hok := hT.1
    have h4 := hok.2.1
    have hw := zir_N2 (by omega) q.1
    have hc := zir_N2 (by omega) q.2
    have e6 : σ.2 6 w.toInt.toNat = τ.2 6 w.toInt.toNat := (h.2.2.1 _ hw).2.1
    rw [if_neg (not_not_intro q), if_neg (not_not_intro q), hT.2.2.2.2.1 _ _ hw hc, e6, ag_next h hok hw hc]
    unfold znr
    by_cases q1 : τ.2 6 w.toInt.toNat = c.toInt.toNat
    · rw [if_pos q1, if_pos q1, if_neg (by decide)]
    · rw [if_neg q1, if_neg q1]
      unfold znext
      by_cases q2 : τ.2 27 (8 * w.toInt.toNat + c.toInt.toNat) < 99999 ∧ zfirst (znextP τ w.toInt.toNat c.toInt.toNat) (τ.1 0) < τ.1 0
      · have h16 := hok.1
        have hpos : (0 : Int32) ≤ nI (zfirst (znextP τ w.toInt.toNat c.toInt.toNat) (τ.1 0)) := by
          rw [show (0 : Int32) = nI 0 from rfl, zn_le (by decide) (by omega)]
          exact Nat.zero_le _
        rw [if_pos q2, if_pos q2, if_pos hpos]
      · rw [if_neg q2, if_neg q2, if_neg (by decide)]
  · rw [if_pos q, if_pos q]
theorem lk_hund (h : zAg (zf σ) τ) (hok : mOk τ) (h28 : τ.1 28 = 4294967295) {c a w : Nat} (hc : c < 8) : zhund (zf σ) c a w = zhun0 τ c a w := by
  rw [ag_hund h hok.2.2.1 hc]
  unfold zhund zhun0
  rw [if_neg (by omega)]
theorem zanR_iN {a : Int32} {n : Nat} (hn : n ≤ 5) (h : -1 ≤ a.toInt ∧ a.toInt < (n : Int)) : iN a < 5 ∨ iN a = 4294967295 := by
  by_cases q : 0 ≤ a.toInt
  · obtain ⟨j, hj, rfl⟩ := zir_of (n := n) (by omega) ⟨q, h.2⟩
    rw [iN_nI (by omega)]
    omega
  · have e : a = -1 := Int32.toInt_inj.mp (by have : a.toInt = -1 := by omega
                                              rw [this]; rfl)
    rw [e]
    exact Or.inr (by decide)
theorem lk_chance (h : zAg (zf σ) τ) (hT : tOk τ) (h28 : τ.1 28 = 4294967295) {c a w : Int32} : zchanC τ c a w = zchanceS σ c a w := by
  unfold zchanC zchanceS
  rw [(lk_fields h).2.1]
  by_cases q : zir c 8 ∧ (-1 ≤ a.toInt ∧ a.toInt < (τ.1 4 : Int)) ∧ zir w (τ.1 4)
  · have hok := hT.1
    have h4 := hok.2.1
    have hc := zir_N2 (by omega) q.1
    have hw := zir_N2 (by omega) q.2.2
    rw [if_neg (not_not_intro q), if_neg (not_not_intro q), hT.2.2.2.1 _ _ _ hc (zanR_iN h4 q.2.1) hw, lk_hund h hok h28 hc]
  · rw [if_pos q, if_pos q]
end LK
