/-! MEANS, SEEN FROM THE FACE -/
theorem zsd_of {x : Int32} (h : zseeds x) : ∃ j : Nat, (1 ≤ j ∧ j ≤ 20) ∧ x = nI j := by
  obtain ⟨j, hj, rfl⟩ := zi_in (x := x) (n := 21) (by decide) ⟨by have := h.1; omega, h.2⟩
  have h1 := h.1
  rw [zi_of (by omega)] at h1
  exact ⟨j, ⟨by omega, by omega⟩, rfl⟩
theorem zsd_N {j : Nat} (h : 1 ≤ j ∧ j ≤ 20) : zseeds (nI j) := by
  show 1 ≤ (nI j).toInt ∧ (nI j).toInt < 21
  rw [zi_of (by omega)]
  omega
theorem zmnC_n {τ ρ : MS} {d n : Int32} (h : ¬ (zir d 8 ∧ zseeds n)) : zmnC τ ρ d n = -1 ∧ zmnC τ ρ d n < 0 := by
  have e : zmnC τ ρ d n = -1 := if_pos h
  rw [e]
  exact ⟨rfl, by decide⟩
theorem zmnC_l {τ ρ : MS} {d n : Int32} (hs : zSh ρ) (hd : zir d 8) (hn : zseeds n) (h1 : ¬ (zir d 8 ∧ ρ.2 41 d.toInt.toNat = 1)) : zmnC τ ρ d n = shL (ρ.2 41) d ∧ zmnC τ ρ d n < 0 := by
  have q := shL_ru hs hd h1
  unfold zmnC
  rw [if_neg (fun q => q ⟨hd, hn⟩), if_pos q.2, q.1]
  exact ⟨rfl, q.2⟩
theorem zmnC_3 {τ ρ : MS} {j : Nat} {n : Int32} (hj : j < 8) (hn : zseeds n) (h1 : ρ.2 41 j = 1) (hr : ¬ zready τ) : zmnC τ ρ (nI j) n = -3 ∧ zmnC τ ρ (nI j) n < 0 := by
  unfold zmnC
  rw [if_neg (fun q => q ⟨zir_N hj (by decide), hn⟩), nI_N (by omega), if_neg (zrulK_1 h1), if_neg hr]
  exact ⟨rfl, by decide⟩
theorem zmnC_0 {τ ρ : MS} {j : Nat} {n : Int32} (hj : j < 8) (hn : zseeds n) (h1 : ρ.2 41 j = 1) (hr : zready τ) : ¬ zmnC τ ρ (nI j) n < 0 := by
  unfold zmnC
  rw [if_neg (fun q => q ⟨zir_N hj (by decide), hn⟩), nI_N (by omega), if_neg (zrulK_1 h1), if_pos hr]
  decide
theorem zmeanC_s {τ ρ : MS} {d n x : Int32} {z : Nat} (h : zmnC τ ρ d n = x ∧ zmnC τ ρ d n < 0) : x = zmeanC τ ρ d n z := by
  unfold zmeanC
  rw [if_pos h.2, h.1]
theorem zmeanC_v {τ ρ : MS} {j n z : Nat} (hj : j < 8) (hn : 1 ≤ n ∧ n ≤ 20) (h : ¬ zmnC τ ρ (nI j) (nI n) < 0) : nI (zmeans τ (ρ.2 42 j) (ρ.2 43 j) n z) = zmeanC τ ρ (nI j) (nI n) z := by
  unfold zmeanC
  rw [if_neg h, nI_N (by omega), nI_N (by omega)]
def zduskC (τ ρ : MS) (d n : Int32) (z : Nat) (mn : Int32) : Int32 := if ¬ zir mn 10000 then -1 else if zmnC τ ρ d n < 0 then zmnC τ ρ d n else nI (zsum (zdusk τ (ρ.2 42 d.toInt.toNat) (ρ.2 43 d.toInt.toNat) n.toInt.toNat z mn.toInt.toNat) (τ.1 4))
theorem zduskC_n {τ ρ : MS} {d n mn : Int32} {z : Nat} (h : ¬ zir mn 10000) : -1 = zduskC τ ρ d n z mn := (if_pos h).symm
theorem zduskC_s {τ ρ : MS} {d n x mn : Int32} {z : Nat} (h : zmnC τ ρ d n = x ∧ zmnC τ ρ d n < 0) (hx : x = -1 ∨ zir mn 10000) : x = zduskC τ ρ d n z mn := by
  unfold zduskC
  by_cases hm : zir mn 10000
  · rw [if_neg (fun q => q hm), if_pos h.2, h.1]
  · rw [if_pos hm]
    exact hx.elim id (fun q => absurd q hm)
theorem zduskC_v {τ ρ : MS} {j n z mn : Nat} (hj : j < 8) (hn : 1 ≤ n ∧ n ≤ 20) (hm : mn < 10000) (h : ¬ zmnC τ ρ (nI j) (nI n) < 0) : nI (zsum (zdusk τ (ρ.2 42 j) (ρ.2 43 j) n z mn) (τ.1 4)) = zduskC τ ρ (nI j) (nI n) z (nI mn) := by
  unfold zduskC
  rw [if_neg (fun q => q (zir_N hm (by decide))), if_neg h, nI_N (by omega), nI_N (by omega), nI_N (by omega)]
theorem zduskI_is {τ : MS} {k f z mn w i : Nat} (hm : mn < 10000) : zduskI τ k f z mn w i = if zmnN (zwalk τ w (τ.1 12) k f (τ.2 5) (z + i)) ≤ mn then τ.2 5 w else 0 := by
  unfold zduskI zmnN
  by_cases e : (zwalk τ w (τ.1 12) k f (τ.2 5) (z + i)).1 = 0
  · rw [if_pos e]
    by_cases e2 : (zwalk τ w (τ.1 12) k f (τ.2 5) (z + i)).2.1 ≤ mn
    · rw [if_pos ⟨e, e2⟩, if_pos e2]
    · rw [if_neg (fun q => e2 q.2), if_neg e2]
  · rw [if_neg e, if_neg (fun q => e q.1), if_neg (by omega)]
