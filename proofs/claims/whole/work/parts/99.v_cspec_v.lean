/-! WEIGHT, KEEP, ROW -/
theorem zsh_l {ρ : MS} {xd : Int32} (hs : zSh ρ) (h : ¬ (zir xd 8 ∧ ρ.2 41 xd.toInt.toNat = 1)) : shL (ρ.2 41) xd = zshK ρ xd ∧ zshK ρ xd < 0 := by
  unfold zshK
  by_cases hd : zir xd 8
  · have q := shL_ru hs hd h
    rw [if_pos (show 0 ≤ xd.toInt ∧ xd.toInt < 8 from ⟨hd.1, hd.2⟩)]
    exact q
  · rw [if_neg (fun q => hd ⟨q.1, by have := q.2; omega⟩)]
    exact ⟨if_pos hd, by decide⟩
theorem zshK_j {ρ : MS} {j : Nat} (hj : j < 8) (h : ρ.2 41 j = 1) : zshK ρ (nI j) = 0 := by
  unfold zshK
  rw [if_pos (show 0 ≤ (nI j).toInt ∧ (nI j).toInt < 8 by rw [zi_of (by omega)]; omega), nI_N (by omega)]
  unfold zrulK
  rw [if_neg (by omega), if_pos h]
theorem zweig_l {ρ : MS} {xd : Int32} (hs : zSh ρ) (h : ¬ (zir xd 8 ∧ ρ.2 41 xd.toInt.toNat = 1)) : shL (ρ.2 41) xd = zweightS ρ xd := by
  have q := zsh_l hs h
  unfold zweightS
  rw [if_pos q.2]
  exact q.1
theorem zweig_v {ρ : MS} {j : Nat} (hj : j < 8) (h : ρ.2 41 j = 1) : nI (zweigh (ρ.2 42 j) (ρ.2 43 j)) = zweightS ρ (nI j) := by
  unfold zweightS
  rw [zshK_j hj h, if_neg z0_lt, nI_N (by omega)]
