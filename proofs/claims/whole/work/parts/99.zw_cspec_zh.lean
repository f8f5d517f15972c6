/-! LINKS: WALKS, MEANS, RULES -/
section LW
variable {σ τ : MS} {F : Nat → Nat}
theorem lk_walk (h : zAg (zf σ) τ) (hT : tOk τ) (hF : zTh (τ.1 4) F (σ.2 14)) {w c : Int32} : zwalkC τ F w c = zwalkS σ w c := by
  have hn := hT.1.2.1
  have eq1 : zir w (σ.1 4) ↔ zir w (τ.1 4) := by rw [lk_4 h]
  unfold zwalkC zwalkS
  by_cases q : zir w (τ.1 4) ∧ zir c 8
  · rw [if_neg (not_not_intro q), if_neg (show ¬ ¬ (zir w (σ.1 4) ∧ zir c 8) from not_not_intro ⟨eq1.mpr q.1, q.2⟩), ag_walk h hT.1 (zir_N2 (by omega) q.1) (zir_N2 (by omega) q.2) (m := σ.2 14) (m' := F) (fun k hk => (hF.2 k hk).symm)]
    by_cases q2 : zready τ
    · rw [if_neg (not_not_intro q2), if_neg (not_not_intro ((lk_ready h).mpr q2))]
    · rw [if_pos q2, if_pos (show ¬ zready σ from fun x => q2 ((lk_ready h).mp x))]
  · rw [if_pos q, if_pos (show ¬ (zir w (σ.1 4) ∧ zir c 8) from fun x => q ⟨eq1.mp x.1, x.2⟩)]
theorem lk_by (h : zAg (zf σ) τ) (hT : tOk τ) {d w wh : Int32} {z : Nat} : zbyC τ σ d w z wh = zbyS σ d w z wh := by
  have hn := hT.1.2.1
  have eq1 : zir w (σ.1 4) ↔ zir w (τ.1 4) := by rw [lk_4 h]
  unfold zbyC zbyS
  by_cases q : zir d 8 ∧ zir w (τ.1 4) ∧ zir wh 3
  · rw [if_neg (not_not_intro q), if_neg (show ¬ ¬ (zir d 8 ∧ zir w (σ.1 4) ∧ zir wh 3) from not_not_intro ⟨q.1, eq1.mpr q.2.1, q.2.2⟩), (lk_fields h).2.2.2.1, ag_walk h hT.1 (zir_N2 (by omega) q.2.1) hT.1.2.2.2.2.2.2.2.2.1 (m := σ.2 5) (m' := τ.2 5) (fun k hk => (h.2.2.1 k hk).1)]
    by_cases q2 : zready τ
    · rw [if_neg (not_not_intro q2), if_neg (not_not_intro ((lk_ready h).mpr q2))]
    · rw [if_pos q2, if_pos (show ¬ zready σ from fun x => q2 ((lk_ready h).mp x))]
  · rw [if_pos q, if_pos (show ¬ (zir d 8 ∧ zir w (σ.1 4) ∧ zir wh 3) from fun x => q ⟨x.1, eq1.mp x.2.1, x.2.2⟩)]
theorem lk_mn (h : zAg (zf σ) τ) {d n : Int32} : zmnC τ σ d n = zwmean σ d n := by
  unfold zmnC zwmean
  by_cases q2 : zready τ
  · rw [if_pos q2, if_pos ((lk_ready h).mpr q2)]
  · rw [if_neg q2, if_neg (fun x => q2 ((lk_ready h).mp x))]
theorem lk_mean (h : zAg (zf σ) τ) (hT : tOk τ) {d n : Int32} {z : Nat} : zmeanC τ σ d n z = zmeanS σ d n z := by
  unfold zmeanC zmeanS
  rw [lk_mn h, ag_means h hT.1]
theorem lk_dusk (h : zAg (zf σ) τ) (hT : tOk τ) {d n mn : Int32} {z : Nat} : zduskC τ σ d n z mn = zduskS σ d n z mn := by
  unfold zduskC zduskS
  have e := ag_dusk h hT.1 (rule := σ.2 42 d.toInt.toNat) (fig := σ.2 43 d.toInt.toNat) (n := n.toInt.toNat) (z := z) (mn := mn.toInt.toNat)
  have e : zsum (zdusk (zf σ) (σ.2 42 d.toInt.toNat) (σ.2 43 d.toInt.toNat) n.toInt.toNat z mn.toInt.toNat) (σ.1 4) = _ := e
  rw [lk_mn h, e]
theorem ag_28 {σ τ : MS} (h : zAg σ τ) (c : Nat) : zAg (sF σ 28 c) (sF τ 28 c) := ⟨⟨h.1.1, h.1.2.1, h.1.2.2.1, h.1.2.2.2.1, h.1.2.2.2.2.1, rfl⟩, h.2⟩
theorem lk_post (h : zAg (zf σ) τ) (hT : tOk τ) {n : Int32} {z : Nat} : zpostC τ n z = zpostS σ n z := by
  unfold zpostC zpostS
  have e : zleast (fun c => zmeans (sF τ 28 c) 3 0 n.toInt.toNat z) 8 = zleast (zpostF σ n.toInt.toNat z) 8 := by
    refine (zleast_cong (fun c _ => ?_)).1
    unfold zpostF zpo
    exact (ag_means (ag_28 h c) (show mOk (sF τ 28 c) from hT.1)).symm
  rw [e]
  by_cases q2 : zready τ
  · rw [if_neg (not_not_intro q2), if_neg (not_not_intro ((lk_ready h).mpr q2))]
  · rw [if_pos q2, if_pos (show ¬ zready σ from fun x => q2 ((lk_ready h).mp x))]
/-- what stands in rows is an int -/
def zint (ρ : MS) : Prop := ∀ d i, d < 8 → ρ.2 41 d = 2 → i < ρ.2 45 d → (lN (ρ.2 46 (100 * d + i))).toInt32.toInt64 = lN (ρ.2 46 (100 * d + i))
theorem sel_l {ρ : MS} (hz : zint ρ) {d i : Nat} (hd : d < 8) (h2 : ρ.2 41 d = 2) (hi : i < ρ.2 45 d) : (sel ρ d i).toInt64 = lN (ρ.2 46 (100 * d + i)) ∧ sel ρ d i = (lN (ρ.2 46 (100 * d + i))).toInt32 := by
  unfold sel
  rw [if_pos hi]
  exact ⟨hz d i hd h2 hi, rfl⟩
theorem z64_rng {x : Int32} {n : Nat} (hn : n < 1000) : (lN 0 ≤ x.toInt64 ∧ x.toInt64 ≤ lN n) ↔ zir x (n + 1) := by
  simp only [z64_le, zl_toInt (show 0 < 9223372036854775808 by decide), zl_toInt (show n < 9223372036854775808 by omega), Int32.toInt_toInt64]
  unfold zir
  omega
theorem lk_good {ρ : MS} (hz : zint ρ) {d : Nat} (hd : d < 8) (h2 : ρ.2 41 d = 2) (hn : ρ.2 45 d ≤ 100) : zgood ρ d (ρ.2 45 d) = true ↔ zhkD (sel ρ d) (ρ.2 45 d) = true := by
  have key : ∀ i, i ≤ ρ.2 45 d → (zgood ρ d i = true ↔ (1 ≤ ρ.2 45 d ∧ ρ.2 45 d ≤ 6) ∧ ∀ j, j < i → zir (sel ρ d j) 6) := by
    intro i
    induction i with
    | zero =>
      intro _
      rw [zgood, decide_eq_true_iff, z64_le, z64_le, zl_toInt (show 1 < 9223372036854775808 by decide), zl_toInt (show 6 < 9223372036854775808 by decide), zl_toInt (show ρ.2 45 d < 9223372036854775808 by omega)]
      constructor
      · intro q
        exact ⟨by omega, fun j hj => absurd hj (Nat.not_lt_zero j)⟩
      · rintro ⟨q, -⟩
        omega
    | succ i ih =>
      intro hi
      have e := (sel_l hz hd h2 (show i < ρ.2 45 d by omega)).1
      rw [zgood, Bool.and_eq_true, ih (by omega)]
      unfold zgoodP
      rw [decide_eq_true_iff, ← e, z64_rng (n := 5) (by decide)]
      constructor
      · rintro ⟨⟨q1, q2⟩, q3⟩
        refine ⟨q1, fun j hj => ?_⟩
        by_cases ej : j = i
        · rw [ej]; exact q3
        · exact q2 j (by omega)
      · rintro ⟨q1, q2⟩
        exact ⟨⟨q1, fun j hj => q2 j (by omega)⟩, q2 i (by omega)⟩
  rw [key _ (Nat.le_refl _)]
  constructor
  · rintro ⟨q1, q2⟩
    exact zhkD_y q1 q2
  · exact zhk_of
theorem lk_best (h : zAg (zf σ) τ) (hT : tOk τ) (hs : zSh σ) (hz : zint σ) {d f n : Int32} {z : Nat} : zbestC τ σ d f n z = zbestS σ d f n z := by
  unfold zbestC zbestS
  by_cases q : zir d 8 ∧ zir f 100 ∧ zseeds n
  · rw [if_neg (not_not_intro q), if_neg (not_not_intro q)]
    by_cases q1 : zrowK σ d < 0
    · rw [if_pos q1, if_pos q1]
    · rw [if_neg q1, if_neg q1]
      obtain ⟨j, hj, rfl⟩ := zir_of (by decide) q.1
      have h2 : σ.2 41 j = 2 := by
        rcases Nat.decEq (σ.2 41 j) 2 with g | g
        · exact absurd (shL_ro (xd := nI j) (fun x => g (by have := x.2; rw [nI_N (by omega)] at this; exact this)) hs).2 q1
        · exact g
      have h5 := hs.2.2 j hj h2
      rw [nI_N (by omega)]
      have eg := lk_good hz hj h2 h5.2
      by_cases q2 : σ.2 44 j ≠ 0
      · rw [if_pos q2, if_pos q2]
      · rw [if_neg q2, if_neg q2]
        by_cases q3 : zhkD (sel σ j) (σ.2 45 j) = true
        · rw [if_neg (not_not_intro q3), if_neg (not_not_intro (eg.mpr q3))]
          have hall := (zhk_of q3).2
          have e : zleast (zbeF τ σ j f.toInt.toNat n.toInt.toNat z) (σ.2 45 j) = zleast (zbestF σ j f.toInt.toNat n.toInt.toNat z) (σ.2 45 j) := by
            refine (zleast_cong (fun i hi => ?_)).1
            obtain ⟨k, hk, ek⟩ := zir_of (by decide) (hall i hi)
            unfold zbeF zbestF zkd
            rw [ag_means h hT.1, ← (sel_l hz hj h2 hi).2, ek, nI_N (by omega), iN_nI (by omega)]
          rw [e]
          by_cases q4 : zready τ
          · rw [if_neg (not_not_intro q4), if_neg (not_not_intro ((lk_ready h).mpr q4))]
          · rw [if_pos q4, if_pos (show ¬ zready σ from fun x => q4 ((lk_ready h).mp x))]
        · rw [if_pos q3, if_pos (fun x => q3 (eg.mp x))]
  · rw [if_pos q, if_pos q]
theorem lk_judge (h : zAg (zf σ) τ) (hT : tOk τ) (hF : zTh (τ.1 4) F (σ.2 14)) (hs : zSh σ) (hz : zint σ) (hpos : zready σ → 0 < zsum (σ.2 14) (σ.1 4)) {d : Int32} : zjuS τ σ F d = zjudgeS σ d := by
  have hn := hT.1.2.1
  unfold zjuS zjudgeS
  by_cases q : zir d 8
  · rw [if_neg (not_not_intro q), if_neg (not_not_intro q)]
    by_cases q2 : zready τ
    · rw [if_neg (not_not_intro q2), if_neg (not_not_intro ((lk_ready h).mpr q2))]
      obtain ⟨j, hj, rfl⟩ := zir_of (by decide) q
      by_cases h2 : σ.2 41 j = 2
      · rw [zrowK_2 hj h2, nI_N (by omega), if_neg (not_not_intro h2), if_neg z0_lt]
        have h5 := hs.2.2 j hj h2
        have hsum := lk_sumF h hn hF
        have hp := hpos ((lk_ready h).mpr q2)
        have e : zfirst (zjuC (sel σ j) (σ.2 45 j) (σ.2 44 j) F) (τ.1 4) = zfirst (zjuP σ j) (τ.1 4) := by
          refine zfirst_cong (fun w hw => ?_)
          unfold zjuC zjuP
          refine decide_eq_decide.mpr ?_
          by_cases c : σ.2 45 j ≤ w
          · exact ⟨fun _ => Or.inl c, fun _ => Or.inl c⟩
          · obtain ⟨e1, e2⟩ := sel_l hz hj h2 (show w < σ.2 45 j by omega)
            have et : (¬ sel σ j w = zlst (σ.2 44 j)) ↔ lN (σ.2 46 (100 * j + w)) ≠ zskip (σ.2 44 j) := by
              rw [← e1]
              have es : zskip (σ.2 44 j) = (zlst (σ.2 44 j)).toInt64 := by
                unfold zskip zlst
                split
                · rfl
                · split <;> rfl
              rw [es]
              exact not_congr ⟨fun x => by rw [x], fun x => by have := congrArg Int64.toInt32 x; rwa [Int32.toInt32_toInt64, Int32.toInt32_toInt64] at this⟩
            have ev : lN (if 0 < zsum F 5 then 100 * F w / zsum F 5 else 0) = lN (σ.2 14 w * 100 / zsum (σ.2 14) (σ.1 4)) := by
              rw [hsum, if_pos hp, hF.2 w hw, Nat.mul_comm]
            rw [et, e1, ev]
        unfold zfmC
        rw [e, (lk_fields h).2.1]
      · have x := shL_ro (xd := nI j) (fun x => h2 (by have := x.2; rw [nI_N (by omega)] at this; exact this)) hs
        rw [nI_N (by omega), if_pos h2, if_pos x.2]
        exact x.1
    · rw [if_pos q2, if_pos (show ¬ zready σ from fun x => q2 ((lk_ready h).mp x))]
  · rw [if_pos q, if_pos q]
theorem lk_element (hs : zSh σ) (hz : zint σ) {d i : Int32} : zelC σ d i = zelS σ d i := by
  unfold zelC zelS
  by_cases q : 0 < zelT σ d i
  · rw [if_pos q, if_pos q]
  · rw [if_neg q, if_neg q]
    unfold zelT at q
    by_cases q1 : zrowK σ d = -1
    · rw [if_pos q1] at q; exact absurd (by decide) q
    · rw [if_neg q1] at q
      by_cases q2 : zrowK σ d < 0 ∨ ¬ zir i (σ.2 45 d.toInt.toNat)
      · rw [if_pos q2] at q; exact absurd (by decide) q
      · have hd : zir d 8 := by
          rcases Decidable.em (zir d 8) with g | g
          · exact g
          · exact absurd (zrowK_n g) q1
        obtain ⟨j, hj, rfl⟩ := zir_of (by decide) hd
        have h2 : σ.2 41 j = 2 := by
          rcases Nat.decEq (σ.2 41 j) 2 with g | g
          · exact absurd (Or.inl (shL_ro (xd := nI j) (fun x => g (by have := x.2; rw [nI_N (by omega)] at this; exact this)) hs).2) q2
          · exact g
        have hi : zir i (σ.2 45 (nI j).toInt.toNat) := by
          rcases Decidable.em (zir i (σ.2 45 (nI j).toInt.toNat)) with g | g
          · exact g
          · exact absurd (Or.inr g) q2
        rw [nI_N (by omega)] at hi ⊢
        exact (sel_l hz hj h2 (zir_N2 (by have := (hs.2.2 j hj h2).2; omega) hi)).1
end LW
