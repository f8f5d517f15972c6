/-! THE RELATION ALONG THE CALLS: thoughts and shelves -/
theorem zRel_kT {σ T u τ τi : MS} {F F' F5 H : Nat → Nat} {hi : Nat} (h : zRel σ τ τi F F5 hi) (hT : T = σ ∨ T = zkeepT σ H) (hu : mEq T u) (hF : zTh (τ.1 4) F' (T.2 14)) : zRel u τ τi F' F5 hi := by
  have e14 := (hu.1 14 (nScr 14 (by decide))).2
  have old := h.1.2.1.2.2.2.2.2.2
  have hk : zSt4 σ u ∧ (zsum (σ.2 5) (σ.1 4) = 100 → 0 < zsum (u.2 14) (σ.1 4)) := by
    rcases hT with e | e
    · refine ⟨⟨fun j a _ _ => by rw [← e]; exact hu.1 j a, hu.2⟩, fun q => ?_⟩
      rw [e14, e]
      exact old q
    · by_cases z : zgall H (σ.1 4) = 0
      · have e2 : T = σ := by rw [e]; exact if_pos z
        refine ⟨⟨fun j a _ _ => by rw [← e2]; exact hu.1 j a, hu.2⟩, fun q => ?_⟩
        rw [e14, e2]
        exact old q
      · have e2 : T = sA σ 14 (zcp (zset (σ.1 4) H) (σ.2 14) (σ.1 4)) := by rw [e]; exact if_neg z
        refine ⟨⟨fun j a _ c => ?_, hu.2⟩, fun q => ?_⟩
        · have x := hu.1 j a
          rw [e2] at x
          exact ⟨x.1, x.2.trans (zsA_j c)⟩
        · rw [e14, e2]
          show 0 < zsum (zcp (zset (σ.1 4) H) (σ.2 14) (σ.1 4)) (σ.1 4)
          rw [zsum_cong (g := zset (σ.1 4) H) (σ.1 4) (fun w hw => zcp_in hw)]
          exact zset_pos z
  exact zRel_14 h hk.1 (by rw [e14]; exact hF) hk.2
theorem zT_answer (σ : MS) (c a : Int32) : zanswerT σ c a = σ ∨ zanswerT σ c a = zkeepT σ (zansH σ c a) := by
  unfold zanswerT
  split
  · exact Or.inl rfl
  · split
    · exact Or.inl rfl
    · exact Or.inr rfl
theorem zT_found (σ : MS) (r : Int32) (b : Nat) : zfoundT σ r b = σ ∨ zfoundT σ r b = zkeepT σ (zfndH σ r b) := by
  unfold zfoundT
  split
  · exact Or.inl rfl
  · split
    · exact Or.inl rfl
    · exact Or.inr rfl
theorem zT_same (σ : MS) (c a q : Int32) : zsameT σ c a q = σ ∨ zsameT σ c a q = zkeepT σ (zsamH σ c a q) := by
  unfold zsameT
  split
  · exact Or.inl rfl
  · split
    · exact Or.inl rfl
    · exact Or.inr rfl
theorem zRel_anew {σ u τ τi : MS} {F F5 : Nat → Nat} {hi : Nat} (h : zRel σ τ τi F F5 hi) (hu : mEq (zanewT σ) u) : zRel u τ τi (if zready τ then zch5 τ else F) F5 hi := by
  have hF := lk_anewF (zRel_ag h) h.2.1.2.1.1 h.2.1.2.2.2.2.2.2
  have e14 := (hu.1 14 (nScr 14 (by decide))).2
  by_cases z : zready σ
  · have e2 : zanewT σ = sA σ 14 (zcp (σ.2 5) (σ.2 14) (σ.1 4)) := if_pos z
    refine zRel_14 h ⟨fun j a _ c => ?_, hu.2⟩ (by rw [e14]; exact hF) (fun q => ?_)
    · have x := hu.1 j a
      rw [e2] at x
      exact ⟨x.1, x.2.trans (zsA_j c)⟩
    · rw [e14, e2]
      show 0 < zsum (zcp (σ.2 5) (σ.2 14) (σ.1 4)) (σ.1 4)
      rw [zsum_cong (g := σ.2 5) (σ.1 4) (fun w hw => zcp_in hw), q]
      decide
  · have e2 : zanewT σ = σ := if_neg z
    refine zRel_14 h ⟨fun j a _ _ => by rw [← e2]; exact hu.1 j a, hu.2⟩ (by rw [e14]; exact hF) (fun q => absurd q z)
theorem zRel_46 {σ T τ τi : MS} {F F5 : Nat → Nat} {hi : Nat} (h : zRel σ τ τi F F5 hi) (h1 : T.1 = σ.1) (h2 : ∀ j, (j < 41 ∨ 46 < j) → T.2 j = σ.2 j) (hs : zSh T) (hz : zint T) (hb : zbyt T) : zRel T τ τi F F5 hi := by
  obtain ⟨⟨a1, a2, a3, a4, a5⟩, ⟨b1, b2, b3, b4, b5, b6, b7⟩, ⟨d1, d2, d3, d4⟩⟩ := h
  refine ⟨⟨lOk_eq (fun j q => by rw [h1]) (fun j q => h2 j (by omega)) a1, ?_, zbd_eq (fun j q => h2 j (by omega)) a3, hz, hb⟩, ⟨zLd_t (zLd_eq (fun j q => by rw [h1]) (fun j q => h2 j (by omega))) b1, b2, b3, b4, b5, b6, by rw [h2 14 (by decide)]; exact b7⟩, ⟨d1, d2, by rw [h1]; exact d3, by rw [h2 38 (by decide)]; exact d4⟩⟩
  obtain ⟨m1, m2, m3, m4, m5, m6, m7⟩ := a2
  refine ⟨hs.1, hs.2.1, hs.2.2, ?_, ?_, ?_, ?_⟩
  · rw [h1, h2 14 (by decide)]; exact m4
  · rw [h2 27 (by decide)]; exact m5
  · rw [h1]; exact m6
  · rw [h1, h2 14 (by decide), h2 5 (by decide)]; exact m7
theorem zRel_sh {σ τ τi : MS} {F F5 : Nat → Nat} {hi : Nat} (h : zRel σ τ τi F F5 hi) : zSh σ := ⟨h.1.2.1.1, h.1.2.1.2.1, h.1.2.1.2.2.1⟩
theorem mEq_St {σ u : MS} (h : mEq σ u) : zSt σ u := ⟨fun j a _ => h.1 j a, h.2⟩
theorem zRel_keep {σ u τ τi : MS} {F F5 : Nat → Nat} {hi : Nat} {d w k f : Int32} (h : zRel σ τ τi F F5 hi) (hu : mEq (zkeepTT σ d w k f) u) : zRel u τ τi F F5 hi := by
  refine zRel_St ?_ (mEq_St hu)
  unfold zkeepTT
  by_cases v : zkeepV d w k f
  · rw [if_pos v]
    obtain ⟨v1, v2, v3⟩ := v
    obtain ⟨dn, hd, rfl⟩ := zi_in (n := 8) (by decide) v1
    obtain ⟨wn, hw, rfl⟩ := zi_in (n := 2) (by decide) v2
    rw [nI_N (by omega), nI_N (by omega)]
    obtain ⟨s1, s2, s3⟩ := zRel_sh h
    have e41 : ∀ j, (sE (sE (sE σ 41 dn wn) 42 dn (iN k)) 43 dn (iN f)).2 41 j = if j = dn then wn else σ.2 41 j := fun j => rfl
    have e42 : ∀ j, (sE (sE (sE σ 41 dn wn) 42 dn (iN k)) 43 dn (iN f)).2 42 j = if j = dn then iN k else σ.2 42 j := fun j => rfl
    have e43 : ∀ j, (sE (sE (sE σ 41 dn wn) 42 dn (iN k)) 43 dn (iN f)).2 43 j = if j = dn then iN f else σ.2 43 j := fun j => rfl
    refine zRel_46 h rfl (fun j hj => ?_) ⟨fun j hj => ?_, fun j hj q => ?_, fun j hj q => ?_⟩ (fun j i hj q hi2 => ?_) (fun j i hj q q0 hi2 => ?_)
    · show (if j = 43 then _ else if j = 42 then _ else if j = 41 then _ else σ.2 j) = _
      rw [if_neg (by omega), if_neg (by omega), if_neg (by omega)]
    · rw [e41]
      split
      · omega
      · exact s1 j hj
    · rw [e41] at q
      rw [e42, e43]
      by_cases e : j = dn
      · rw [if_pos e] at q
        rw [if_pos e, if_pos e]
        subst q
        obtain ⟨vk, vf⟩ := v3 rfl
        obtain ⟨kn, hk, rfl⟩ := zi_in (n := 6) (by decide) vk
        obtain ⟨fn, hf, rfl⟩ := zi_in (n := 100) (by decide) vf
        rw [iN_nI (by omega), iN_nI (by omega)]
        exact ⟨hk, hf⟩
      · rw [if_neg e] at q
        rw [if_neg e, if_neg e]
        exact s2 j hj q
    · rw [e41] at q
      by_cases e : j = dn
      · rw [if_pos e] at q; omega
      · rw [if_neg e] at q; exact s3 j hj q
    · rw [e41] at q
      by_cases e : j = dn
      · rw [if_pos e] at q; omega
      · rw [if_neg e] at q; exact h.1.2.2.2.1 j i hj q hi2
    · rw [e41] at q
      by_cases e : j = dn
      · rw [if_pos e] at q; omega
      · rw [if_neg e] at q; exact h.1.2.2.2.2 j i hj q q0 hi2
  · rw [if_neg v]
    exact h
theorem zRel_row {σ u τ τi : MS} {F F5 : Nat → Nat} {hi : Nat} {d t n : Int32} (h : zRel σ τ τi F F5 hi) (hu : mEq (zrowT σ d t n) u) : zRel u τ τi F F5 hi := by
  refine zRel_St ?_ (mEq_St hu)
  unfold zrowT
  by_cases v : zrowV d t n
  · rw [if_neg (fun q => q v)]
    by_cases v0 : n < 0
    · rw [if_pos v0]
      exact h
    · rw [if_neg v0]
      obtain ⟨v1, v2, v3⟩ := v
      obtain ⟨dn, hd, rfl⟩ := zi_in (n := 8) (by decide) v1
      obtain ⟨tn, ht, rfl⟩ := zi_in (n := 3) (by decide) v2
      obtain ⟨nn, hn, rfl⟩ := zi_nn v3 v0
      rw [nI_N (by omega), nI_N (by omega), nI_N (by omega)]
      obtain ⟨s1, s2, s3⟩ := zRel_sh h
      have e41 : ∀ j, (sA (sE (sE (sE σ 41 dn 2) 44 dn tn) 45 dn nn) 46 (zrw (σ.2 46) dn 100)).2 41 j = if j = dn then 2 else σ.2 41 j := fun j => rfl
      have e44 : ∀ j, (sA (sE (sE (sE σ 41 dn 2) 44 dn tn) 45 dn nn) 46 (zrw (σ.2 46) dn 100)).2 44 j = if j = dn then tn else σ.2 44 j := fun j => rfl
      have e45 : ∀ j, (sA (sE (sE (sE σ 41 dn 2) 44 dn tn) 45 dn nn) 46 (zrw (σ.2 46) dn 100)).2 45 j = if j = dn then nn else σ.2 45 j := fun j => rfl
      have e46 : ∀ a, (sA (sE (sE (sE σ 41 dn 2) 44 dn tn) 45 dn nn) 46 (zrw (σ.2 46) dn 100)).2 46 a = if 100 * dn ≤ a ∧ a < 100 * dn + 100 then 0 else σ.2 46 a := fun a => rfl
      refine zRel_46 h rfl (fun j hj => ?_) ⟨fun j hj => ?_, fun j hj q => ?_, fun j hj q => ?_⟩ (fun j i hj q hi2 => ?_) (fun j i hj q q0 hi2 => ?_)
      · show (if j = 46 then _ else if j = 45 then _ else if j = 44 then _ else if j = 41 then _ else σ.2 j) = _
        rw [if_neg (by omega), if_neg (by omega), if_neg (by omega), if_neg (by omega)]
      · rw [e41]
        split
        · omega
        · exact s1 j hj
      · rw [e41] at q
        by_cases e : j = dn
        · rw [if_pos e] at q; omega
        · rw [if_neg e] at q; exact s2 j hj q
      · rw [e41] at q
        rw [e44, e45]
        by_cases e : j = dn
        · rw [if_pos e, if_pos e]; exact ⟨ht, by omega⟩
        · rw [if_neg e] at q
          rw [if_neg e, if_neg e]; exact s3 j hj q
      · rw [e41] at q
        rw [e45] at hi2
        rw [e46]
        by_cases e : j = dn
        · rw [if_pos e] at hi2
          rw [if_pos (by omega)]
          decide
        · rw [if_neg e] at q hi2
          have := (s3 j hj q).2
          rw [if_neg (by omega)]
          exact h.1.2.2.2.1 j i hj q hi2
      · rw [e41] at q
        rw [e44] at q0
        rw [e45] at hi2
        rw [e46]
        by_cases e : j = dn
        · rw [if_pos e] at hi2
          rw [if_pos (by omega)]
          omega
        · rw [if_neg e] at q q0 hi2
          have := (s3 j hj q).2
          rw [if_neg (by omega)]
          exact h.1.2.2.2.2 j i hj q q0 hi2
  · rw [if_pos v]
    exact h
