/-! THE RELATION ALONG LAND -/
theorem zRA_of {σ u : MS} (hl : lOk u) (hb : zbd u) (hu : ∀ j, (j = 28 ∨ (40 < j ∧ j < 47)) → u.1 j = σ.1 j ∧ u.2 j = σ.2 j) (hW : zWok (u.2 27)) (h14 : ∀ w, w < u.1 4 → u.2 14 w ≤ 100000000000) (hp : zsum (u.2 5) (u.1 4) = 100 → 0 < zsum (u.2 14) (u.1 4)) (h : zRA σ) : zRA u := by
  obtain ⟨a1, a2, a3, a4, a5⟩ := h
  refine ⟨hl, ?_, hb, ?_, ?_⟩
  · obtain ⟨m1, m2, m3, m4, m5, m6, m7⟩ := a2
    unfold mSh
    rw [(hu 41 (by decide)).2, (hu 42 (by decide)).2, (hu 43 (by decide)).2, (hu 44 (by decide)).2, (hu 45 (by decide)).2, (hu 28 (by decide)).1]
    exact ⟨m1, m2, m3, h14, hW, m6, hp⟩
  · unfold zint
    rw [(hu 41 (by decide)).2, (hu 45 (by decide)).2, (hu 46 (by decide)).2]
    exact a4
  · unfold zbyt
    rw [(hu 41 (by decide)).2, (hu 44 (by decide)).2, (hu 45 (by decide)).2, (hu 46 (by decide)).2]
    exact a5
theorem zkp_Ld {σ u : MS} (h : zkp σ u) : zLd u σ := ⟨h.1, h.2.1, h.2.2.1, h.2.2.2.1, fun k _ => congrFun h.2.2.2.2.1 k⟩
theorem zlan_cong {σ τ : MS} {d : Int32} (hs : zSh σ) (hL : zLd τ σ) (hl : lOk σ) (t : Nat → Nat) : zlanR σ τ d t = zlnR σ d := by
  unfold zlnR zlanR
  by_cases q1 : zrowK σ d < 0
  · rw [if_pos q1, if_pos q1]
  · rw [if_neg q1, if_neg q1]
    by_cases q2 : σ.2 44 d.toInt.toNat ≠ 0
    · rw [if_pos q2, if_pos q2]
    · rw [if_neg q2, if_neg q2]
      obtain ⟨v1, v2⟩ := zrowK_in hs.1 (Int32.not_lt.mp q1)
      obtain ⟨dn, hd, rfl⟩ := zi_in (n := 8) (by decide) v1
      rw [nI_N (by omega)] at v2 ⊢
      exact (zrd_cong (hs.2.2 dn hd v2).2 hL hl).1
theorem zRel_land {σ u τ τi : MS} {F F5 : Nat → Nat} {hi : Nat} {d : Int32} {t : Nat → Nat} (h : zRel σ τ τi F F5 hi) (hu : zlnP σ d u) : zRel u (zlanT σ τ F d t).1 τi (zlanT σ τ F d t).2 F5 hi := by
  have hs := zRel_sh h
  have hR := zlan_cong (d := d) hs (zLd_s h.2.1.1) h.1.1 t
  obtain ⟨a, ⟨b1, b2, b3, b4, b5, b6, b7⟩, ⟨d1, d2, d3, d4⟩⟩ := h
  obtain ⟨u1, u2, ⟨u3, u3b⟩, u4, u5⟩ := hu
  have ue := fun j (q : j = 28 ∨ j = 37 ∨ j = 38 ∨ (40 < j ∧ j < 47)) => u1 j (nScr j (by omega)) (by omega)
  have uI : u.1 37 = hi ∧ u.2 38 = σ.2 38 := ⟨(ue 37 (by decide)).1.trans d3, (ue 38 (by decide)).2⟩
  unfold zlanT
  rw [hR]
  by_cases q : 0 < zlnR σ d
  · rw [if_neg (fun x => x q)]
    obtain ⟨e1, e2⟩ := u5 q
    have q1 : ¬ zrowK σ d < 0 := fun x => by
      unfold zlnR zlanR at q
      rw [if_pos x] at q
      exact absurd x (Int32.not_lt.mpr (Int32.le_of_lt q))
    obtain ⟨v1, v2⟩ := zrowK_in hs.1 (Int32.not_lt.mp q1)
    obtain ⟨dn, hd, rfl⟩ := zi_in (n := 8) (by decide) v1
    rw [nI_N (by omega)] at v2 e1 ⊢
    have hn := (hs.2.2 dn hd v2).2
    have c := (zrd_cong (h := zbA (sel σ dn) (σ.2 45 dn)) (n := σ.2 45 dn) hn (t := fun _ => 0) (t' := t) b1 b2).2
    have ou : zLd u (zlnT σ dn) := zLd_eq (fun j x => by
      have y := congrFun (congrArg Prod.fst e1) j
      have y : (if zla j then u.1 j else σ.1 j) = if zla j then (zlnT σ dn).1 j else σ.1 j := y
      rw [if_pos x, if_pos x] at y
      exact y) (fun j x => by
      have y := congrFun (congrArg Prod.snd e1) j
      have y : (if zlb j then u.2 j else σ.2 j) = if zlb j then (zlnT σ dn).2 j else σ.2 j := y
      rw [if_pos x, if_pos x] at y
      exact y)
    have lu := zLd_t ou c
    have ol : lOk (zrdT (zbA (sel σ dn) (σ.2 45 dn)) (σ.2 45 dn) τ t) := zrdT_lOk b2
    obtain ⟨r1, r2, r3, r4, r5, r6⟩ := zRT_work lu ol b3 b5 b6
    have h5 : u.1 4 ≤ 5 := u3.1.2.1
    have w14 : ∀ w, w < u.1 4 → u.2 14 w = u.2 5 w := fun w hw => by rw [e2, zcp_in hw]
    have w5 : ∀ w, w < u.1 4 → u.2 5 w ≤ 100 := fun w hw => (u3.1.2.2.2.2.1 w hw).2.1
    refine ⟨zRA_of u3 u3b (fun j x => ue j (by omega)) u2 (fun w hw => by rw [w14 w hw]; have := w5 w hw; omega) (fun x => ?_) a, ⟨r1, r2, r3, r4, r5, r6, ?_⟩, ⟨d1, d2, uI.1, by rw [uI.2]; exact d4⟩⟩
    · rw [zsum_cong (g := u.2 5) (u.1 4) w14, x]; decide
    · have k4 := r1.1.2.1
      have ag := zAg_of r1 ((ue 28 (by decide)).1.trans (a.2.1.2.2.2.2.2.1.trans r6.symm)) u3.1 r2.1 r4
      have hc := lk_ch5 ag r2.1
      refine ⟨hc.1, fun w hw => ?_⟩
      exact (hc.2 w hw).trans (w14 w (by rw [k4]; exact hw)).symm
  · rw [if_pos q]
    have kp := u4 q
    have kL := zkp_Ld kp
    have k4 := kL.1.2.1
    have k14 := kp.2.2.2.2.2
    refine ⟨zRA_of u3 u3b (fun j x => ue j (by omega)) u2 (fun w hw => by rw [k14]; exact a.2.1.2.2.2.1 w (by omega)) (fun x => ?_) a, ⟨zLd_t kL b1, b2, b3, b4, b5, b6, by rw [k14]; exact b7⟩, ⟨d1, d2, uI.1, by rw [uI.2]; exact d4⟩⟩
    rw [k14, k4]
    refine a.2.1.2.2.2.2.2.2 ?_
    rw [← x, k4]
    exact zsum_cong _ (fun w hw => ((kL.2.2.1 w hw).1).symm)
