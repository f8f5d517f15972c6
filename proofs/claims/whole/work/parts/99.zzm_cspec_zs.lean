/-! THE RELATION ALONG THE CALLS: put, copy, set -/
theorem znar_i (v : Int32) (t : Nat) : (lN (lNN (znar v t))).toInt32.toInt64 = lN (lNN (znar v t)) := by
  rw [znar_low, lN_lNN]
  unfold zlow znar
  split
  · rfl
  · split
    · rfl
    · rfl
theorem znar_b (v : Int32) : lNN (znar v 0) < 128 ∨ (18446744073709551488 ≤ lNN (znar v 0) ∧ lNN (znar v 0) < 18446744073709551616) := by
  have e : znar v 0 = v.toInt8.toInt32.toInt64 := if_pos rfl
  rw [e]
  have h1 : (v.toInt8.toInt32.toInt64).toInt = v.toInt8.toInt := by simp
  have h2 := Int8.le_toInt v.toInt8
  have h3 := Int8.toInt_lt v.toInt8
  have h4 : (v.toInt8.toInt32.toInt64).toInt = (v.toInt8.toInt32.toInt64).toBitVec.toInt := rfl
  rw [BitVec.toInt_eq_toNat_cond] at h4
  have h5 := (v.toInt8.toInt32.toInt64).toBitVec.isLt
  unfold lNN
  split at h4 <;> omega
theorem zRel_put {σ u τ τi : MS} {F F5 : Nat → Nat} {hi : Nat} {d i v : Int32} (h : zRel σ τ τi F F5 hi) (hu : mEq (zputT σ d i v) u) : zRel u τ τi F F5 hi := by
  refine zRel_St ?_ (mEq_St hu)
  unfold zputT
  by_cases q1 : zrowK σ d < 0
  · rw [if_pos q1]; exact h
  · rw [if_neg q1]
    obtain ⟨s1, s2, s3⟩ := zRel_sh h
    obtain ⟨v1, v2⟩ := zrowK_in s1 (Int32.not_lt.mp q1)
    obtain ⟨dn, hd, rfl⟩ := zi_in (n := 8) (by decide) v1
    rw [nI_N (by omega)] at v2 ⊢
    by_cases q2 : zir i (σ.2 45 dn)
    · rw [if_neg (fun x => x q2)]
      have h100 := (s3 dn hd v2).2
      obtain ⟨jn, hj, rfl⟩ := zi_in (n := σ.2 45 dn) (by omega) q2
      rw [nI_N (by omega)]
      have e46 : ∀ a, (sE σ 46 (100 * dn + jn) (lNN (znar v (σ.2 44 dn)))).2 46 a = if a = 100 * dn + jn then lNN (znar v (σ.2 44 dn)) else σ.2 46 a := fun a => rfl
      refine zRel_46 h rfl (fun j hj => if_neg (by omega)) ⟨s1, s2, s3⟩ (fun j i hj q hi2 => ?_) (fun j i hj q q0 hi2 => ?_)
      · rw [e46]
        by_cases e : 100 * j + i = 100 * dn + jn
        · rw [if_pos e]; exact znar_i v _
        · rw [if_neg e]; exact h.1.2.2.2.1 j i hj q hi2
      · rw [e46]
        by_cases e : 100 * j + i = 100 * dn + jn
        · have hi2 : i < σ.2 45 j := hi2
          have := (s3 j hj q).2
          have ej : j = dn := by omega
          subst ej
          have q0 : σ.2 44 j = 0 := q0
          rw [if_pos e, q0]
          exact znar_b v
        · rw [if_neg e]; exact h.1.2.2.2.2 j i hj q q0 hi2
    · rw [if_pos q2]; exact h
theorem zRel_copy {σ u τ τi : MS} {F F5 : Nat → Nat} {hi : Nat} {d i e j n : Int32} (h : zRel σ τ τi F F5 hi) (hu : mEq (zcopyT σ d i e j n) u) : zRel u τ τi F F5 hi := by
  refine zRel_St ?_ (mEq_St hu)
  unfold zcopyT
  split
  · exact h
  rename_i q1
  split
  · exact h
  split
  · exact h
  rename_i q2
  split
  · exact h
  rename_i q3
  have q1 : zir d 8 ∧ zir e 8 := Decidable.not_not.mp q1
  have q2 : zcop2 σ d e := Decidable.not_not.mp q2
  have q3 : zcopV σ d i e j n := Decidable.not_not.mp q3
  obtain ⟨s1, s2, s3⟩ := zRel_sh h
  obtain ⟨dn, hd, rfl⟩ := zi_in (n := 8) (by decide) q1.1
  obtain ⟨en, he, rfl⟩ := zi_in (n := 8) (by decide) q1.2
  unfold zcop2 at q2
  unfold zcopV at q3
  rw [nI_N (show dn < 2147483648 by omega), nI_N (show en < 2147483648 by omega)] at q2 q3 ⊢
  obtain ⟨r1, r2, r3⟩ := q2
  obtain ⟨p1, p2, p3, p4, p5⟩ := q3
  have hdn := (s3 dn hd r1).2
  have hen := (s3 en he r2).2
  have e46 : ∀ a, (sA σ 46 (zlay (fun k => σ.2 46 (100 * dn + i.toInt.toNat + k)) (σ.2 46) (100 * en + j.toInt.toNat) n.toInt.toNat)).2 46 a = if 100 * en + j.toInt.toNat ≤ a ∧ a < 100 * en + j.toInt.toNat + n.toInt.toNat then σ.2 46 (100 * dn + i.toInt.toNat + (a - (100 * en + j.toInt.toNat))) else σ.2 46 a := fun a => rfl
  refine zRel_46 h rfl (fun k hk => zsA_j (by omega)) ⟨s1, s2, s3⟩ (fun k a hk q ha => ?_) (fun k a hk q q0 ha => ?_)
  · rw [e46]
    have ha : a < σ.2 45 k := ha
    have := (s3 k hk q).2
    by_cases c : 100 * en + j.toInt.toNat ≤ 100 * k + a ∧ 100 * k + a < 100 * en + j.toInt.toNat + n.toInt.toNat
    · rw [if_pos c]
      have ek : k = en := by omega
      subst ek
      have hx := h.1.2.2.2.1 dn (i.toInt.toNat + (a - j.toInt.toNat)) hd r1 (by omega)
      rw [show 100 * dn + i.toInt.toNat + (100 * k + a - (100 * k + j.toInt.toNat)) = 100 * dn + (i.toInt.toNat + (a - j.toInt.toNat)) by omega]
      exact hx
    · rw [if_neg c]; exact h.1.2.2.2.1 k a hk q ha
  · rw [e46]
    have ha : a < σ.2 45 k := ha
    have := (s3 k hk q).2
    by_cases c : 100 * en + j.toInt.toNat ≤ 100 * k + a ∧ 100 * k + a < 100 * en + j.toInt.toNat + n.toInt.toNat
    · rw [if_pos c]
      have ek : k = en := by omega
      subst ek
      have q0 : σ.2 44 k = 0 := q0
      have hx := h.1.2.2.2.2 dn (i.toInt.toNat + (a - j.toInt.toNat)) hd r1 (by rw [r3]; exact q0) (by omega)
      rw [show 100 * dn + i.toInt.toNat + (100 * k + a - (100 * k + j.toInt.toNat)) = 100 * dn + (i.toInt.toNat + (a - j.toInt.toNat)) by omega]
      exact hx
    · rw [if_neg c]; exact h.1.2.2.2.2 k a hk q q0 ha
theorem lOk_f {σ τ : MS} (h : lOk σ) (h0 : τ.1 0 = σ.1 0) (h4 : τ.1 4 = σ.1 4) (h8 : τ.1 8 = σ.1 8) (h2 : τ.2 = σ.2) (h12 : τ.1 12 < 8) (h13 : τ.1 13 ≤ 30) : lOk τ := by
  obtain ⟨⟨k0, k4, k8, kr, kw, ks, kmet, kmt, k12, k13⟩, hs, hz, h7, h6⟩ := h
  unfold lOk mOk mZ
  rw [h0, h4, h8, h2]
  exact ⟨⟨k0, k4, k8, kr, kw, ks, kmet, kmt, h12, h13⟩, hs, hz, h7, h6⟩
theorem zRel_12 {σ τ τi : MS} {F F5 : Nat → Nat} {hi a : Nat} (h : zRel σ τ τi F F5 hi) (ha : a < 8) : zRel (sF (sF σ 12 a) 13 (σ.1 13)) (sF τ 12 a) τi F F5 hi := by
  obtain ⟨⟨a1, a2, a3, a4, a5⟩, ⟨b1, b2, b3, b4, b5, b6, b7⟩, hI⟩ := h
  have t13 : τ.1 13 ≤ 30 := b2.1.2.2.2.2.2.2.2.2.2
  have s13 : σ.1 13 ≤ 30 := a1.1.2.2.2.2.2.2.2.2.2
  have lt : lOk (sF τ 12 a) := lOk_f b2 rfl rfl rfl rfl ha t13
  refine ⟨⟨lOk_f a1 rfl rfl rfl rfl ha s13, a2, a3, a4, a5⟩, ⟨⟨⟨b1.1.1, b1.1.2.1, b1.1.2.2.1, rfl, b1.1.2.2.2.2⟩, b1.2⟩, lt, ⟨lt.1, b3.2⟩, ?_, b5, b6, b7⟩, hI⟩
  exact zWd_like (υ := τ) ⟨⟨rfl, rfl⟩, fun _ _ => ⟨rfl, rfl, rfl⟩, fun _ _ => ⟨rfl, rfl, rfl⟩⟩ rfl lt.1 b2.1 b4
theorem zRel_13 {σ τ τi : MS} {F F5 : Nat → Nat} {hi a : Nat} (h : zRel σ τ τi F F5 hi) (ha : a ≤ 30) : zRel (sF (sF σ 12 (σ.1 12)) 13 a) (sF τ 13 a) τi F F5 hi := by
  obtain ⟨⟨a1, a2, a3, a4, a5⟩, ⟨b1, b2, b3, b4, b5, b6, b7⟩, hI⟩ := h
  have t12 : τ.1 12 < 8 := b2.1.2.2.2.2.2.2.2.2.1
  have s12 : σ.1 12 < 8 := a1.1.2.2.2.2.2.2.2.2.1
  have lt : lOk (sF τ 13 a) := lOk_f b2 rfl rfl rfl rfl t12 ha
  refine ⟨⟨lOk_f a1 rfl rfl rfl rfl s12 ha, a2, a3, a4, a5⟩, ⟨⟨⟨b1.1.1, b1.1.2.1, b1.1.2.2.1, b1.1.2.2.2.1, rfl⟩, b1.2⟩, lt, ⟨lt.1, b3.2⟩, ?_, b5, b6, b7⟩, hI⟩
  exact zWd_like (υ := τ) ⟨⟨rfl, rfl⟩, fun _ _ => ⟨rfl, rfl, rfl⟩, fun _ _ => ⟨rfl, rfl, rfl⟩⟩ rfl lt.1 b2.1 b4
theorem zRel_set {σ u τ τi : MS} {F F5 : Nat → Nat} {hi : Nat} {k x : Int32} (h : zRel σ τ τi F F5 hi) (hu : mEq (zsetT σ k x) u) : zRel u (zsetC τ k x) τi F F5 hi := by
  refine zRel_St ?_ (mEq_St hu)
  unfold zsetT zsetC
  by_cases c0 : k = nI 0 ∧ zir x 8
  · rw [if_pos c0, if_pos c0]
    obtain ⟨xn, hx, rfl⟩ := zi_in (n := 8) (by decide) c0.2
    rw [nI_N (by omega)]
    exact zRel_12 h hx
  · rw [if_neg c0, if_neg c0]
    by_cases c1 : k = nI 1 ∧ zir x 31
    · rw [if_pos c1, if_pos c1]
      obtain ⟨xn, hx, rfl⟩ := zi_in (n := 31) (by decide) c1.2
      rw [nI_N (by omega)]
      exact zRel_13 h (by omega)
    · rw [if_neg c1, if_neg c1]
      exact h
