/-! WHAT A LAND IS TOLD -/
abbrev zaR (τ : MS) (a b c : Nat) : Prop := τ.1 0 < 16 ∧ a < 8 ∧ b < 8 ∧ a ≠ b ∧ 1 ≤ c ∧ c ≤ 60
def zaRT (τ : MS) (a b c : Nat) : MS := if zaR τ a b c then sF (sE (sE (sE τ 1 (τ.1 0) a) 2 (τ.1 0) b) 3 (τ.1 0) c) 0 (τ.1 0 + 1) else τ
abbrev zaW (τ : MS) (a b c : Nat) : Prop := τ.1 4 < 5 ∧ b < 8 ∧ c ≤ 65535 ∧ 1 ≤ a ∧ a ≤ 100 - zsum (τ.2 5) (τ.1 4)
def zaWT (τ : MS) (a b c : Nat) : MS := if zaW τ a b c then sF (sE (sE (sE τ 5 (τ.1 4) a) 6 (τ.1 4) b) 7 (τ.1 4) c) 4 (τ.1 4 + 1) else τ
abbrev zaS (τ : MS) (a b : Nat) : Prop := τ.1 8 < 6 ∧ a < 5 ∧ b < 100
def zaST (τ : MS) (a b : Nat) : MS := if zaS τ a b then sF (sE (sE τ 9 (τ.1 8) a) 10 (τ.1 8) b) 8 (τ.1 8 + 1) else τ
abbrev zaM (τ : MS) (a b c : Nat) : Prop := a < 8 ∧ b < τ.1 8 ∧ c ≤ 100 - zsum (fun s => τ.2 11 (6 * a + s)) (τ.1 8) + τ.2 11 (6 * a + b)
def zaMT (τ : MS) (a b c : Nat) : MS := if zaM τ a b c then sE τ 11 (6 * a + b) c else τ
def zaBT (τ : MS) (a : Nat) : MS := if a < 8 then sF τ 12 a else τ
def zaAT (τ : MS) (a : Nat) : MS := if a ≤ 30 then sF τ 13 a else τ
/-- two states alike in all that a land's cells show -/
def lEq (τ τ' : MS) : Prop := (τ.1 0 = τ'.1 0 ∧ τ.1 4 = τ'.1 4 ∧ τ.1 8 = τ'.1 8 ∧ τ.1 12 = τ'.1 12 ∧ τ.1 13 = τ'.1 13) ∧ (∀ i, i < 16 → τ.2 1 i = τ'.2 1 i ∧ τ.2 2 i = τ'.2 2 i ∧ τ.2 3 i = τ'.2 3 i) ∧ (∀ i, i < 5 → τ.2 5 i = τ'.2 5 i ∧ τ.2 6 i = τ'.2 6 i ∧ τ.2 7 i = τ'.2 7 i) ∧ (∀ i, i < 6 → τ.2 9 i = τ'.2 9 i ∧ τ.2 10 i = τ'.2 10 i) ∧ (∀ i, i < 48 → τ.2 11 i = τ'.2 11 i) ∧ (∀ i, i < 40 → τ.2 27 i = τ'.2 27 i ∧ τ.2 60 i = τ'.2 60 i) ∧ (∀ i, i < 8 → τ.2 61 i = τ'.2 61 i) ∧ ∀ i, i < 240 → τ.2 62 i = τ'.2 62 i
theorem lrows_cong {Z : Nat → ClassId} {b : Nat → Nat → Nat} {τ τ' : MS} {j J n k : Nat} (h : ∀ i, i < k * n → τ.2 J i = τ'.2 J i) : lrows Z b τ j J n k = lrows Z b τ' j J n k := by
  unfold lrows
  apply List.map_congr_left
  intro c hc
  have hc2 := List.mem_range.mp hc
  have e : zrow τ J k c = zrow τ' J k c := by
    funext i
    unfold zrow
    split
    · refine h _ ?_
      have : k * (c + 1) ≤ k * n := Nat.mul_le_mul_left k hc2
      rw [Nat.mul_succ] at this
      omega
    · rfl
  rw [e]
theorem landP_cong {Z : Nat → ClassId} {L : LA} {τ τ' : MS} (h : lEq τ τ') : landP Z L τ = landP Z L τ' := by
  obtain ⟨⟨f0, f4, f8, f12, f13⟩, a1, a5, a9, a11, a27, a61, a62⟩ := h
  have eo : landObj L.2.1 τ.1 = landObj L.2.1 τ'.1 := by unfold landObj; rw [f0, f4, f8, f12, f13]
  unfold landP
  rw [eo, zcl_cong (fun i hi => (a1 i hi).1), zcl_cong (fun i hi => (a1 i hi).2.1), zcl_cong (fun i hi => (a1 i hi).2.2), zcl_cong (fun i hi => (a5 i hi).1), zcl_cong (fun i hi => (a5 i hi).2.1), zcl_cong (fun i hi => (a5 i hi).2.2), zcl_cong (fun i hi => (a9 i hi).1), zcl_cong (fun i hi => (a9 i hi).2), zcl_cong (fun i hi => a61 i hi), lrows_cong (fun i hi => a11 i hi), lrows_cong (fun i hi => (a27 i hi).1), lrows_cong (fun i hi => (a27 i hi).2), lrows_cong (fun i hi => a62 i hi)]
/-- what another land was told, with the tables as they are -/
def zlike (τ τb : MS) : MS := (fun j => if j = 0 ∨ j = 4 ∨ j = 8 ∨ j = 12 ∨ j = 13 then τb.1 j else τ.1 j, fun j => if j = 1 ∨ j = 2 ∨ j = 3 ∨ j = 5 ∨ j = 6 ∨ j = 7 ∨ j = 9 ∨ j = 10 ∨ j = 11 then τb.2 j else τ.2 j)
theorem lrows_nA {Z : Nat → ClassId} {b : Nat → Nat → Nat} {τ : MS} {g : Nat → Nat} {j J J' n k : Nat} (h : J ≠ J') : lrows Z b (sA τ J' g) j J n k = lrows Z b τ j J n k := by
  unfold lrows zrow
  have e : (sA τ J' g).2 J = τ.2 J := if_neg h
  rw [e]
theorem lrows_setr {Z : Nat → ClassId} {b : Nat → Nat → Nat} {τ τb : MS} {g : Nat → Nat} {j J n k c : Nat} (hc : c < n) : (lrows Z b (sA τ J (zcp (τb.2 J) g (k * c))) j J n k).set c (b j c, .inl (Z 0, k, .inl (mi (zrow τb J k c)))) = lrows Z b (sA τ J (zcp (τb.2 J) g (k * (c + 1)))) j J n k := by
  apply List.ext_getElem?
  intro d
  rw [List.getElem?_set]
  by_cases hd : d < n
  · rw [lrows_at hd, lrows_at hd, lrows_len]
    have e0 : ∀ (x : Nat) (f : Nat → Nat), (sA τ J f).2 J x = f x := fun x f => by rw [sA_at]
    by_cases e : c = d
    · subst e
      rw [if_pos rfl, if_pos hc]
      have : zrow τb J k c = zrow (sA τ J (zcp (τb.2 J) g (k * (c + 1)))) J k c := by
        funext x
        unfold zrow
        rw [e0]
        by_cases hx : x < k
        · rw [if_pos hx, if_pos hx, zcp_in (by rw [Nat.mul_succ]; omega)]
        · rw [if_neg hx, if_neg hx]
      rw [this]
    · rw [if_neg e]
      have : zrow (sA τ J (zcp (τb.2 J) g (k * c))) J k d = zrow (sA τ J (zcp (τb.2 J) g (k * (c + 1)))) J k d := by
        funext x
        unfold zrow
        rw [e0, e0]
        by_cases hx : x < k
        · rw [if_pos hx, if_pos hx]
          rcases Nat.lt_or_ge c d with q | q
          · have h1 : k * (c + 1) ≤ k * d := Nat.mul_le_mul_left k q
            have h2 : k * c ≤ k * (c + 1) := Nat.mul_le_mul_left k (by omega)
            rw [zcp_out (by omega), zcp_out (by omega)]
          · have h1 : k * (d + 1) ≤ k * c := Nat.mul_le_mul_left k (by omega)
            have h2 : k * c ≤ k * (c + 1) := Nat.mul_le_mul_left k (by omega)
            rw [Nat.mul_succ] at h1
            rw [zcp_in (by omega), zcp_in (by omega)]
        · rw [if_neg hx, if_neg hx]
      rw [this]
  · rw [List.getElem?_eq_none (by rw [lrows_len]; omega), List.getElem?_eq_none (by rw [lrows_len]; omega), if_neg (by omega)]
theorem zrow_out {τ : MS} {J n c k : Nat} (h : n ≤ k) : zrow τ J n c k = 0 := if_neg (by omega)
theorem landP_rr {Z : Nat → ClassId} {L : LA} {τ τb : MS} {g : Nat → Nat} {c : Nat} (h : c < 8) : (landP Z L (sA τ 11 (zcp (τb.2 11) g (6 * c)))).set (c + 14) (L.2.2 11 c, .inl (Z 0, 6, .inl (mi (zrow τb 11 6 c)))) = landP Z L (sA τ 11 (zcp (τb.2 11) g (6 * (c + 1)))) := by
  have key : (lrows Z L.2.2 (sA τ 11 (zcp (τb.2 11) g (6 * c))) 11 11 8 6 ++ (lrows Z L.2.2 τ 14 27 5 8 ++ (lrows Z L.2.2 τ 15 60 5 8 ++ lrows Z L.2.2 τ 17 62 48 5))).set c (L.2.2 11 c, .inl (Z 0, 6, .inl (mi (zrow τb 11 6 c)))) = lrows Z L.2.2 (sA τ 11 (zcp (τb.2 11) g (6 * (c + 1)))) 11 11 8 6 ++ (lrows Z L.2.2 τ 14 27 5 8 ++ (lrows Z L.2.2 τ 15 60 5 8 ++ lrows Z L.2.2 τ 17 62 48 5)) := by
    rw [List.set_append_left _ _ (by rw [lrows_len]; omega), lrows_setr h]
  unfold landP
  rw [lrows_nA (J := 27) (J' := 11) (by decide), lrows_nA (J := 60) (J' := 11) (by decide), lrows_nA (J := 62) (J' := 11) (by decide), lrows_nA (J := 27) (J' := 11) (by decide), lrows_nA (J := 60) (J' := 11) (by decide), lrows_nA (J := 62) (J' := 11) (by decide)]
  exact congrArg (fun r => (L.1, Sum.inr (2, landObj L.2.1 τ.1)) :: (L.2.1 1, .inl (Z 0, 16, .inl (mi (zcl 16 (τ.2 1))))) :: (L.2.1 2, .inl (Z 0, 16, .inl (mi (zcl 16 (τ.2 2))))) :: (L.2.1 3, .inl (Z 0, 16, .inl (mi (zcl 16 (τ.2 3))))) :: (L.2.1 5, .inl (Z 0, 5, .inl (mi (zcl 5 (τ.2 5))))) :: (L.2.1 6, .inl (Z 0, 5, .inl (mi (zcl 5 (τ.2 6))))) :: (L.2.1 7, .inl (Z 0, 5, .inl (mi (zcl 5 (τ.2 7))))) :: (L.2.1 9, .inl (Z 0, 6, .inl (mi (zcl 6 (τ.2 9))))) :: (L.2.1 10, .inl (Z 0, 6, .inl (mi (zcl 6 (τ.2 10))))) :: (L.2.1 16, .inl (Z 0, 8, .inl (mi (zcl 8 (τ.2 61))))) :: (L.2.1 11, loutr Z L.2.2 11 8) :: (L.2.1 14, loutr Z L.2.2 14 5) :: (L.2.1 15, loutr Z L.2.2 15 5) :: (L.2.1 17, loutr Z L.2.2 17 48) :: r) key
