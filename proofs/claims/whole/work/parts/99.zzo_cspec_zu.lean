/-! THE RELATION ALONG THE CALLS: land -/
def zcn : List Nat → Nat | [] => 0 | w :: l => (if w = 100 ∨ w = 110 then 1 else 0) + zcn l
theorem ztd_in {h : Nat → Int32} : ∀ (l : List Nat) (a k : Nat) (t t' : Nat → Nat), (∀ j, j < k → t j = t' j) → (zpe h l a).1 = true → ∀ j, j < k + zcn l → j < 3 → ztd h l a k t j = ztd h l a k t' j
  | [], a, k, t, t', ht, _, j, hj, _ => ht j (by unfold zcn at hj; omega)
  | w :: l, a, k, t, t', ht, ho, j, hj, h3 => by
    rw [zcn] at hj
    rw [zpe] at ho
    by_cases q : zln h a w = 0
    · rw [if_pos q] at ho
      exact absurd (show false = true from ho) (by decide)
    · rw [if_neg q] at ho
      rw [ztd, ztd, if_neg q, if_neg q]
      by_cases q2 : (w = 100 ∨ w = 110) ∧ k < 3
      · rw [if_pos q2.1] at hj
        rw [if_pos q2, if_pos q2]
        refine ztd_in l _ (k + 1) _ _ (fun i hi => ?_) ho j (by omega) h3
        show (if i = k then _ else t i) = if i = k then _ else t' i
        by_cases e : i = k
        · rw [if_pos e, if_pos e]
        · rw [if_neg e, if_neg e]; exact ht i (by omega)
      · rw [if_neg q2, if_neg q2]
        refine ztd_in l _ k _ _ ht ho j ?_ h3
        by_cases q3 : w = 100 ∨ w = 110
        · have : ¬ k < 3 := fun x => q2 ⟨q3, x⟩
          omega
        · rw [if_neg q3] at hj
          omega
theorem zpt_in {h : Nat → Int32} {a : Nat} (o : zok h a) (t t' : Nat → Nat) : ∀ j, j < zcn (zfo h a) → j < 3 → zpt h a t j = zpt h a t' j := fun j hj h3 => by
  unfold zpt
  rw [if_neg o.1, if_neg o.1]
  exact ztd_in _ _ 0 _ _ (fun i hi => absurd hi (Nat.not_lt_zero i)) o.2 j (by omega) h3
theorem zLd_R {σ τ : MS} (h : zLd σ τ) (a b c : Nat) : (zaR σ a b c ↔ zaR τ a b c) ∧ zLd (zaRT σ a b c) (zaRT τ a b c) := by
  have e0 := h.1.1
  have hq : zaR σ a b c ↔ zaR τ a b c := by unfold zaR; rw [e0]
  refine ⟨hq, ?_⟩
  unfold zaRT
  by_cases q : zaR τ a b c
  · rw [if_pos q, if_pos (hq.mpr q)]
    obtain ⟨⟨h0, h4, h8, h12, h13⟩, hr, hw, hs, hm⟩ := h
    refine ⟨⟨congrArg (· + 1) h0, h4, h8, h12, h13⟩, fun r hr9 => ?_, hw, hs, hm⟩
    have hr9 : r < τ.1 0 + 1 := hr9
    show (if r = σ.1 0 then a else σ.2 1 r) = (if r = τ.1 0 then a else τ.2 1 r) ∧ (if r = σ.1 0 then b else σ.2 2 r) = (if r = τ.1 0 then b else τ.2 2 r) ∧ (if r = σ.1 0 then c else σ.2 3 r) = (if r = τ.1 0 then c else τ.2 3 r)
    rw [e0]
    by_cases e : r = τ.1 0
    · rw [if_pos e, if_pos e, if_pos e, if_pos e, if_pos e, if_pos e]; exact ⟨rfl, rfl, rfl⟩
    · rw [if_neg e, if_neg e, if_neg e, if_neg e, if_neg e, if_neg e]; exact hr r (by omega)
  · rw [if_neg q, if_neg (fun x => q (hq.mp x))]
    exact h
theorem zLd_W {σ τ : MS} (h : zLd σ τ) (a b c : Nat) : (zaW σ a b c ↔ zaW τ a b c) ∧ zLd (zaWT σ a b c) (zaWT τ a b c) := by
  have e4 := h.1.2.1
  have es : zsum (σ.2 5) (σ.1 4) = zsum (τ.2 5) (τ.1 4) := by rw [e4]; exact zsum_cong _ (fun k hk => (h.2.2.1 k hk).1)
  have hq : zaW σ a b c ↔ zaW τ a b c := by unfold zaW; rw [es, e4]
  refine ⟨hq, ?_⟩
  unfold zaWT
  by_cases q : zaW τ a b c
  · rw [if_pos q, if_pos (hq.mpr q)]
    obtain ⟨⟨h0, h4, h8, h12, h13⟩, hr, hw, hs, hm⟩ := h
    refine ⟨⟨h0, congrArg (· + 1) h4, h8, h12, h13⟩, hr, fun r hr9 => ?_, hs, hm⟩
    have hr9 : r < τ.1 4 + 1 := hr9
    show (if r = σ.1 4 then a else σ.2 5 r) = (if r = τ.1 4 then a else τ.2 5 r) ∧ (if r = σ.1 4 then b else σ.2 6 r) = (if r = τ.1 4 then b else τ.2 6 r) ∧ (if r = σ.1 4 then c else σ.2 7 r) = (if r = τ.1 4 then c else τ.2 7 r)
    rw [e4]
    by_cases e : r = τ.1 4
    · rw [if_pos e, if_pos e, if_pos e, if_pos e, if_pos e, if_pos e]; exact ⟨rfl, rfl, rfl⟩
    · rw [if_neg e, if_neg e, if_neg e, if_neg e, if_neg e, if_neg e]; exact hw r (by omega)
  · rw [if_neg q, if_neg (fun x => q (hq.mp x))]
    exact h
theorem zLd_S {σ τ : MS} (h : zLd σ τ) (a b : Nat) : (zaS σ a b ↔ zaS τ a b) ∧ zLd (zaST σ a b) (zaST τ a b) := by
  have e8 := h.1.2.2.1
  have hq : zaS σ a b ↔ zaS τ a b := by unfold zaS; rw [e8]
  refine ⟨hq, ?_⟩
  unfold zaST
  by_cases q : zaS τ a b
  · rw [if_pos q, if_pos (hq.mpr q)]
    obtain ⟨⟨h0, h4, h8, h12, h13⟩, hr, hw, hs, hm⟩ := h
    refine ⟨⟨h0, h4, congrArg (· + 1) h8, h12, h13⟩, hr, hw, fun r hr9 => ?_, hm⟩
    have hr9 : r < τ.1 8 + 1 := hr9
    show (if r = σ.1 8 then a else σ.2 9 r) = (if r = τ.1 8 then a else τ.2 9 r) ∧ (if r = σ.1 8 then b else σ.2 10 r) = (if r = τ.1 8 then b else τ.2 10 r)
    rw [e8]
    by_cases e : r = τ.1 8
    · rw [if_pos e, if_pos e, if_pos e, if_pos e]; exact ⟨rfl, rfl⟩
    · rw [if_neg e, if_neg e, if_neg e, if_neg e]; exact hs r (by omega)
  · rw [if_neg q, if_neg (fun x => q (hq.mp x))]
    exact h
theorem zLd_M {σ τ : MS} (h : zLd σ τ) (h8 : τ.1 8 ≤ 6) (a b c : Nat) : (zaM σ a b c ↔ zaM τ a b c) ∧ zLd (zaMT σ a b c) (zaMT τ a b c) := by
  have e8 := h.1.2.2.1
  have hm := h.2.2.2.2
  have hq : zaM σ a b c ↔ zaM τ a b c := by
    unfold zaM
    rw [e8]
    by_cases q1 : a < 8
    · by_cases q2 : b < τ.1 8
      · rw [hm _ (by omega), zsum_cong (g := fun s => τ.2 11 (6 * a + s)) (τ.1 8) (fun k hk => hm _ (by omega))]
      · exact ⟨fun q => absurd q.2.1 q2, fun q => absurd q.2.1 q2⟩
    · exact ⟨fun q => absurd q.1 q1, fun q => absurd q.1 q1⟩
  refine ⟨hq, ?_⟩
  unfold zaMT
  by_cases q : zaM τ a b c
  · rw [if_pos q, if_pos (hq.mpr q)]
    refine ⟨h.1, h.2.1, h.2.2.1, h.2.2.2.1, fun k hk => ?_⟩
    show (if k = 6 * a + b then c else σ.2 11 k) = if k = 6 * a + b then c else τ.2 11 k
    rw [hm k hk]
  · rw [if_neg q, if_neg (fun x => q (hq.mp x))]
    exact h
theorem zLd_B {σ τ : MS} (h : zLd σ τ) (a : Nat) : zLd (zaBT σ a) (zaBT τ a) := by
  unfold zaBT
  split
  · exact ⟨⟨h.1.1, h.1.2.1, h.1.2.2.1, rfl, h.1.2.2.2.2⟩, h.2⟩
  · exact h
theorem zLd_A {σ τ : MS} (h : zLd σ τ) (a : Nat) : zLd (zaAT σ a) (zaAT τ a) := by
  unfold zaAT
  split
  · exact ⟨⟨h.1.1, h.1.2.1, h.1.2.2.1, h.1.2.2.2.1, rfl⟩, h.2⟩
  · exact h
theorem zit_cong {σ τ : MS} (h : zLd σ τ) (h8 : τ.1 8 ≤ 6) {l : Int32} {T T' : Nat → Nat} (hT : ∀ j, j < zcn (fFRM.getD (zfm l) []) → j < 3 → T j = T' j) : (zitP σ l T ↔ zitP τ l T') ∧ zLd (zitT σ l T) (zitT τ l T') := by
  by_cases c1 : l = nI 114
  · subst c1
    have hT : ∀ j, j < 3 → T j = T' j := fun j hj => hT j (by rw [show zcn (fFRM.getD (zfm (nI 114)) []) = 3 from by decide]; exact hj) hj
    rw [← zit_114 rfl, ← zit_114 rfl, ziT_114 rfl, ziT_114 rfl, hT 0 (by decide), hT 1 (by decide), hT 2 (by decide)]
    exact zLd_R h _ _ _
  by_cases c2 : l = nI 119
  · subst c2
    have hT : ∀ j, j < 3 → T j = T' j := fun j hj => hT j (by rw [show zcn (fFRM.getD (zfm (nI 119)) []) = 3 from by decide]; exact hj) hj
    rw [← zit_119 rfl, ← zit_119 rfl, ziT_119 rfl, ziT_119 rfl, hT 0 (by decide), hT 1 (by decide), hT 2 (by decide)]
    exact zLd_W h _ _ _
  by_cases c3 : l = nI 115
  · subst c3
    have hT : ∀ j, j < 2 → T j = T' j := fun j hj => hT j (by rw [show zcn (fFRM.getD (zfm (nI 115)) []) = 2 from by decide]; exact hj) (by omega)
    rw [← zit_115 rfl, ← zit_115 rfl, ziT_115 rfl, ziT_115 rfl, hT 0 (by decide), hT 1 (by decide)]
    exact zLd_S h _ _
  by_cases c4 : l = nI 109
  · subst c4
    have hT : ∀ j, j < 3 → T j = T' j := fun j hj => hT j (by rw [show zcn (fFRM.getD (zfm (nI 109)) []) = 3 from by decide]; exact hj) hj
    rw [← zit_109 rfl, ← zit_109 rfl, ziT_109 rfl, ziT_109 rfl, hT 0 (by decide), hT 1 (by decide), hT 2 (by decide)]
    exact zLd_M h h8 _ _ _
  by_cases c5 : l = nI 98
  · subst c5
    have hT : ∀ j, j < 1 → T j = T' j := fun j hj => hT j (by rw [show zcn (fFRM.getD (zfm (nI 98)) []) = 1 from by decide]; exact hj) (by omega)
    rw [← zit_98 rfl, ← zit_98 rfl, ziT_98 rfl, ziT_98 rfl, hT 0 (by decide)]
    exact ⟨Iff.rfl, zLd_B h _⟩
  by_cases c6 : l = nI 97
  · subst c6
    have hT : ∀ j, j < 1 → T j = T' j := fun j hj => hT j (by rw [show zcn (fFRM.getD (zfm (nI 97)) []) = 1 from by decide]; exact hj) (by omega)
    rw [← zit_97 rfl, ← zit_97 rfl, ziT_97 rfl, ziT_97 rfl, hT 0 (by decide)]
    exact ⟨Iff.rfl, zLd_A h _⟩
  have hn : ∀ (υ : MS) (t : Nat → Nat), ¬ zitP υ l t := by
    rintro υ t (q | q | q | q | q | q)
    · exact c1 q.1
    · exact c2 q.1
    · exact c3 q.1
    · exact c4 q.1
    · exact c5 q.1
    · exact c6 q.1
  refine ⟨⟨fun q => absurd q (hn _ _), fun q => absurd q (hn _ _)⟩, ?_⟩
  unfold zitT
  rw [if_neg c1, if_neg c2, if_neg c3, if_neg c4, if_neg c5, if_neg c6, if_neg c1, if_neg c2, if_neg c3, if_neg c4, if_neg c5, if_neg c6]
  exact h
theorem zte_cong {h : Nat → Int32} : ∀ (k a : Nat) (t t' : Nat → Nat) (σ τ : MS), zoks h k a → zLd σ τ → lOk τ → (zte h k a t σ).1 = (zte h k a t' τ).1 ∧ zLd (zte h k a t σ).2 (zte h k a t' τ).2
  | 0, _, _, _, _, _, _, hL, _ => ⟨rfl, hL⟩
  | k + 1, a, t, t', σ, τ, ho, hL, hl => by
    have it := zit_cong (l := h a) hL hl.1.2.2.1 (T := zpt h a t) (T' := zpt h a t') (zpt_in ho.1 t t')
    by_cases q : zitP τ (h a) (zpt h a t')
    · rw [zte_go q, zte_go (it.1.mpr q)]
      exact zte_cong k _ _ _ _ _ ho.2.2 it.2 (lOk_it hl)
    · rw [zte_bad q, zte_bad (fun x => q (it.1.mp x))]
      exact ⟨rfl, it.2⟩
theorem zrd_cong {h : Nat → Int32} {n : Nat} (hn : n ≤ 100) {t t' : Nat → Nat} {σ τ : MS} (hL : zLd σ τ) (hl : lOk τ) : zrdR h n σ t = zrdR h n τ t' ∧ zLd (zrdT h n σ t) (zrdT h n τ t') := by
  unfold zrdR zrdT
  by_cases q : (0 : Int32) ≤ zsf h n 100 0 0
  · obtain ⟨k, hk, e, o⟩ := zsf_oks hn 100 0 0 (by decide) (fun _ => rfl) (by decide) q
    rw [if_pos q, if_pos q, if_pos q, if_pos q, zrdM_is e hk]
    have c := zte_cong k 0 t t' σ τ o hL hl
    exact ⟨by rw [c.1], c.2⟩
  · rw [if_neg q, if_neg q, if_neg q, if_neg q]
    exact ⟨rfl, hL⟩
