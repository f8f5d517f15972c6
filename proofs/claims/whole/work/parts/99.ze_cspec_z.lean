/-! A LAND STAYS WELL WHATEVER IT IS TOLD -/
def lOk (τ : MS) : Prop := mOk τ ∧ zsum (τ.2 5) (τ.1 4) ≤ 100 ∧ mZ τ ∧ (∀ w, w < 5 → τ.2 7 w < 65536) ∧ ∀ w, w < 5 → τ.2 6 w < 8
theorem zsum_put {f : Nat → Nat} {b v : Nat} : ∀ {n : Nat}, b < n → zsum (fun s => if s = b then v else f s) n + f b = zsum f n + v
  | 0, h => absurd h (Nat.not_lt_zero _)
  | n + 1, h => by
    rw [zsum, zsum]
    by_cases e : n = b
    · subst e
      rw [if_pos rfl, zsum_cong (f := fun s => if s = n then v else f s) (g := f) n (fun k hk => if_neg (by omega))]
      omega
    · rw [if_neg e]
      have := zsum_put (f := f) (b := b) (v := v) (n := n) (by omega)
      omega
theorem lOk_R {τ : MS} {a b c : Nat} (h : lOk τ) : lOk (zaRT τ a b c) := by
  unfold zaRT
  by_cases q : zaR τ a b c
  · rw [if_pos q]
    obtain ⟨⟨k0, k4, k8, kr, kw, ks, kmet, kmt, k12, k13⟩, hs, hz, h7, h6⟩ := h
    obtain ⟨q0, q1, q2, q3, q4, q5⟩ := q
    refine ⟨⟨show τ.1 0 + 1 ≤ 16 by omega, k4, k8, fun r hr => ?_, kw, ks, kmet, kmt, k12, k13⟩, hs, hz, h7, h6⟩
    have hr : r < τ.1 0 + 1 := hr
    show (if r = τ.1 0 then a else τ.2 1 r) < 8 ∧ (if r = τ.1 0 then b else τ.2 2 r) < 8 ∧ 1 ≤ (if r = τ.1 0 then c else τ.2 3 r) ∧ (if r = τ.1 0 then c else τ.2 3 r) ≤ 60
    by_cases e : r = τ.1 0
    · rw [if_pos e, if_pos e, if_pos e]
      exact ⟨q1, q2, q4, q5⟩
    · rw [if_neg e, if_neg e, if_neg e]
      exact kr r (by omega)
  · rw [if_neg q]
    exact h
theorem lOk_W {τ : MS} {a b c : Nat} (h : lOk τ) : lOk (zaWT τ a b c) := by
  unfold zaWT
  by_cases q : zaW τ a b c
  · rw [if_pos q]
    obtain ⟨⟨k0, k4, k8, kr, kw, ks, kmet, kmt, k12, k13⟩, hs, hz, h7, h6⟩ := h
    obtain ⟨q0, q1, q2, q3, q4⟩ := q
    refine ⟨⟨k0, show τ.1 4 + 1 ≤ 5 by omega, k8, kr, fun w hw => ?_, ks, kmet, kmt, k12, k13⟩, ?_, hz, fun w hw => ?_, fun w hw => ?_⟩
    · have hw : w < τ.1 4 + 1 := hw
      show 1 ≤ (if w = τ.1 4 then a else τ.2 5 w) ∧ (if w = τ.1 4 then a else τ.2 5 w) ≤ 100 ∧ (if w = τ.1 4 then b else τ.2 6 w) < 8 ∧ (if w = τ.1 4 then c else τ.2 7 w) < 65536
      by_cases e : w = τ.1 4
      · rw [if_pos e, if_pos e, if_pos e]
        exact ⟨q3, by omega, q1, by omega⟩
      · rw [if_neg e, if_neg e, if_neg e]
        exact kw w (by omega)
    · show zsum (fun w => if w = τ.1 4 then a else τ.2 5 w) (τ.1 4 + 1) ≤ 100
      rw [zsum, if_pos rfl, zsum_cong (f := fun w => if w = τ.1 4 then a else τ.2 5 w) (g := τ.2 5) (τ.1 4) (fun k hk => if_neg (by omega))]
      omega
    · show (if w = τ.1 4 then c else τ.2 7 w) < 65536
      split
      · omega
      · exact h7 w hw
    · show (if w = τ.1 4 then b else τ.2 6 w) < 8
      split
      · exact q1
      · exact h6 w hw
  · rw [if_neg q]
    exact h
theorem lOk_S {τ : MS} {a b : Nat} (h : lOk τ) : lOk (zaST τ a b) := by
  unfold zaST
  by_cases q : zaS τ a b
  · rw [if_pos q]
    obtain ⟨⟨k0, k4, k8, kr, kw, ks, kmet, kmt, k12, k13⟩, hs, hz, h7, h6⟩ := h
    obtain ⟨q0, q1, q2⟩ := q
    refine ⟨⟨k0, k4, show τ.1 8 + 1 ≤ 6 by omega, kr, kw, fun s hs9 => ?_, kmet, kmt, k12, k13⟩, hs, fun c s hc h8 hs6 => hz c s hc (by have h8 : τ.1 8 + 1 ≤ s := h8; omega) hs6, h7, h6⟩
    have hs9 : s < τ.1 8 + 1 := hs9
    show (if s = τ.1 8 then a else τ.2 9 s) < 5 ∧ (if s = τ.1 8 then b else τ.2 10 s) < 100
    by_cases e : s = τ.1 8
    · rw [if_pos e, if_pos e]
      exact ⟨q1, q2⟩
    · rw [if_neg e, if_neg e]
      exact ks s (by omega)
  · rw [if_neg q]
    exact h
theorem lOk_M {τ : MS} {a b c : Nat} (h : lOk τ) : lOk (zaMT τ a b c) := by
  unfold zaMT
  by_cases q : zaM τ a b c
  · rw [if_pos q]
    obtain ⟨⟨k0, k4, k8, kr, kw, ks, kmet, kmt, k12, k13⟩, hs, hz, h7, h6⟩ := h
    obtain ⟨q0, q1, q2⟩ := q
    have hm := kmt a q0
    have he : zsum (fun s => τ.2 11 (6 * a + s)) 6 = zsum (fun s => τ.2 11 (6 * a + s)) (τ.1 8) := zsum_ext k8 (fun w h1 h2 => hz a w q0 h1 h2)
    have hp := zsum_put (f := fun s => τ.2 11 (6 * a + s)) (b := b) (v := c) (n := 6) (by omega)
    have hold : τ.2 11 (6 * a + b) ≤ zsum (fun s => τ.2 11 (6 * a + s)) 6 := by
      have := zsum_put (f := fun s => τ.2 11 (6 * a + s)) (b := b) (v := 0) (n := 6) (by omega)
      omega
    refine ⟨⟨k0, k4, k8, kr, kw, ks, fun k hk => ?_, fun c9 hc => ?_, k12, k13⟩, hs, fun c9 s hc h8 hs6 => ?_, h7, h6⟩
    · show (if k = 6 * a + b then c else τ.2 11 k) ≤ 100
      split
      · omega
      · exact kmet k hk
    · show zsum (fun s => if 6 * c9 + s = 6 * a + b then c else τ.2 11 (6 * c9 + s)) 6 ≤ 100
      by_cases e : c9 = a
      · subst e
        rw [zsum_cong (g := fun s => if s = b then c else τ.2 11 (6 * c9 + s)) 6 (fun k hk => by
          by_cases e2 : k = b
          · rw [if_pos e2, if_pos (by omega)]
          · rw [if_neg e2, if_neg (by omega)])]
        omega
      · rw [zsum_cong (g := fun s => τ.2 11 (6 * c9 + s)) 6 (fun k hk => if_neg (by omega))]
        exact kmt c9 hc
    · show (if 6 * c9 + s = 6 * a + b then c else τ.2 11 (6 * c9 + s)) = 0
      have h8 : τ.1 8 ≤ s := h8
      rw [if_neg (by omega)]
      exact hz c9 s hc h8 hs6
  · rw [if_neg q]
    exact h
theorem lOk_B {τ : MS} {a : Nat} (h : lOk τ) : lOk (zaBT τ a) := by
  unfold zaBT
  by_cases q : a < 8
  · rw [if_pos q]
    obtain ⟨⟨k0, k4, k8, kr, kw, ks, kmet, kmt, k12, k13⟩, hs, hz, h7, h6⟩ := h
    exact ⟨⟨k0, k4, k8, kr, kw, ks, kmet, kmt, q, k13⟩, hs, hz, h7, h6⟩
  · rw [if_neg q]
    exact h
theorem lOk_A {τ : MS} {a : Nat} (h : lOk τ) : lOk (zaAT τ a) := by
  unfold zaAT
  by_cases q : a ≤ 30
  · rw [if_pos q]
    obtain ⟨⟨k0, k4, k8, kr, kw, ks, kmet, kmt, k12, k13⟩, hs, hz, h7, h6⟩ := h
    exact ⟨⟨k0, k4, k8, kr, kw, ks, kmet, kmt, k12, q⟩, hs, hz, h7, h6⟩
  · rw [if_neg q]
    exact h
theorem lOk_it {τ : MS} {l : Int32} {t : Nat → Nat} (h : lOk τ) : lOk (zitT τ l t) := by
  unfold zitT
  split
  · exact lOk_R h
  · split
    · exact lOk_W h
    · split
      · exact lOk_S h
      · split
        · exact lOk_M h
        · split
          · exact lOk_B h
          · split
            · exact lOk_A h
            · exact h
theorem zte_go {h : Nat → Int32} {k a : Nat} {t : Nat → Nat} {τ : MS} (q : zitP τ (h a) (zpt h a t)) : zte h (k + 1) a t τ = zte h k (zen h a) (zpt h a t) (zitT τ (h a) (zpt h a t)) := by rw [zte, if_pos q]
theorem zte_bad {h : Nat → Int32} {k a : Nat} {t : Nat → Nat} {τ : MS} (q : ¬ zitP τ (h a) (zpt h a t)) : zte h (k + 1) a t τ = (some a, zitT τ (h a) (zpt h a t)) := by rw [zte, if_neg q]
theorem zte_lOk {h : Nat → Int32} : ∀ (k a : Nat) (t : Nat → Nat) (τ : MS), lOk τ → lOk (zte h k a t τ).2
  | 0, _, _, _, q => q
  | k + 1, a, t, τ, q => by
    rw [zte]
    split
    · exact zte_lOk k _ _ _ (lOk_it q)
    · exact lOk_it q
/-- k statements stand from a on -/
def zoks (h : Nat → Int32) : Nat → Nat → Prop | 0, _ => True | k + 1, a => zok h a ∧ a ≤ 131 ∧ zoks h k (zen h a)
theorem zsf_oks {h : Nat → Int32} {n : Nat} (hn : n ≤ 100) : ∀ (f s a : Nat), a ≤ 131 → (s = 0 → a = 0) → s + f ≤ 100 → (0 : Int32) ≤ zsf h n f s a → ∃ k, k ≤ f ∧ zsf h n f s a = nI (s + k) ∧ zoks h k a
  | 0, s, a, _, _, _, _ => ⟨0, Nat.le_refl 0, rfl, trivial⟩
  | f + 1, s, a, ha, h0, hsf, e => by
    by_cases q : s = 0 ∨ a < n
    · by_cases q2 : zok h a
      · rw [zsf_go q q2] at e ⊢
        have hl := zen_le h a
        obtain ⟨k, hk, e2, o⟩ := zsf_oks hn f (s + 1) (zen h a) (by omega) (fun e9 => absurd e9 (by omega)) (by omega) e
        exact ⟨k + 1, by omega, by rw [e2]; congr 1; omega, q2, ha, o⟩
      · rw [zsf_bad q q2] at e
        have hl := zen_le h a
        have hb : ((-1000 : Int32) - nI (zen h a)) = nI (4294966296 - zen h a) := by
          rw [show (-1000 : Int32) = nI 4294966296 from by decide, pk_sub (by omega)]
        rw [hb, z32_le, zneg (by omega) (by omega), show (0 : Int32).toInt = 0 from by decide] at e
        omega
    · rw [zsf_end q] at e ⊢
      exact ⟨0, Nat.zero_le _, rfl, trivial⟩
theorem zpl_ok {h : Nat → Int32} {a : Nat} (q : zok h a) : zplR h a = nI (zen h a) := if_pos q
def zrdM (h : Nat → Int32) (n : Nat) : Nat := (zsf h n 100 0 0).toInt.toNat
def zrdR (h : Nat → Int32) (n : Nat) (τ : MS) (t : Nat → Nat) : Int32 := if (0 : Int32) ≤ zsf h n 100 0 0 then zteR (zrdM h n) (zte h (zrdM h n) 0 t τ).1 else zsf h n 100 0 0
def zrdT (h : Nat → Int32) (n : Nat) (τ : MS) (t : Nat → Nat) : MS := if (0 : Int32) ≤ zsf h n 100 0 0 then (zte h (zrdM h n) 0 t τ).2 else τ
theorem zrdM_is {h : Nat → Int32} {n m : Nat} (e : zsf h n 100 0 0 = nI (0 + m)) (hm : m ≤ 100) : zrdM h n = m := by
  unfold zrdM
  rw [e, nI_N (by omega), Nat.zero_add]
theorem lOk_like {τ τb : MS} (h : lOk τb) : lOk (zlike τ τb) := by
  obtain ⟨hok, hs, hz, h7b, h6⟩ := h
  exact ⟨hok, hs, hz, h7b, h6⟩
theorem zrdT_lOk {h : Nat → Int32} {n : Nat} {τ : MS} {t : Nat → Nat} (q : lOk τ) : lOk (zrdT h n τ t) := by
  unfold zrdT
  split
  · exact zte_lOk _ _ _ _ q
  · exact q
