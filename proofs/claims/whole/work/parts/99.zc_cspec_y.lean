/-! ONE STATEMENT, ALL OF THEM -/
theorem fdrop : ∀ i, i < 6 → ∀ k, k < fLEN.getD i 0 → (fFRM.getD i []).drop k = fch i k :: (fFRM.getD i []).drop (k + 1) := by
  intro i hi
  rcases (show i = 0 ∨ i = 1 ∨ i = 2 ∨ i = 3 ∨ i = 4 ∨ i = 5 by omega) with rfl | rfl | rfl | rfl | rfl | rfl <;> decide
theorem fdropE : ∀ i, i < 6 → (fFRM.getD i []).drop (fLEN.getD i 0) = [] := by decide
theorem fch_w : ∀ i, i < 6 → ∀ k, k < fLEN.getD i 0 → fch i k = 100 ∨ fch i k = 110 ∨ fch i k = 32 ∨ fch i k = 59 := by
  intro i hi
  rcases (show i = 0 ∨ i = 1 ∨ i = 2 ∨ i = 3 ∨ i = 4 ∨ i = 5 by omega) with rfl | rfl | rfl | rfl | rfl | rfl <;> decide
theorem fLEN_5 : ∀ i, i < 6 → (fLEN.getD i 0 = 0 ↔ i = 5) := by decide
theorem zpe_y {h : Nat → Int32} {L l : List Nat} {w a : Nat} (e : L = w :: l) (hz : ¬ zln h a w = 0) : zpe h L a = zpe h l (a + zln h a w) := by rw [e, zpe, if_neg hz]
theorem zpe_n {h : Nat → Int32} {L l : List Nat} {w a : Nat} (e : L = w :: l) (hz : zln h a w = 0) : zpe h L a = (false, a) := by rw [e, zpe, if_pos hz]
theorem ztd_n {h : Nat → Int32} {L l : List Nat} {w a k : Nat} {t : Nat → Nat} (e : L = w :: l) (hz : zln h a w = 0) : ztd h L a k t = t := by rw [e, ztd, if_pos hz]
theorem ztd_y {h : Nat → Int32} {L l : List Nat} {w a k : Nat} {t : Nat → Nat} (e : L = w :: l) (hz : ¬ zln h a w = 0) (hw : (w = 100 ∨ w = 110) ∧ k < 3) : ztd h L a k t = ztd h l (a + zln h a w) (k + 1) (fun b => if b = k then iN (zval h a (zln h a w)) else t b) := by rw [e, ztd, if_neg hz, if_pos hw]
theorem ztd_o {h : Nat → Int32} {L l : List Nat} {w a k : Nat} {t : Nat → Nat} (e : L = w :: l) (hz : ¬ zln h a w = 0) (hw : ¬ ((w = 100 ∨ w = 110) ∧ k < 3)) : ztd h L a k t = ztd h l (a + zln h a w) k t := by rw [e, ztd, if_neg hz, if_neg hw]
theorem zpe_le {h : Nat → Int32} : ∀ (l : List Nat) (a : Nat), a ≤ (zpe h l a).2 ∧ (zpe h l a).2 ≤ a + 5 * l.length
  | [], a => ⟨Nat.le_refl a, Nat.le_refl a⟩
  | w :: l, a => by
    rw [zpe]
    split
    · exact ⟨Nat.le_refl a, Nat.le_add_right a _⟩
    · have := zpe_le (h := h) l (a + zln h a w)
      have h5 := zln_le (h := h) (a := a) (w := w)
      rw [List.length_cons]
      omega
abbrev zfo (h : Nat → Int32) (a : Nat) : List Nat := fFRM.getD (zfm (h a)) []
abbrev zok (h : Nat → Int32) (a : Nat) : Prop := zfm (h a) ≠ 5 ∧ (zpe h (zfo h a) (a + 1)).1 = true
def zen (h : Nat → Int32) (a : Nat) : Nat := if zfm (h a) = 5 then a else (zpe h (zfo h a) (a + 1)).2
def zpt (h : Nat → Int32) (a : Nat) (t : Nat → Nat) : Nat → Nat := if zfm (h a) = 5 then t else ztd h (zfo h a) (a + 1) 0 t
def zplR (h : Nat → Int32) (a : Nat) : Int32 := if zok h a then nI (zen h a) else znt (zen h a)
theorem zfo_len (h : Nat → Int32) (a : Nat) : (zfo h a).length ≤ 6 := by
  have h1 := fLEN_is _ (zfm_lt (h a))
  have h2 := fLEN_le _ (zfm_lt (h a))
  show (fFRM.getD (zfm (h a)) []).length ≤ 6
  omega
theorem zen_le (h : Nat → Int32) (a : Nat) : a ≤ zen h a ∧ zen h a ≤ a + 31 := by
  unfold zen
  split
  · omega
  · have h1 := zpe_le (h := h) (zfo h a) (a + 1)
    have h2 := zfo_len h a
    omega
theorem zpl_5 {h : Nat → Int32} {a : Nat} (e : zfm (h a) = 5) : znt a = zplR h a := by
  unfold zplR zen
  rw [if_neg (fun q => q.1 e), if_pos e]
theorem zpl_n {h : Nat → Int32} {a b : Nat} (e : ¬ zfm (h a) = 5) (q : zpe h (zfo h a) (a + 1) = (false, b)) : znt b = zplR h a := by
  unfold zplR zen
  rw [if_neg (fun w => by have := w.2; rw [q] at this; exact absurd (show false = true from this) (by decide)), if_neg e, q]
theorem zpl_y {h : Nat → Int32} {a b : Nat} (e : ¬ zfm (h a) = 5) (q : zpe h (zfo h a) (a + 1) = (true, b)) : nI b = zplR h a := by
  unfold zplR zen
  rw [if_pos ⟨e, by rw [q]⟩, if_neg e, q]
theorem zpt_5 {h : Nat → Int32} {a : Nat} {t : Nat → Nat} (e : zfm (h a) = 5) : t = zpt h a t := (if_pos e).symm
theorem zpt_n {h : Nat → Int32} {a : Nat} {t u : Nat → Nat} (e : ¬ zfm (h a) = 5) (q : ztd h (zfo h a) (a + 1) 0 t = u) : u = zpt h a t := by
  unfold zpt
  rw [if_neg e, q]
theorem zpl_ge {h : Nat → Int32} {a : Nat} (ha : a < 1000000) (q : (0 : Int32) ≤ zplR h a) : zok h a ∧ zplR h a = nI (zen h a) := by
  have hl := zen_le h a
  unfold zplR at q ⊢
  by_cases e : zok h a
  · rw [if_pos e]
    exact ⟨e, rfl⟩
  · rw [if_neg e] at q
    exact absurd (znt_lt (a := zen h a) (by omega)) (Int32.not_lt.mpr q)
theorem zpl_lt {h : Nat → Int32} {a : Nat} (ha : a < 1000000) (q : ¬ (0 : Int32) ≤ zplR h a) : ¬ zok h a ∧ zplR h a ^^^ nI 4294967295 = nI (zen h a) := by
  have hl := zen_le h a
  unfold zplR at q ⊢
  by_cases e : zok h a
  · rw [if_pos e] at q
    exact absurd (by rw [show (0 : Int32) = nI 0 from rfl, zn_le (by decide) (by omega)]; exact Nat.zero_le _) q
  · rw [if_neg e]
    exact ⟨e, (znt_is (by omega)).2⟩
/-- digits make a number below 100000 -/
theorem zcnt_all {h : Nat → Int32} : ∀ (m a i : Nat), i < zcnt h a m → zdgP (h (a + i))
  | 0, _, i, q => absurd q (Nat.not_lt_zero i)
  | m + 1, a, i, q => by
    rw [zcnt] at q
    by_cases e : zdgP (h a)
    · rw [if_pos e] at q
      cases i with
      | zero => exact e
      | succ i =>
        rw [show a + (i + 1) = a + 1 + i by omega]
        exact zcnt_all m (a + 1) i (by omega)
    · rw [if_neg e] at q
      exact absurd q (Nat.not_lt_zero i)
theorem zdgA_all {h : Nat → Int32} {a m i : Nat} (q : i < zdgA h a m) : zdgP (h (a + i)) := by
  unfold zdgA at q
  by_cases e : h a = nI 48
  · rw [if_pos e] at q
    rw [show a + i = a by omega, e]
    exact ⟨by decide, by decide⟩
  · rw [if_neg e] at q
    exact zcnt_all m a i q
theorem zdgP_of {v : Int32} (h : zdgP v) : ∃ d, d < 10 ∧ v = nI (48 + d) := by
  obtain ⟨h1, h2⟩ := h
  rw [z32_le, zi_of (by decide)] at h1 h2
  obtain ⟨j, hj, rfl⟩ := zi_in (n := 58) (x := v) (by decide) ⟨by omega, by omega⟩
  rw [zi_of (by omega)] at h1 h2
  exact ⟨j - 48, by omega, by congr 1; omega⟩
theorem zval_of {h : Nat → Int32} {a : Nat} : ∀ {k : Nat}, (∀ i, i < k → zdgP (h (a + i))) → k ≤ 5 → ∃ v, v < 10 ^ k ∧ zval h a k = nI v
  | 0, _, _ => ⟨0, by decide, rfl⟩
  | k + 1, hd, hk => by
    obtain ⟨v, hv, e⟩ := zval_of (k := k) (fun i hi => hd i (by omega)) (by omega)
    obtain ⟨d, hd1, e2⟩ := zdgP_of (hd k (by omega))
    refine ⟨v * 10 + d, by rw [Nat.pow_succ]; omega, ?_⟩
    rw [zval, e, e2, pk_mul, nI_add, pk_sub (by omega)]
    congr 1
    omega
theorem zval_lt {h : Nat → Int32} {a w : Nat} (hw : w = 100 ∨ w = 110) : iN (zval h a (zln h a w)) < 100000 := by
  have h5 := zln_le (h := h) (a := a) (w := w)
  have hall : ∀ i, i < zln h a w → zdgP (h (a + i)) := fun i hi => by
    unfold zln at hi
    rcases hw with rfl | rfl
    · rw [if_pos rfl] at hi; exact zdgA_all hi
    · rw [if_neg (by decide), if_pos rfl] at hi; exact zdgA_all hi
  obtain ⟨v, hv, e⟩ := zval_of hall h5
  have h10 : 10 ^ zln h a w ≤ 10 ^ 5 := Nat.pow_le_pow_right (by decide) h5
  rw [e, iN_nI (by omega)]
  omega
abbrev ztl (t : Nat → Nat) : Prop := ∀ j, j < 3 → t j < 100000
theorem ztd_lt {h : Nat → Int32} : ∀ (l : List Nat) (a k : Nat) (t : Nat → Nat), ztl t → ztl (ztd h l a k t)
  | [], _, _, _, ht => ht
  | w :: l, a, k, t, ht => by
    rw [ztd]
    split
    · exact ht
    · split
      · rename_i q
        refine ztd_lt l _ _ _ (fun j hj => ?_)
        show (if j = k then _ else t j) < 100000
        split
        · exact zval_lt q.1
        · exact ht j hj
      · exact ztd_lt l _ _ _ ht
theorem zpt_lt {h : Nat → Int32} {a : Nat} {t : Nat → Nat} (ht : ztl t) : ztl (zpt h a t) := by
  unfold zpt
  split
  · exact ht
  · exact ztd_lt _ _ _ _ ht
/-- how many statements the bytes are, or a fault -/
def zsf (h : Nat → Int32) (n : Nat) : Nat → Nat → Nat → Int32 | 0, s, _ => nI s | f + 1, s, a => if s = 0 ∨ a < n then (if zok h a then zsf h n f (s + 1) (zen h a) else (-1000) - nI (zen h a)) else nI s
theorem zsf_go {h : Nat → Int32} {n f s a : Nat} (h1 : s = 0 ∨ a < n) (h2 : zok h a) : zsf h n (f + 1) s a = zsf h n f (s + 1) (zen h a) := by rw [zsf, if_pos h1, if_pos h2]
theorem zsf_bad {h : Nat → Int32} {n f s a : Nat} (h1 : s = 0 ∨ a < n) (h2 : ¬ zok h a) : zsf h n (f + 1) s a = (-1000) - nI (zen h a) := by rw [zsf, if_pos h1, if_neg h2]
theorem zsf_end {h : Nat → Int32} {n f s a : Nat} (h1 : ¬ (s = 0 ∨ a < n)) : zsf h n f s a = nI s := by
  cases f with
  | zero => rfl
  | succ f => rw [zsf, if_neg h1]
abbrev zitP (τ : MS) (l : Int32) (t : Nat → Nat) : Prop := (l = nI 114 ∧ zaR τ (t 0) (t 1) (t 2)) ∨ (l = nI 119 ∧ zaW τ (t 0) (t 1) (t 2)) ∨ (l = nI 115 ∧ zaS τ (t 0) (t 1)) ∨ (l = nI 109 ∧ zaM τ (t 0) (t 1) (t 2)) ∨ (l = nI 98 ∧ t 0 < 8) ∨ (l = nI 97 ∧ t 0 ≤ 30)
def zitT (τ : MS) (l : Int32) (t : Nat → Nat) : MS := if l = nI 114 then zaRT τ (t 0) (t 1) (t 2) else if l = nI 119 then zaWT τ (t 0) (t 1) (t 2) else if l = nI 115 then zaST τ (t 0) (t 1) else if l = nI 109 then zaMT τ (t 0) (t 1) (t 2) else if l = nI 98 then zaBT τ (t 0) else if l = nI 97 then zaAT τ (t 0) else τ
/-- the statements told to a land, k of them from a on: where one isn't as told, and the land -/
def zte (h : Nat → Int32) : Nat → Nat → (Nat → Nat) → MS → Option Nat × MS | 0, _, _, τ => (none, τ) | k + 1, a, t, τ => if zitP τ (h a) (zpt h a t) then zte h k (zen h a) (zpt h a t) (zitT τ (h a) (zpt h a t)) else (some a, zitT τ (h a) (zpt h a t))
def zteR (m : Nat) : Option Nat → Int32 | none => nI m | some a => (-2000) - nI a
def zpz (h : Nat → Int32) : Nat → Nat | 0 => 0 | j + 1 => zen h (zpz h j)
section ZI
variable {τ : MS} {l : Int32} {t : Nat → Nat}
theorem zit_114 (h : l = nI 114) : zaR τ (t 0) (t 1) (t 2) ↔ zitP τ l t := by
  subst h
  constructor
  · intro q
    exact Or.inl ⟨rfl, q⟩
  · rintro (⟨e, q⟩ | ⟨e, q⟩ | ⟨e, q⟩ | ⟨e, q⟩ | ⟨e, q⟩ | ⟨e, q⟩)
    · exact q
    · exact absurd e (by decide)
    · exact absurd e (by decide)
    · exact absurd e (by decide)
    · exact absurd e (by decide)
    · exact absurd e (by decide)
theorem ziT_114 (h : l = nI 114) : zitT τ l t = zaRT τ (t 0) (t 1) (t 2) := by
  subst h
  unfold zitT
  rw [if_pos rfl]
theorem zit_119 (h : l = nI 119) : zaW τ (t 0) (t 1) (t 2) ↔ zitP τ l t := by
  subst h
  constructor
  · intro q
    exact Or.inr (Or.inl ⟨rfl, q⟩)
  · rintro (⟨e, q⟩ | ⟨e, q⟩ | ⟨e, q⟩ | ⟨e, q⟩ | ⟨e, q⟩ | ⟨e, q⟩)
    · exact absurd e (by decide)
    · exact q
    · exact absurd e (by decide)
    · exact absurd e (by decide)
    · exact absurd e (by decide)
    · exact absurd e (by decide)
theorem ziT_119 (h : l = nI 119) : zitT τ l t = zaWT τ (t 0) (t 1) (t 2) := by
  subst h
  unfold zitT
  rw [if_neg (show ¬ nI 119 = nI 114 by decide), if_pos rfl]
theorem zit_115 (h : l = nI 115) : zaS τ (t 0) (t 1) ↔ zitP τ l t := by
  subst h
  constructor
  · intro q
    exact Or.inr (Or.inr (Or.inl ⟨rfl, q⟩))
  · rintro (⟨e, q⟩ | ⟨e, q⟩ | ⟨e, q⟩ | ⟨e, q⟩ | ⟨e, q⟩ | ⟨e, q⟩)
    · exact absurd e (by decide)
    · exact absurd e (by decide)
    · exact q
    · exact absurd e (by decide)
    · exact absurd e (by decide)
    · exact absurd e (by decide)
theorem ziT_115 (h : l = nI 115) : zitT τ l t = zaST τ (t 0) (t 1) := by
  subst h
  unfold zitT
  rw [if_neg (show ¬ nI 115 = nI 114 by decide), if_neg (show ¬ nI 115 = nI 119 by decide), if_pos rfl]
theorem zit_109 (h : l = nI 109) : zaM τ (t 0) (t 1) (t 2) ↔ zitP τ l t := by
  subst h
  constructor
  · intro q
    exact Or.inr (Or.inr (Or.inr (Or.inl ⟨rfl, q⟩)))
  · rintro (⟨e, q⟩ | ⟨e, q⟩ | ⟨e, q⟩ | ⟨e, q⟩ | ⟨e, q⟩ | ⟨e, q⟩)
    · exact absurd e (by decide)
    · exact absurd e (by decide)
    · exact absurd e (by decide)
    · exact q
    · exact absurd e (by decide)
    · exact absurd e (by decide)
theorem ziT_109 (h : l = nI 109) : zitT τ l t = zaMT τ (t 0) (t 1) (t 2) := by
  subst h
  unfold zitT
  rw [if_neg (show ¬ nI 109 = nI 114 by decide), if_neg (show ¬ nI 109 = nI 119 by decide), if_neg (show ¬ nI 109 = nI 115 by decide), if_pos rfl]
theorem zit_98 (h : l = nI 98) : t 0 < 8 ↔ zitP τ l t := by
  subst h
  constructor
  · intro q
    exact Or.inr (Or.inr (Or.inr (Or.inr (Or.inl ⟨rfl, q⟩))))
  · rintro (⟨e, q⟩ | ⟨e, q⟩ | ⟨e, q⟩ | ⟨e, q⟩ | ⟨e, q⟩ | ⟨e, q⟩)
    · exact absurd e (by decide)
    · exact absurd e (by decide)
    · exact absurd e (by decide)
    · exact absurd e (by decide)
    · exact q
    · exact absurd e (by decide)
theorem ziT_98 (h : l = nI 98) : zitT τ l t = zaBT τ (t 0) := by
  subst h
  unfold zitT
  rw [if_neg (show ¬ nI 98 = nI 114 by decide), if_neg (show ¬ nI 98 = nI 119 by decide), if_neg (show ¬ nI 98 = nI 115 by decide), if_neg (show ¬ nI 98 = nI 109 by decide), if_pos rfl]
theorem zit_97 (h : l = nI 97) : t 0 ≤ 30 ↔ zitP τ l t := by
  subst h
  constructor
  · intro q
    exact Or.inr (Or.inr (Or.inr (Or.inr (Or.inr (⟨rfl, q⟩)))))
  · rintro (⟨e, q⟩ | ⟨e, q⟩ | ⟨e, q⟩ | ⟨e, q⟩ | ⟨e, q⟩ | ⟨e, q⟩)
    · exact absurd e (by decide)
    · exact absurd e (by decide)
    · exact absurd e (by decide)
    · exact absurd e (by decide)
    · exact absurd e (by decide)
    · exact q
theorem ziT_97 (h : l = nI 97) : zitT τ l t = zaAT τ (t 0) := by
  subst h
  unfold zitT
  rw [if_neg (show ¬ nI 97 = nI 114 by decide), if_neg (show ¬ nI 97 = nI 119 by decide), if_neg (show ¬ nI 97 = nI 115 by decide), if_neg (show ¬ nI 97 = nI 109 by decide), if_neg (show ¬ nI 97 = nI 98 by decide), if_pos rfl]
theorem zit_o (h114 : ¬ l = nI 114) (h119 : ¬ l = nI 119) (h115 : ¬ l = nI 115) (h109 : ¬ l = nI 109) (h98 : ¬ l = nI 98) (h97 : ¬ l = nI 97) : ¬ zitP τ l t := by
  rintro (⟨e, -⟩ | ⟨e, -⟩ | ⟨e, -⟩ | ⟨e, -⟩ | ⟨e, -⟩ | ⟨e, -⟩)
  · exact h114 e
  · exact h119 e
  · exact h115 e
  · exact h109 e
  · exact h98 e
  · exact h97 e
theorem ziT_o (h114 : ¬ l = nI 114) (h119 : ¬ l = nI 119) (h115 : ¬ l = nI 115) (h109 : ¬ l = nI 109) (h98 : ¬ l = nI 98) (h97 : ¬ l = nI 97) : zitT τ l t = τ := by
  unfold zitT
  rw [if_neg h114, if_neg h119, if_neg h115, if_neg h109, if_neg h98, if_neg h97]
end ZI
theorem z_ifc {P Q : Prop} [Decidable P] [Decidable Q] (h : P ↔ Q) : (if P then (1 : Int32) else 0) = if Q then 1 else 0 := by
  by_cases q : P
  · rw [if_pos q, if_pos (h.mp q)]
  · rw [if_neg q, if_neg (fun w => q (h.mpr w))]
