/-! READING: the model's steps are the class's -/
theorem nI_mod (x : Nat) : nI x = nI (x % 4294967296) := by
  apply Int32.toBitVec_inj.mp
  apply BitVec.eq_of_toNat_eq
  show (BitVec.ofNat 32 x).toNat = (BitVec.ofNat 32 (x % 4294967296)).toNat
  rw [BitVec.toNat_ofNat, BitVec.toNat_ofNat]
  omega
/-- the bytes that are read, as the class sees them -/
def hh (σ : MS) : Nat → Int32 := zbA (fun k => (lN (σ.2 46 (σ.1 16 + k))).toInt32) (σ.1 17)
theorem hh_ch {σ : MS} (hby : zby8 σ) (a : Nat) : (∃ y, hh σ a = nI y ∧ y < 128 ∧ (zch σ a = y ∨ (zch σ a = 4294967295 ∧ y = 0))) ∨ (∃ y, hh σ a = nI y ∧ 4294967168 ≤ y ∧ y < 4294967296 ∧ 128 ≤ zch σ a ∧ zch σ a < 256) := by
  unfold hh zbA zch
  by_cases q : a < σ.1 17
  · rw [if_pos q, if_pos q]
    simp only [zl_i]
    rcases hby a q with h | h
    · exact Or.inl ⟨_, rfl, h, Or.inl (by omega)⟩
    · exact Or.inr ⟨_, nI_mod _, by omega, by omega, by omega, by omega⟩
  · rw [if_neg q, if_neg q]
    exact Or.inl ⟨0, rfl, by decide, Or.inr ⟨rfl, rfl⟩⟩
theorem hh_w {σ : MS} (hby : zby8 σ) (a w : Nat) (h1 : 1 ≤ w) (h2 : w < 128) : hh σ a = nI w ↔ zch σ a = w := by
  rcases hh_ch hby a with ⟨y, e, hy, h⟩ | ⟨y, e, hy, hy2, h3, h4⟩
  · rw [e, zn_eq (by omega) (by omega)]; omega
  · rw [e, zn_eq32 (by omega) (by omega)]; omega
theorem hh_d {σ : MS} (hby : zby8 σ) (a : Nat) : zdgP (hh σ a) ↔ (48 ≤ zch σ a ∧ zch σ a ≤ 57) := by
  rcases hh_ch hby a with ⟨y, e, hy, h⟩ | ⟨y, e, hy, hy2, h3, h4⟩
  · rw [e]; unfold zdgP; rw [zn_le (by omega) (by omega), zn_le (by omega) (by omega)]; omega
  · rw [e]; unfold zdgP; rw [z32_le, z32_le, zneg (by omega) hy2, zi_of (by decide), zi_of (by decide)]; omega
theorem zdg_is {b h : Nat} : zdg b h = 0 ↔ (b = 0 ∧ 48 ≤ h ∧ h ≤ 57) := by
  refine ⟨zdg_0, fun q => ?_⟩
  unfold zdg
  rw [if_neg (by omega)]
theorem ztk_is {b h c : Nat} : ztk b h c = 0 ↔ (b = 0 ∧ h = c) := by
  unfold ztk
  split <;> omega
theorem zdg_1 {b h : Nat} (q : ¬ zdg b h = 0) : zdg b h = 1 := by
  have := zdg_lt b h
  omega
theorem ztk_lt (b h c : Nat) : ztk b h c < 2 := by
  unfold ztk
  split <;> omega
/-- one step of reading: a digit, a number, a sign; the place, whether bad -/
def zst (σ : MS) (w : Nat) (p : Nat × Nat) : Nat × Nat := if w = 100 then (if zdg p.2 (zch σ p.1) = 0 then p.1 + 1 else p.1, zdg p.2 (zch σ p.1)) else if w = 110 then ((znum (zp σ p.1 p.2)).2, zB (zp σ p.1 p.2)) else (if ztk p.2 (zch σ p.1) w = 0 then p.1 + 1 else p.1, ztk p.2 (zch σ p.1) w)
def zsv (σ : MS) (w : Nat) (p : Nat × Nat) : Nat := if w = 100 then (if zdg p.2 (zch σ p.1) = 0 then zch σ p.1 - 48 else 0) else (znum (zp σ p.1 p.2)).1
def zfd (σ : MS) : List Nat → Nat × Nat → Nat × Nat | [], p => p | w :: l, p => zfd σ l (zst σ w p)
def zvs (σ : MS) : List Nat → Nat × Nat → Nat → (Nat → Nat) → (Nat → Nat) | [], _, _, t => t | w :: l, p, k, t => if (w = 100 ∨ w = 110) ∧ k < 3 then zvs σ l (zst σ w p) (k + 1) (fun b => if b = k then zsv σ w p else t b) else zvs σ l (zst σ w p) k t
theorem zst_bad {σ : MS} {w a b : Nat} (hb : b ≠ 0) : zst σ w (a, b) = (a, 1) := by
  unfold zst
  have h1 : zdg b (zch σ a) = 1 := zdg_1 (fun q => hb (zdg_is.mp q).1)
  have h2 : ztk b (zch σ a) w = 1 := by
    have := ztk_lt b (zch σ a) w
    have h3 : ¬ ztk b (zch σ a) w = 0 := fun q => hb (ztk_is.mp q).1
    omega
  have h3 : zB (zp σ a b) = 1 := h1
  split
  · show (if zdg b (zch σ a) = 0 then a + 1 else a, zdg b (zch σ a)) = _
    rw [h1]; rfl
  · split
    · refine Prod.ext ?_ h3
      show (znl (zp σ a b) 4 (if zB (zp σ a b) = 0 then _ else 0) (if zB (zp σ a b) = 0 then _ else a)).2 = a
      rw [h3, if_neg (by decide), if_neg (by decide), znl_stop (fun q => absurd q.1 (by decide))]
    · show (if ztk b (zch σ a) w = 0 then a + 1 else a, ztk b (zch σ a) w) = _
      rw [h2]; rfl
theorem zfd_bad {σ : MS} : ∀ (l : List Nat) {a b : Nat}, b ≠ 0 → (zfd σ l (a, b)).1 = a ∧ (zfd σ l (a, b)).2 ≠ 0
  | [], _, _, hb => ⟨rfl, hb⟩
  | w :: l, a, b, hb => by
    rw [zfd, zst_bad hb]
    exact zfd_bad l (by decide)
theorem znl_is {σ : MS} (hby : zby8 σ) {a b : Nat} : ∀ (k i v : Nat), 0 < v → v < 10 ^ i → i + k ≤ 5 → zval (hh σ) a i = nI v → ∃ v', znl (zp σ a b) k v (a + i) = (v', a + (i + zcnt (hh σ) (a + i) k)) ∧ zval (hh σ) a (i + zcnt (hh σ) (a + i) k) = nI v' ∧ v' < 10 ^ (i + zcnt (hh σ) (a + i) k)
  | 0, i, v, h0, h1, hk, hv => ⟨v, rfl, hv, h1⟩
  | k + 1, i, v, h0, h1, hk, hv => by
    have hc : zch (zp σ a b) (a + i) = zch σ (a + i) := rfl
    by_cases q : 48 ≤ zch σ (a + i) ∧ zch σ (a + i) ≤ 57
    · have hd := (hh_d hby (a + i)).mpr q
      rw [zcnt_y hd, znl_go (by rw [hc]; exact ⟨h0, q⟩), hc]
      have e1 : zval (hh σ) a (i + 1) = nI (10 * v + zch σ (a + i) - 48) := by
        rw [zval, hv, (hh_w hby (a + i) (zch σ (a + i)) (by omega) (by omega)).mpr rfl, pk_mul, nI_add, pk_sub (by omega)]
        exact congrArg nI (by omega)
      have h2 : 10 * v + zch σ (a + i) - 48 < 10 ^ (i + 1) := by rw [Nat.pow_succ]; omega
      obtain ⟨v', e2, e3, e4⟩ := znl_is hby (b := b) k (i + 1) (10 * v + zch σ (a + i) - 48) (by omega) h2 (by omega) e1
      refine ⟨v', ?_, ?_, ?_⟩
      · rw [show a + i + 1 = a + (i + 1) by omega, e2, show i + 1 + zcnt (hh σ) (a + (i + 1)) k = i + (1 + zcnt (hh σ) (a + (i + 1)) k) by omega]
      · rw [show a + i + 1 = a + (i + 1) by omega, show i + (1 + zcnt (hh σ) (a + (i + 1)) k) = i + 1 + zcnt (hh σ) (a + (i + 1)) k by omega]
        exact e3
      · rw [show a + i + 1 = a + (i + 1) by omega, show i + (1 + zcnt (hh σ) (a + (i + 1)) k) = i + 1 + zcnt (hh σ) (a + (i + 1)) k by omega]
        exact e4
    · rw [zcnt_n (fun w => q ((hh_d hby (a + i)).mp w)), znl_stop (fun w => q (by rw [hc] at w; exact w.2))]
      exact ⟨v, rfl, hv, h1⟩
theorem zln_d {σ : MS} (hby : zby8 σ) (a : Nat) : zln (hh σ) a 100 = if zdg 0 (zch σ a) = 0 then 1 else 0 := by
  unfold zln zdgA
  rw [if_pos rfl]
  by_cases q : zdg 0 (zch σ a) = 0
  · have hd := (hh_d hby a).mpr (zdg_is.mp q).2
    rw [if_pos q, zcnt_y hd]
    split <;> rfl
  · have hd : ¬ zdgP (hh σ a) := fun w => q (zdg_is.mpr ⟨rfl, (hh_d hby a).mp w⟩)
    rw [if_neg q, zcnt_n hd, if_neg (fun w => hd (by rw [w]; exact ⟨by decide, by decide⟩))]
theorem zln_s {σ : MS} (hby : zby8 σ) (a : Nat) {w : Nat} (hw : w = 32 ∨ w = 59) : zln (hh σ) a w = if ztk 0 (zch σ a) w = 0 then 1 else 0 := by
  unfold zln
  rw [if_neg (by omega), if_neg (by omega)]
  have e := hh_w hby a w (by omega) (by omega)
  by_cases q : zch σ a = w
  · rw [if_pos (e.mpr q), if_pos (ztk_is.mpr ⟨rfl, q⟩)]
  · rw [if_neg (fun x => q (e.mp x)), if_neg (fun x => q (ztk_is.mp x).2)]
theorem zval_1 {σ : MS} (hby : zby8 σ) {a : Nat} (q : 48 ≤ zch σ a ∧ zch σ a ≤ 57) : zval (hh σ) a 1 = nI (zch σ a - 48) := by
  rw [zval, zval, Nat.add_zero, (hh_w hby a (zch σ a) (by omega) (by omega)).mpr rfl, pk_mul, nI_add, pk_sub (by omega)]
  exact congrArg nI (by omega)
theorem znum_is {σ : MS} (hby : zby8 σ) {a : Nat} (q : zdg 0 (zch σ a) = 0) : znum (zp σ a 0) = (iN (zval (hh σ) a (zln (hh σ) a 110)), a + zln (hh σ) a 110) ∧ zB (zp σ a 0) = 0 ∧ 0 < zln (hh σ) a 110 := by
  have q2 := (zdg_is.mp q).2
  have hB : zB (zp σ a 0) = 0 := q
  refine ⟨?_, hB, ?_⟩
  · show znl (zp σ a 0) 4 (if zB (zp σ a 0) = 0 then zch σ a - 48 else 0) (if zB (zp σ a 0) = 0 then a + 1 else a) = _
    rw [if_pos hB, if_pos hB]
    have hL : zln (hh σ) a 110 = zdgA (hh σ) a 5 := by unfold zln; rw [if_neg (by decide), if_pos rfl]
    rw [hL]
    unfold zdgA
    by_cases q3 : zch σ a = 48
    · rw [if_pos ((hh_w hby a 48 (by decide) (by decide)).mpr q3), znl_stop (fun w => by have := w.1; omega), zval_1 hby q2, iN_nI (by omega)]
    · rw [if_neg (fun w => q3 ((hh_w hby a 48 (by decide) (by decide)).mp w)), zcnt_y ((hh_d hby a).mpr q2)]
      obtain ⟨v', e1, e2, e3⟩ := znl_is hby (a := a) (b := 0) 4 1 (zch σ a - 48) (by omega) (by omega) (by decide) (zval_1 hby q2)
      have h5 := zcnt_le (hh σ) 4 (a + 1)
      have h10 : 10 ^ (1 + zcnt (hh σ) (a + 1) 4) ≤ 10 ^ 5 := Nat.pow_le_pow_right (by decide) (by omega)
      rw [e1, e2, iN_nI (by omega)]
  · unfold zln zdgA
    rw [if_neg (by decide), if_pos rfl, zcnt_y ((hh_d hby a).mpr q2)]
    split <;> omega
theorem znum_no {σ : MS} (hby : zby8 σ) {a : Nat} (q : ¬ zdg 0 (zch σ a) = 0) : (znum (zp σ a 0)).2 = a ∧ zB (zp σ a 0) = 1 ∧ zln (hh σ) a 110 = 0 := by
  have hB : zB (zp σ a 0) = 1 := zdg_1 q
  have hd : ¬ zdgP (hh σ a) := fun w => q (zdg_is.mpr ⟨rfl, (hh_d hby a).mp w⟩)
  refine ⟨?_, hB, ?_⟩
  · show (znl (zp σ a 0) 4 (if zB (zp σ a 0) = 0 then _ else 0) (if zB (zp σ a 0) = 0 then _ else a)).2 = a
    rw [hB, if_neg (by decide), if_neg (by decide), znl_stop (fun w => absurd w.1 (by decide))]
  · unfold zln zdgA
    rw [if_neg (by decide), if_pos rfl, zcnt_n hd, if_neg (fun w => hd (by rw [w]; exact ⟨by decide, by decide⟩))]
abbrev zwo (w : Nat) : Prop := w = 100 ∨ w = 110 ∨ w = 32 ∨ w = 59
theorem zst_go {σ : MS} (hby : zby8 σ) {w a : Nat} (hw : zwo w) : zst σ w (a, 0) = if zln (hh σ) a w = 0 then (a, 1) else (a + zln (hh σ) a w, 0) := by
  unfold zst
  rcases hw with rfl | rfl | hw
  · rw [if_pos rfl, zln_d hby]
    show (if zdg 0 (zch σ a) = 0 then a + 1 else a, zdg 0 (zch σ a)) = _
    by_cases q : zdg 0 (zch σ a) = 0
    · rw [if_pos q, if_pos q, if_neg (by decide), q]
    · rw [if_neg q, if_neg q, if_pos rfl, zdg_1 q]
  · rw [if_neg (by decide), if_pos rfl]
    show ((znum (zp σ a 0)).2, zB (zp σ a 0)) = _
    by_cases q : zdg 0 (zch σ a) = 0
    · obtain ⟨e1, e2, e3⟩ := znum_is hby q
      rw [if_neg (by omega), e1, e2]
    · obtain ⟨e1, e2, e3⟩ := znum_no hby q
      rw [if_pos e3, e1, e2]
  · rw [if_neg (by omega), if_neg (by omega), zln_s hby a hw]
    show (if ztk 0 (zch σ a) w = 0 then a + 1 else a, ztk 0 (zch σ a) w) = _
    have := ztk_lt 0 (zch σ a) w
    by_cases q : ztk 0 (zch σ a) w = 0
    · rw [if_pos q, if_pos q, if_neg (by decide), q]
    · rw [if_neg q, if_neg q, if_pos rfl, show ztk 0 (zch σ a) w = 1 by omega]
theorem zsv_go {σ : MS} (hby : zby8 σ) {w a : Nat} (hw : w = 100 ∨ w = 110) (q : ¬ zln (hh σ) a w = 0) : zsv σ w (a, 0) = iN (zval (hh σ) a (zln (hh σ) a w)) := by
  unfold zsv
  rcases hw with rfl | rfl
  · rw [if_pos rfl]
    rw [zln_d hby] at q ⊢
    by_cases q2 : zdg 0 (zch σ a) = 0
    · have q3 := (zdg_is.mp q2).2
      rw [if_pos q2, if_pos q2, zval_1 hby q3, iN_nI (by omega)]
    · rw [if_neg q2] at q
      exact absurd rfl q
  · rw [if_neg (by decide)]
    by_cases q2 : zdg 0 (zch σ a) = 0
    · exact congrArg Prod.fst (znum_is hby q2).1
    · exact absurd (znum_no hby q2).2.2 q
theorem zfd_go {σ : MS} (hby : zby8 σ) : ∀ (l : List Nat) (a : Nat), (∀ w ∈ l, zwo w) → (zfd σ l (a, 0)).1 = (zpe (hh σ) l a).2 ∧ ((zfd σ l (a, 0)).2 = 0 ↔ (zpe (hh σ) l a).1 = true)
  | [], a, _ => ⟨rfl, ⟨fun _ => rfl, fun _ => rfl⟩⟩
  | w :: l, a, hl => by
    rw [zfd, zpe, zst_go hby (hl w (List.mem_cons_self ..))]
    by_cases q : zln (hh σ) a w = 0
    · rw [if_pos q, if_pos q]
      have hb := zfd_bad (σ := σ) l (a := a) (b := 1) (by decide)
      exact ⟨hb.1, ⟨fun e => absurd e hb.2, fun e => absurd (show false = true from e) (by decide)⟩⟩
    · rw [if_neg q, if_neg q]
      exact zfd_go hby l _ (fun w9 h9 => hl w9 (List.mem_cons_of_mem _ h9))
theorem zvs_go {σ : MS} (hby : zby8 σ) : ∀ (l : List Nat) (a k : Nat) (t : Nat → Nat), (∀ w ∈ l, zwo w) → (zpe (hh σ) l a).1 = true → zvs σ l (a, 0) k t = ztd (hh σ) l a k t
  | [], _, _, _, _, _ => rfl
  | w :: l, a, k, t, hl, ho => by
    have hw := hl w (List.mem_cons_self ..)
    by_cases q : zln (hh σ) a w = 0
    · rw [zpe, if_pos q] at ho
      exact absurd (show false = true from ho) (by decide)
    · rw [zpe, if_neg q] at ho
      rw [zvs, ztd, if_neg q, zst_go hby hw, if_neg q]
      have hr := fun k9 t9 => zvs_go hby l (a + zln (hh σ) a w) k9 t9 (fun w9 h9 => hl w9 (List.mem_cons_of_mem _ h9)) ho
      by_cases q2 : (w = 100 ∨ w = 110) ∧ k < 3
      · rw [if_pos q2, if_pos q2, hr, zsv_go hby q2.1 q]
      · rw [if_neg q2, if_neg q2, hr]
