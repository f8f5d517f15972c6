/-! ONE STATEMENT READ: what the model's state is then -/
theorem zch_in2 {σ : MS} {a : Nat} (h : zch σ a < 4294967295) : a < σ.1 17 := by
  rcases Nat.lt_or_ge a (σ.1 17) with q | q
  · exact q
  · have : zch σ a = 4294967295 := if_neg (by omega)
    omega
theorem zln_in {σ : MS} (hby : zby8 σ) {a w : Nat} (hw : zwo w) (q : ¬ zln (hh σ) a w = 0) : a + zln (hh σ) a w ≤ σ.1 17 := by
  rcases hw with rfl | rfl | hw
  · have h1 : zln (hh σ) a 100 = zdgA (hh σ) a 1 := by unfold zln; rw [if_pos rfl]
    have h2 := zdgA_all (h := hh σ) (a := a) (m := 1) (i := zln (hh σ) a 100 - 1) (by omega)
    have h3 := zch_in ((hh_d hby _).mp h2).2
    omega
  · have h1 : zln (hh σ) a 110 = zdgA (hh σ) a 5 := by unfold zln; rw [if_neg (by decide), if_pos rfl]
    have h2 := zdgA_all (h := hh σ) (a := a) (m := 5) (i := zln (hh σ) a 110 - 1) (by omega)
    have h3 := zch_in ((hh_d hby _).mp h2).2
    omega
  · rw [zln_s hby a hw] at q ⊢
    by_cases q2 : ztk 0 (zch σ a) w = 0
    · have h3 := zch_in2 (σ := σ) (a := a) (by have := (ztk_is.mp q2).2; omega)
      rw [if_pos q2]
      exact h3
    · rw [if_neg q2] at q
      exact absurd rfl q
abbrev zpp (p : Nat × Nat) : Prop := p.1 ≤ 100 ∧ p.2 < 2
theorem zst_po {σ : MS} (hby : zby8 σ) (h17 : σ.1 17 ≤ 100) {w : Nat} (hw : zwo w) {p : Nat × Nat} (hp : zpp p) : zpp (zst σ w p) := by
  obtain ⟨a, b⟩ := p
  obtain ⟨h1, h2⟩ := hp
  by_cases q : b = 0
  · subst q
    rw [zst_go hby hw]
    split
    · exact ⟨h1, by show 1 < 2; decide⟩
    · rename_i q2
      have := zln_in hby hw q2
      exact ⟨by show a + _ ≤ 100; omega, by show 0 < 2; decide⟩
  · rw [zst_bad q]
    exact ⟨h1, by show 1 < 2; decide⟩
theorem zsv_lt {σ : MS} (hby : zby8 σ) {p : Nat × Nat} : zsv σ 100 p < 10 ∧ zsv σ 110 p < 100000 := by
  obtain ⟨a, b⟩ := p
  refine ⟨?_, ?_⟩
  · unfold zsv
    rw [if_pos rfl]
    split
    · rename_i q
      have := (zdg_is.mp q).2
      omega
    · decide
  · by_cases q : b = 0
    · subst q
      by_cases q2 : zdg 0 (zch σ a) = 0
      · have h := znum_is hby q2
        rw [zsv_go hby (Or.inr rfl) (by omega)]
        exact zval_lt (Or.inr rfl)
      · show (znl (zp σ a 0) 4 (if zB (zp σ a 0) = 0 then _ else 0) (if zB (zp σ a 0) = 0 then _ else a)).1 < _
        rw [if_neg (show ¬ zB (zp σ a 0) = 0 from q2), if_neg (show ¬ zB (zp σ a 0) = 0 from q2), znl_stop (fun w => absurd w.1 (by decide))]
        show 0 < 100000
        decide
    · have h3 : ¬ zB (zp σ a b) = 0 := fun w => q (zdg_is.mp w).1
      show (znl (zp σ a b) 4 (if zB (zp σ a b) = 0 then _ else 0) (if zB (zp σ a b) = 0 then _ else a)).1 < _
      rw [if_neg h3, if_neg h3, znl_stop (fun w => absurd w.1 (by decide))]
      show 0 < 100000
      decide
theorem zfd_1 {σ : MS} : ∀ (l : List Nat) (a : Nat), zfd σ l (a, 1) = (a, 1)
  | [], _ => rfl
  | w :: l, a => by rw [zfd, zst_bad (by decide), zfd_1 l a]
theorem zfd_skip {σ : MS} {l : List Nat} {w : Nat} {p : Nat × Nat} (h : p.2 ≠ 0) : zst σ 59 p = zfd σ (w :: l) p := by
  obtain ⟨a, b⟩ := p
  rw [zfd, zst_bad h, zst_bad h, zfd_1]
theorem zpe_len {h : Nat → Int32} : ∀ (l : List Nat) (a : Nat), (zpe h l a).1 = true → a + l.length ≤ (zpe h l a).2
  | [], a, _ => Nat.le_refl a
  | w :: l, a, ho => by
    rw [zpe] at ho ⊢
    by_cases q : zln h a w = 0
    · rw [if_pos q] at ho
      exact absurd (show false = true from ho) (by decide)
    · rw [if_neg q] at ho ⊢
      have := zpe_len l _ ho
      rw [List.length_cons]
      omega
/-- the row of a statement, as the class tells it -/
def zrf (h : Nat → Int32) (u : MS) (i a : Nat) : Prop := u.2 21 i = a ∧ h a = nI (u.2 22 i) ∧ u.2 23 i < 100000 ∧ (((u.2 22 i = 114 ∨ u.2 22 i = 119 ∨ u.2 22 i = 109) ∧ u.2 24 i < 10 ∧ u.2 25 i < 100000 ∧ ∀ t, zpt h a t 0 = u.2 23 i ∧ zpt h a t 1 = u.2 24 i ∧ zpt h a t 2 = u.2 25 i) ∨ (u.2 22 i = 115 ∧ u.2 25 i < 100000 ∧ ∀ t, zpt h a t 0 = u.2 23 i ∧ zpt h a t 1 = u.2 25 i) ∨ ((u.2 22 i = 98 ∨ u.2 22 i = 97) ∧ ∀ t, zpt h a t 0 = u.2 23 i))
def zrsP (σ u : MS) : Prop := (∀ j, j ≠ 18 → j ≠ 19 → j ≠ 20 → u.1 j = σ.1 j) ∧ (∀ j, (j < 21 ∨ 25 < j) → u.2 j = σ.2 j) ∧ (∀ j k, k ≠ σ.1 20 → u.2 j k = σ.2 j k) ∧ u.1 20 = σ.1 20 + 1 ∧ u.1 18 = zen (hh σ) (σ.1 18) ∧ u.1 18 ≤ 100 ∧ u.1 19 < 2 ∧ (u.1 19 = 0 ↔ zok (hh σ) (σ.1 18)) ∧ (zok (hh σ) (σ.1 18) → σ.1 18 + 3 ≤ u.1 18 ∧ zrf (hh σ) u (σ.1 20) (σ.1 18))
def zfr (σ : MS) (i : Nat) (S : MS) : Prop := S.1 = σ.1 ∧ (∀ j, (j < 21 ∨ 25 < j) → S.2 j = σ.2 j) ∧ ∀ j k, k ≠ i → S.2 j k = σ.2 j k
theorem zfr_0 {σ : MS} {i : Nat} : zfr σ i σ := ⟨rfl, fun _ _ => rfl, fun _ _ _ => rfl⟩
theorem zfr_E {σ S : MS} {i k v : Nat} (h : zfr σ i S) (h1 : 21 ≤ k) (h2 : k ≤ 25) : zfr σ i (sE S k i v) := by
  refine ⟨h.1, fun j hj => ?_, fun j a ha => ?_⟩
  · show (if j = k then _ else S.2 j) = _
    rw [if_neg (by omega)]
    exact h.2.1 j hj
  · show (if j = k then (fun b => if b = i then v else S.2 k b) else S.2 j) a = _
    by_cases q : j = k
    · subst q
      rw [if_pos rfl]
      show (if a = i then v else S.2 j a) = _
      rw [if_neg ha]
      exact h.2.2 j a ha
    · rw [if_neg q]
      exact h.2.2 j a ha
theorem sE_att {S : MS} {k i v : Nat} : (sE S k i v).2 k i = v := by
  show (if k = k then (fun b => if b = i then v else S.2 k b) else S.2 k) i = v
  rw [if_pos rfl]
  exact if_pos rfl
theorem zrs_fr {σ S : MS} {P : Nat × Nat} (h : zfr σ (σ.1 20) S) : (∀ j, j ≠ 18 → j ≠ 19 → j ≠ 20 → (sF (zp S P.1 P.2) 20 (σ.1 20 + 1)).1 j = σ.1 j) := by
  intro j a b c
  show (if j = 20 then _ else if j = 18 then _ else if j = 19 then _ else S.1 j) = _
  rw [if_neg c, if_neg a, if_neg b, h.1]
theorem zrs_main {σ S : MS} {P : Nat × Nat} {c : Nat} {L : List Nat} (hby : zby8 σ) (hpo : zpOk σ) (e : zch σ (σ.1 18) = c) (hc : 1 ≤ c ∧ c < 128) (hL : fFRM.getD (zfm (nI c)) [] = L) (h5 : zfm (nI c) ≠ 5) (hw : ∀ w ∈ L, zwo w) (h2 : 2 ≤ L.length) (hfr : zfr σ (σ.1 20) S) (hP : P = zfd σ L (σ.1 18 + 1, 0)) (hpp : zpp P) (h21 : S.2 21 (σ.1 20) = σ.1 18) (h22 : S.2 22 (σ.1 20) = c)
    (hrow : P.2 = 0 → S.2 23 (σ.1 20) < 100000 ∧ (((c = 114 ∨ c = 119 ∨ c = 109) ∧ S.2 24 (σ.1 20) < 10 ∧ S.2 25 (σ.1 20) < 100000 ∧ ∀ t, zvs σ L (σ.1 18 + 1, 0) 0 t 0 = S.2 23 (σ.1 20) ∧ zvs σ L (σ.1 18 + 1, 0) 0 t 1 = S.2 24 (σ.1 20) ∧ zvs σ L (σ.1 18 + 1, 0) 0 t 2 = S.2 25 (σ.1 20)) ∨ (c = 115 ∧ S.2 25 (σ.1 20) < 100000 ∧ ∀ t, zvs σ L (σ.1 18 + 1, 0) 0 t 0 = S.2 23 (σ.1 20) ∧ zvs σ L (σ.1 18 + 1, 0) 0 t 1 = S.2 25 (σ.1 20)) ∨ ((c = 98 ∨ c = 97) ∧ ∀ t, zvs σ L (σ.1 18 + 1, 0) 0 t 0 = S.2 23 (σ.1 20)))) : zrsP σ (sF (zp S P.1 P.2) 20 (σ.1 20 + 1)) := by
  have eh : hh σ (σ.1 18) = nI c := (hh_w hby _ c hc.1 hc.2).mpr e
  have hfo : zfo (hh σ) (σ.1 18) = L := by show fFRM.getD (zfm (hh σ (σ.1 18))) [] = L; rw [eh, hL]
  have h5' : zfm (hh σ (σ.1 18)) ≠ 5 := by rw [eh]; exact h5
  have hg := zfd_go hby L (σ.1 18 + 1) hw
  have hen : zen (hh σ) (σ.1 18) = P.1 := by
    unfold zen
    rw [if_neg h5', hfo, hP, hg.1]
  have hok : P.2 = 0 ↔ zok (hh σ) (σ.1 18) := by
    rw [hP, hg.2]
    unfold zok
    rw [hfo]
    exact ⟨fun q => ⟨h5', q⟩, fun q => q.2⟩
  refine ⟨zrs_fr hfr, hfr.2.1, hfr.2.2, rfl, hen.symm, hpp.1, hpp.2, hok, fun q => ?_⟩
  have q2 := q.2
  rw [hfo] at q2
  have hz : ∀ t, zpt (hh σ) (σ.1 18) t = zvs σ L (σ.1 18 + 1, 0) 0 t := fun t => by
    unfold zpt
    rw [if_neg h5', hfo, zvs_go hby L _ 0 t hw q2]
  have hl := zpe_len L _ q2
  refine ⟨?_, h21, ?_, ?_⟩
  · show σ.1 18 + 3 ≤ P.1
    rw [hP, hg.1]
    omega
  · show hh σ (σ.1 18) = nI (S.2 22 (σ.1 20))
    rw [h22, eh]
  · have hr := hrow (hok.mpr q)
    refine ⟨hr.1, ?_⟩
    show ((S.2 22 (σ.1 20) = 114 ∨ S.2 22 (σ.1 20) = 119 ∨ S.2 22 (σ.1 20) = 109) ∧ S.2 24 (σ.1 20) < 10 ∧ S.2 25 (σ.1 20) < 100000 ∧ ∀ t, zpt (hh σ) (σ.1 18) t 0 = S.2 23 (σ.1 20) ∧ zpt (hh σ) (σ.1 18) t 1 = S.2 24 (σ.1 20) ∧ zpt (hh σ) (σ.1 18) t 2 = S.2 25 (σ.1 20)) ∨ (S.2 22 (σ.1 20) = 115 ∧ S.2 25 (σ.1 20) < 100000 ∧ ∀ t, zpt (hh σ) (σ.1 18) t 0 = S.2 23 (σ.1 20) ∧ zpt (hh σ) (σ.1 18) t 1 = S.2 25 (σ.1 20)) ∨ ((S.2 22 (σ.1 20) = 98 ∨ S.2 22 (σ.1 20) = 97) ∧ ∀ t, zpt (hh σ) (σ.1 18) t 0 = S.2 23 (σ.1 20))
    rw [h22]
    simp only [hz]
    exact hr.2
theorem zrs_no {σ S : MS} {P : Nat × Nat} (hby : zby8 σ) (hpo : zpOk σ) (e : ¬ zch σ (σ.1 18) = 114 ∧ ¬ zch σ (σ.1 18) = 119 ∧ ¬ zch σ (σ.1 18) = 115 ∧ ¬ zch σ (σ.1 18) = 109 ∧ ¬ zch σ (σ.1 18) = 98 ∧ ¬ zch σ (σ.1 18) = 97) (hfr : zfr σ (σ.1 20) S) (hP : P = zst σ 59 (σ.1 18, 1)) : zrsP σ (sF (zp S P.1 P.2) 20 (σ.1 20 + 1)) := by
  rw [zst_bad (by decide)] at hP
  subst hP
  obtain ⟨e1, e2, e3, e4, e5, e6⟩ := e
  have hn := fun w h1 h2 (h3 : ¬ zch σ (σ.1 18) = w) => fun q => h3 ((hh_w hby (σ.1 18) w h1 h2).mp q)
  have h5 : zfm (hh σ (σ.1 18)) = 5 := by
    unfold zfm
    rw [if_neg (hn 97 (by decide) (by decide) e6), if_neg (hn 98 (by decide) (by decide) e5), if_neg (hn 109 (by decide) (by decide) e4), if_neg (hn 114 (by decide) (by decide) e1), if_neg (hn 115 (by decide) (by decide) e3), if_neg (hn 119 (by decide) (by decide) e2)]
  refine ⟨zrs_fr hfr, hfr.2.1, hfr.2.2, rfl, ?_, hpo.2.2.1, (by show 1 < 2; decide), ?_, fun q => absurd h5 q.1⟩
  · unfold zen
    rw [if_pos h5]
    rfl
  · exact ⟨fun q => absurd (show (1 : Nat) = 0 from q) (by decide), fun q => absurd h5 q.1⟩
theorem zst_bad2 {σ : MS} {w : Nat} {p : Nat × Nat} (h : p.2 ≠ 0) : ¬ (zst σ w p).2 = 0 := by
  obtain ⟨a, b⟩ := p
  rw [zst_bad h]
  exact (by decide : ¬ (1 : Nat) = 0)
