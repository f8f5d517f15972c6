/-! SHELVES; WALKS, SEEN FROM THE FACE -/
def zSh (ρ : MS) : Prop := (∀ d, d < 8 → ρ.2 41 d < 3) ∧ (∀ d, d < 8 → ρ.2 41 d = 1 → ρ.2 42 d < 6 ∧ ρ.2 43 d < 100) ∧ (∀ d, d < 8 → ρ.2 41 d = 2 → ρ.2 44 d < 3 ∧ ρ.2 45 d ≤ 100)
def sel (ρ : MS) (d : Nat) : Nat → Int32 := fun i => if i < ρ.2 45 d then (lN (ρ.2 46 (100 * d + i))).toInt32 else 0
def shF (Z : Nat → ClassId) (sb sc : Nat → Nat) (ρ : MS) : Nat → va_W := fun d => if ρ.2 41 d = 1 then ruP (sb d) (ρ.2 42 d) (ρ.2 43 d) else if ρ.2 41 d = 2 then roP Z (sb d, sc d) (ρ.2 44 d) (ρ.2 45 d) (sel ρ d) else []
theorem shF_1 {Z : Nat → ClassId} {sb sc : Nat → Nat} {ρ : MS} {d : Nat} (h : ρ.2 41 d = 1) : shF Z sb sc ρ d = ruP (sb d) (ρ.2 42 d) (ρ.2 43 d) := if_pos h
theorem shF_2 {Z : Nat → ClassId} {sb sc : Nat → Nat} {ρ : MS} {d : Nat} (h : ρ.2 41 d = 2) : shF Z sb sc ρ d = roP Z (sb d, sc d) (ρ.2 44 d) (ρ.2 45 d) (sel ρ d) := by
  unfold shF
  rw [if_neg (by omega), if_pos h]
theorem shF_0 {Z : Nat → ClassId} {sb sc : Nat → Nat} {ρ : MS} {d : Nat} (h : ρ.2 41 d = 0) : shF Z sb sc ρ d = [] := by
  unfold shF
  rw [if_neg (by omega), if_neg (by omega)]
section CO
variable {s : State} {H : Heap} {locs : List Loc} {D : va_G} {A : Nat → Prop} {f : Nat → va_W} {d : Nat} {x : va_W} {qs : List va_W}
/-- a shelf's own cells beside the other shelves' -/
theorem sh_out (hd : d < 8) (h : f d = x) (X : wH D vwCl A s.heap H locs (wcat (qs ++ [shOn f 8]))) : wH D vwCl A s.heap H locs (wcat (qs ++ [x, shOn (shNo f d) 8])) := by
  subst h
  exact wh_perm (wcat_last (shOn_p hd)) X
theorem sh_in (hd : d < 8) (h : f d = x) (X : wH D vwCl A s.heap H locs (wcat (qs ++ [x, shOn (shNo f d) 8]))) : wH D vwCl A s.heap H locs (wcat (qs ++ [shOn f 8])) := by
  subst h
  exact wh_perm (wcat_last' (shOn_p hd).symm) X
theorem sh_up {g : Nat → va_W} (hd : d < 8) (h : shUp f d x = g) (X : wH D vwCl A s.heap H locs (wcat (qs ++ [x, shOn (shNo f d) 8]))) : wH D vwCl A s.heap H locs (wcat (qs ++ [shOn g 8])) := by
  subst h
  exact wh_perm (wcat_last' (shOn_b hd)) X
end CO
theorem shL_ru {ρ : MS} {xd : Int32} (hs : zSh ρ) (hd : zir xd 8) (h : ¬ (zir xd 8 ∧ ρ.2 41 xd.toInt.toNat = 1)) : shL (ρ.2 41) xd = zrulK ρ xd.toInt.toNat ∧ zrulK ρ xd.toInt.toNat < 0 := by
  obtain ⟨j, hj, rfl⟩ := zir_of (by decide) hd
  rw [nI_N (by omega)] at h ⊢
  have h1 : ρ.2 41 j ≠ 1 := fun q => h ⟨hd, q⟩
  have h3 := hs.1 j hj
  unfold shL zrulK
  rw [if_neg (fun q => q hd)]
  by_cases h0 : ρ.2 41 j = 0
  · have e : shE (ρ.2 41) (nI j) := fun q => by
      have q2 := q.2
      rw [nI_N (by omega)] at q2
      omega
    rw [if_pos e, if_pos h0]
    exact ⟨rfl, by decide⟩
  · have e : ¬ shE (ρ.2 41) (nI j) := fun q => q ⟨hd, by rw [nI_N (by omega)]; omega⟩
    rw [if_neg e, if_neg h0, if_neg h1]
    exact ⟨rfl, by decide⟩
theorem zrulK_1 {ρ : MS} {j : Nat} (h : ρ.2 41 j = 1) : ¬ zrulK ρ j < 0 := by
  unfold zrulK
  rw [if_neg (by omega), if_pos h]
  decide
theorem zin_is {τ : MS} (hok : mOk τ) {w c rule fig z : Nat} {m : Nat → Nat} (hf : fig < 100) : (if zmnN (zwalk τ w c rule fig m z) = 99999 then 999 else zmnN (zwalk τ w c rule fig m z)) = zin (zwalk τ w c rule fig m z) := by
  have h := zwalk_min hok (w := w) (c := c) (rule := rule) (z := z) (m := m) hf
  unfold zmnN zin
  by_cases e : (zwalk τ w c rule fig m z).1 = 0
  · rw [if_pos e, if_pos e, if_neg (by omega)]
  · rw [if_neg e, if_neg e, if_pos rfl]
theorem zmnN_lt {τ : MS} (hok : mOk τ) {w c rule fig z : Nat} {m : Nat → Nat} (hf : fig < 100) : zmnN (zwalk τ w c rule fig m z) ≤ 99999 := by
  have h := zwalk_min hok (w := w) (c := c) (rule := rule) (z := z) (m := m) hf
  unfold zmnN
  split <;> omega
theorem zminutes_is (R : ZR) : nI (zmnN R) = zminutes R := by
  unfold zmnN zminutes
  split <;> rfl
/-- a walk by a mind of its own, without a rule -/
theorem zmw_is {τ : MS} {w c z : Nat} {F : Nat → Nat} : zloop τ w 0 0 200 F 0 0 0 z c (zanew 0 0) 1 = zwalk τ w c 4294967295 0 F 0 := by
  rw [zloop_na (r' := 4294967295) (f' := 0) (by decide) (by decide) 200 F 0 0 0 z 0 c (zanew 0 0) 1 1]
  unfold zwalk
  by_cases h : c = τ.2 6 w
  · rw [if_pos h, zloop_there h]
  · rw [if_neg h]
    have e : zasks 4294967295 0 = 0 := by decide
    have e2 : ztold τ 0 c w 4294967295 0 = 4294967295 := by
      unfold ztold
      rw [if_neg (by decide), if_neg (by decide), if_neg (by decide)]
    have e3 : zbmind τ F 4294967295 = F := if_pos rfl
    rw [e, e2, e3, Nat.zero_mul]
    rfl
def zwalkC (τ : MS) (F : Nat → Nat) (w c : Int32) : Int32 := if ¬ (zir w (τ.1 4) ∧ zir c 8) then -1 else if ¬ zready τ then -3 else zminutes (zwalk τ w.toInt.toNat c.toInt.toNat 4294967295 0 F 0)
theorem zwalkC_v {τ : MS} {F : Nat → Nat} {w c : Nat} (hw : w < τ.1 4) (hn : τ.1 4 ≤ 5) (hc : c < 8) : zwalkC τ F (nI w) (nI c) = if ¬ zready τ then -3 else zminutes (zwalk τ w c 4294967295 0 F 0) := by
  unfold zwalkC
  rw [if_neg (fun q => q ⟨zir_N hw (by omega), zir_N hc (by decide)⟩), nI_N (by omega), nI_N (by omega)]
def zbyC (τ ρ : MS) (d w : Int32) (z : Nat) (wh : Int32) : Int32 := if ¬ (zir d 8 ∧ zir w (τ.1 4) ∧ zir wh 3) then -1 else if zrulK ρ d.toInt.toNat < 0 then zrulK ρ d.toInt.toNat else if ¬ zready τ then -3 else zbyQ (zwalk τ w.toInt.toNat (τ.1 12) (ρ.2 42 d.toInt.toNat) (ρ.2 43 d.toInt.toNat) (τ.2 5) z) wh
theorem zbyC_v {τ ρ : MS} {d w z : Nat} {wh : Int32} (hd : d < 8) (hw : w < τ.1 4) (hn : τ.1 4 ≤ 5) (h3 : zir wh 3) (h1 : ρ.2 41 d = 1) : zbyC τ ρ (nI d) (nI w) z wh = if ¬ zready τ then -3 else zbyQ (zwalk τ w (τ.1 12) (ρ.2 42 d) (ρ.2 43 d) (τ.2 5) z) wh := by
  unfold zbyC
  rw [if_neg (fun q => q ⟨zir_N hd (by decide), zir_N hw (by omega), h3⟩), nI_N (by omega), nI_N (by omega), if_neg (zrulK_1 h1)]
theorem zbyC_l {τ ρ : MS} {d w : Int32} {z : Nat} {wh : Int32} (hs : zSh ρ) (hd : zir d 8) (hw : zir w (τ.1 4)) (h3 : zir wh 3) (h1 : ¬ (zir d 8 ∧ ρ.2 41 d.toInt.toNat = 1)) : shL (ρ.2 41) d = zbyC τ ρ d w z wh := by
  have q := shL_ru hs hd h1
  unfold zbyC
  rw [if_neg (fun q => q ⟨hd, hw, h3⟩), if_pos q.2, q.1]
def zmnC (τ ρ : MS) (d n : Int32) : Int32 := if ¬ (zir d 8 ∧ 1 ≤ n.toInt ∧ n.toInt < 21) then -1 else if zrulK ρ d.toInt.toNat < 0 then zrulK ρ d.toInt.toNat else if zready τ then 0 else -3
def zmeanC (τ ρ : MS) (d n : Int32) (z : Nat) : Int32 := if zmnC τ ρ d n < 0 then zmnC τ ρ d n else nI (zmeans τ (ρ.2 42 d.toInt.toNat) (ρ.2 43 d.toInt.toNat) n.toInt.toNat z)
theorem zw2_of {x : Int32} (h : zir x 3) (h0 : ¬ x = nI 0) (h1 : ¬ x = nI 1) : x = nI 2 := by
  obtain ⟨j, hj, rfl⟩ := zir_of (by decide) h
  rcases (show j = 0 ∨ j = 1 ∨ j = 2 by omega) with rfl | rfl | rfl
  · exact absurd rfl h0
  · exact absurd rfl h1
  · rfl
theorem zbyQ_0 (R : ZR) : zbyQ R (nI 0) = zminutes R := if_pos (by decide)
theorem zbyQ_1 (R : ZR) : zbyQ R (nI 1) = nI R.2.2.1 := by unfold zbyQ; rw [if_neg (by decide), if_pos rfl]
theorem zbyQ_2 (R : ZR) : zbyQ R (nI 2) = nI R.2.2.2 := by unfold zbyQ; rw [if_neg (by decide), if_neg (by decide)]
theorem nI_m1 : nI 4294967295 = -1 := by decide
