/-! PUT, COPY: a row's elements written -/
theorem sh_up2 {s : State} {H : Heap} {locs : List Loc} {D : va_G} {A : Nat → Prop} {f g : Nat → va_W} {d : Nat} {x : va_W} {qs : List va_W} (hd : d < 8) (h : ∀ i, i < 8 → shUp f d x i = g i) (X : wH D vwCl A s.heap H locs (wcat (qs ++ [x, shOn (shNo f d) 8]))) : wH D vwCl A s.heap H locs (wcat (qs ++ [shOn g 8])) := by
  rw [← shOn_c h]
  exact sh_up hd rfl X
theorem shL_ro {ρ : MS} {xd : Int32} (h : ¬ (zir xd 8 ∧ ρ.2 41 xd.toInt.toNat = 2)) (hs : zSh ρ) : shL (ρ.2 41) xd = zrowK ρ xd ∧ zrowK ρ xd < 0 := by
  unfold shL zrowK
  by_cases hd : zir xd 8
  · obtain ⟨j, hj, rfl⟩ := zir_of (by decide) hd
    have h3 := hs.1 j hj
    rw [if_neg (fun q => q hd), if_pos (show 0 ≤ (nI j).toInt ∧ (nI j).toInt < 8 from ⟨hd.1, hd.2⟩)]
    simp only [nI_N (show j < 2147483648 by omega)] at h ⊢
    have h1 : ρ.2 41 j ≠ 2 := fun q => h ⟨hd, q⟩
    by_cases h0 : ρ.2 41 j = 0
    · have e : shE (ρ.2 41) (nI j) := fun q => by
        have q2 := q.2
        rw [nI_N (by omega)] at q2
        omega
      rw [if_pos e, if_pos h0]
      exact ⟨rfl, by decide⟩
    · have e : ¬ shE (ρ.2 41) (nI j) := fun q => q ⟨hd, by rw [nI_N (by omega)]; omega⟩
      rw [if_neg e, if_neg h0, if_neg h1]
      exact ⟨rfl, by decide⟩
  · rw [if_pos hd, if_neg (fun q => hd ⟨q.1, by have := q.2; omega⟩)]
    exact ⟨rfl, by decide⟩
theorem zrowK_2 {ρ : MS} {j : Nat} (hj : j < 8) (h : ρ.2 41 j = 2) : zrowK ρ (nI j) = 0 := by
  unfold zrowK
  rw [if_pos (show 0 ≤ (nI j).toInt ∧ (nI j).toInt < 8 by rw [zi_of (by omega)]; omega), nI_N (by omega), if_neg (by omega), if_pos h]
theorem z0_lt : ¬ (0 : Int32) < 0 := by decide
theorem zput_l {ρ : MS} {d i v : Int32} (hs : zSh ρ) (h : ¬ (zir d 8 ∧ ρ.2 41 d.toInt.toNat = 2)) : shL (ρ.2 41) d = zputS ρ d i ∧ ρ = zputT ρ d i v := by
  have q := shL_ro h hs
  unfold zputS zputT
  rw [if_pos q.2, if_pos q.2]
  exact ⟨q.1, rfl⟩
theorem zput_n {ρ : MS} {d : Nat} {i v : Int32} (hd : d < 8) (h : ρ.2 41 d = 2) (hi : ¬ zir i (ρ.2 45 d)) : (-13 : Int32) = zputS ρ (nI d) i ∧ ρ = zputT ρ (nI d) i v := by
  unfold zputS zputT
  rw [zrowK_2 hd h, nI_N (by omega), if_neg z0_lt, if_neg z0_lt, if_pos hi, if_pos hi]
  exact ⟨rfl, rfl⟩
theorem zput_y {ρ : MS} {d i : Nat} {v : Int32} (hd : d < 8) (h : ρ.2 41 d = 2) (hi : i < ρ.2 45 d) (hn : ρ.2 45 d ≤ 100) : nI 0 = zputS ρ (nI d) (nI i) ∧ sE ρ 46 (100 * d + i) (lNN (znar v (ρ.2 44 d))) = zputT ρ (nI d) (nI i) v := by
  have e : ¬ ¬ zir (nI i) (ρ.2 45 d) := fun q => q (zir_N hi (by omega))
  unfold zputS zputT
  rw [zrowK_2 hd h, nI_N (by omega), nI_N (by omega), if_neg z0_lt, if_neg z0_lt, if_neg e, if_neg e]
  exact ⟨rfl, rfl⟩
theorem znar_low (v : Int32) (t : Nat) : (lN (lNN (znar v t))).toInt32 = zlow t v := by
  rw [lN_lNN]
  unfold znar zlow
  by_cases h : t = 0
  · rw [if_pos h, if_pos h, Int32.toInt32_toInt64]
  · rw [if_neg h, if_neg h]
    by_cases h1 : t = 1
    · rw [if_pos h1, if_pos h1, Int32.toInt32_toInt64]
    · rw [if_neg h1, if_neg h1, Int32.toInt32_toInt64]
theorem sE_at {ρ : MS} {J k v a : Nat} : (sE ρ J k v).2 J a = if a = k then v else ρ.2 J a := by
  show (if J = J then (fun a => if a = k then v else ρ.2 J a) else ρ.2 J) a = _
  rw [if_pos rfl]
theorem sel_up {ρ : MS} {d i : Nat} {v : Int32} (hi : i < ρ.2 45 d) : upd (sel ρ d) i (zlow (ρ.2 44 d) v) = sel (sE ρ 46 (100 * d + i) (lNN (znar v (ρ.2 44 d)))) d := by
  funext k
  show (if k = i then _ else sel ρ d k) = if k < ρ.2 45 d then (lN ((sE ρ 46 (100 * d + i) (lNN (znar v (ρ.2 44 d)))).2 46 (100 * d + k))).toInt32 else 0
  rw [sE_at]
  by_cases h : k = i
  · subst h
    rw [if_pos rfl, if_pos hi, if_pos rfl, znar_low]
  · rw [if_neg h]
    unfold sel
    by_cases h2 : k < ρ.2 45 d
    · rw [if_pos h2, if_pos h2, if_neg (by omega)]
    · rw [if_neg h2, if_neg h2]
theorem sel_ne {ρ ρ' : MS} {d : Nat} (h5 : ρ'.2 45 d = ρ.2 45 d) (h : ∀ k, k < ρ.2 45 d → ρ'.2 46 (100 * d + k) = ρ.2 46 (100 * d + k)) : sel ρ' d = sel ρ d := by
  funext k
  unfold sel
  rw [h5]
  by_cases h2 : k < ρ.2 45 d
  · rw [if_pos h2, if_pos h2, h k h2]
  · rw [if_neg h2, if_neg h2]
/-- another row's elements are written: a shelf shows the same -/
theorem shF_ne {Z : Nat → ClassId} {sb sc : Nat → Nat} {ρ ρ' : MS} {i : Nat} (h1 : ρ'.2 41 i = ρ.2 41 i) (h2 : ρ'.2 42 i = ρ.2 42 i) (h3 : ρ'.2 43 i = ρ.2 43 i) (h4 : ρ'.2 44 i = ρ.2 44 i) (h5 : ρ'.2 45 i = ρ.2 45 i) (h : ρ.2 41 i = 2 → ∀ k, k < ρ.2 45 i → ρ'.2 46 (100 * i + k) = ρ.2 46 (100 * i + k)) : shF Z sb sc ρ i = shF Z sb sc ρ' i := by
  unfold shF
  rw [h1, h2, h3, h4, h5]
  by_cases e : ρ.2 41 i = 2
  · have e1 : ¬ ρ.2 41 i = 1 := by omega
    rw [if_neg e1, if_neg e1, if_pos e, if_pos e, sel_ne h5 (h e)]
  · rw [if_neg e, if_neg e]
theorem shF_put {Z : Nat → ClassId} {sb sc : Nat → Nat} {ρ : MS} {d i : Nat} {v : Int32} (hs : zSh ρ) (h : ρ.2 41 d = 2) (hi : i < ρ.2 45 d) (hn : ρ.2 45 d ≤ 100) : ∀ k, k < 8 → shUp (shF Z sb sc ρ) d (roP Z (sb d, sc d) (ρ.2 44 d) (ρ.2 45 d) (upd (sel ρ d) i (zlow (ρ.2 44 d) v))) k = shF Z sb sc (sE ρ 46 (100 * d + i) (lNN (znar v (ρ.2 44 d)))) k := by
  intro k hk
  unfold shUp
  by_cases e : k = d
  · subst e
    rw [if_pos rfl, shF_2 (ρ := sE ρ 46 (100 * k + i) (lNN (znar v (ρ.2 44 k)))) h, sel_up hi]
    rfl
  · rw [if_neg e]
    refine shF_ne rfl rfl rfl rfl rfl (fun e2 j hj => ?_)
    have hn2 := (hs.2.2 k hk e2).2
    rw [sE_at, if_neg (by omega)]
abbrev zhs (i n : Int32) (m : Nat) : Prop := 0 ≤ n.toInt ∧ 0 ≤ i.toInt ∧ i.toInt + n.toInt ≤ (m : Int)
theorem zhas_t {i n : Int32} {m : Nat} (hm : m ≤ 100) (h1 : ¬ n < 0) (h2 : ¬ i < 0) (h3 : ¬ nI m < i) (h4 : ¬ nI m - i < n) : zhs i n m := by
  rw [z32_lt, show (0 : Int32).toInt = 0 from by decide] at h1 h2
  rw [z32_lt, zi_of (by omega)] at h3
  obtain ⟨j, hj, rfl⟩ := zi_in (n := m + 1) (by omega) (x := i) ⟨by omega, by omega⟩
  rw [zi_of (by omega)] at h2 h3
  rw [pk_sub (by omega), z32_lt, zi_of (by omega)] at h4
  unfold zhs
  rw [zi_of (by omega)]
  exact ⟨by omega, by omega, by omega⟩
theorem zhas_1 {i n : Int32} {m : Nat} (h : n < 0) : ¬ zhs i n m := by
  rw [z32_lt, show (0 : Int32).toInt = 0 from by decide] at h
  exact fun q => by have := q.1; omega
theorem zhas_2 {i n : Int32} {m : Nat} (h : i < 0) : ¬ zhs i n m := by
  rw [z32_lt, show (0 : Int32).toInt = 0 from by decide] at h
  exact fun q => by have := q.2.1; omega
theorem zhas_3 {i n : Int32} {m : Nat} (hm : m ≤ 100) (h : nI m < i) : ¬ zhs i n m := by
  rw [z32_lt, zi_of (by omega)] at h
  exact fun q => by have := q.1; have := q.2.2; omega
theorem zhas_4 {i n : Int32} {m : Nat} (hm : m ≤ 100) (h : nI m - i < n) : ¬ zhs i n m := by
  rintro ⟨g1, g2, g3⟩
  obtain ⟨j, hj, rfl⟩ := zi_in (n := m + 1) (by omega) (x := i) ⟨g2, by omega⟩
  rw [zi_of (by omega)] at g2 g3
  rw [pk_sub (by omega), z32_lt, zi_of (by omega)] at h
  omega
theorem zhs_of {i n : Int32} {m : Nat} (hm : m ≤ 100) (h : zhs i n m) : ∃ a b : Nat, a + b ≤ m ∧ i = nI a ∧ n = nI b := by
  obtain ⟨g1, g2, g3⟩ := h
  obtain ⟨a, ha, rfl⟩ := zi_in (n := m + 1) (by omega) (x := i) ⟨g2, by omega⟩
  obtain ⟨b, hb, rfl⟩ := zi_in (n := m + 1) (by omega) (x := n) ⟨g1, by omega⟩
  rw [zi_of (by omega), zi_of (by omega)] at g3
  exact ⟨a, b, by omega, rfl, rfl⟩
theorem zhs_n {i n m : Nat} (hi : i < 2147483648) (hn : n < 2147483648) : zhs (nI i) (nI n) m ↔ i + n ≤ m := by
  unfold zhs
  rw [zi_of hi, zi_of hn]
  omega
section CU
variable {p : Program} {l : Launch} {e : Env} {R : Room} {s : State} {m : MethodId} {args : Array Value} {below : List Frame} {meth : Method} {c : Code} {H : Heap} {locs : List Loc} {cells slots : Nat} {Q : State → Prop}
variable {cc : ByteArray} {pc : Nat} {ls : Array Slot} {rest : List Value} {D : va_G} {A : Nat → Prop} {E : (Nat → Prop) → State → Heap → Prop} {Z : Nat → ClassId} {own : String} {ps ps' : List va_W} {a : Nat} {idx : Nat}
/-- a part of a row over a part of a row, or of itself -/
theorem cr_copyr (hml : c.maxLocals = ls.size) (G : cG E p c cc s m args D Z own A) (X : wH D vwCl A s.heap H locs (wcat ps)) (i0 k0 i1 k1 : Nat) {p0 p1 : va_W} {a0 n0 n1 sp dp n : Nat} {f g : Nat → Int32} (hp0 : ps[i0]? = some p0) (hq0 : p0[k0]? = some (a0, .inl (Z 0, n0, .inl f))) (hp1 : ps[i1]? = some p1) (hq1 : p1[k1]? = some (a, .inl (Z 0, n1, .inl g))) (h0 : sp + n ≤ n0) (h1 : dp + n ≤ n1) (hN : n0 ≤ 100 ∧ n1 ≤ 100) (hlink : (Cond.methodLink own idx arraycopyName).before args s = true) (hset : ps.set i1 (p1.set k1 (a, .inl (Z 0, n1, .inl (va_cpy f g sp dp n)))) = ps') (hfr : 1 ≤ R.frames) (hlo : (rest.map fun v => v.category).sum + (nativeFrameWords "java/lang/System" "arraycopy" 5 + 11) ≤ R.locals) (hdg : decode cc pc = .ok (.invokestatic idx, 3)) (kk : ∀ (H1 : Heap) (locs1 : List Loc), wH D vwCl A s.heap H1 locs1 (wcat ps') → W p l e R s m args below meth c H1 locs1 cells slots Q (F0 m (pc + 3) ls rest)) : W p l e R s m args below meth c H locs cells slots Q (F0 m pc ls (.int (nI n) :: .int (nI dp) :: .ref a :: .int (nI sp) :: .ref a0 :: rest)) := by
  have e0 : (nI sp).toNatClampNeg = sp := nI_clamp (by omega)
  have e1 : (nI dp).toNatClampNeg = dp := nI_clamp (by omega)
  have eN : (nI n).toNatClampNeg = n := nI_clamp (by omega)
  refine va_copyi G.1 G.2.1 hml G.2.2.1 hlink (G.2.2.2.1 _ ck_83) (G.2.2.2.1 _ ck_84) (G.2.2.2.1 _ ck_85) G.2.2.2.2.1 X.1 X.2.1 X.2.2 (wpos ps i0 + k0) (wpos ps i1 + k1) 0 0 (wcat_at hp0 hq0) (wcat_at hp1 hq1) rfl rfl rfl (nI_pos (by omega)) (nI_pos (by omega)) (nI_pos (by omega)) (by rw [e0, eN]; omega) (by rw [e1, eN]; omega) (fun _ _ => rfl) hfr hlo hdg (fun H1 locs1 hP hD hS => ?_)
  rw [e0, e1, eN, wcat_set hp1 hq1, hset] at hP hD
  exact kk H1 locs1 ⟨hP, hD, hS⟩
end CU
abbrev zcpT (ρ : MS) (d i e j n : Nat) : MS := sA ρ 46 (zlay (fun k => ρ.2 46 (100 * d + i + k)) (ρ.2 46) (100 * e + j) n)
theorem zcpT_46 {ρ : MS} {d i e j n a : Nat} : (zcpT ρ d i e j n).2 46 a = if 100 * e + j ≤ a ∧ a < 100 * e + j + n then ρ.2 46 (100 * d + i + (a - (100 * e + j))) else ρ.2 46 a := rfl
theorem sel_cpy {ρ : MS} {d i e j n : Nat} (hi : i + n ≤ ρ.2 45 d) (hj : j + n ≤ ρ.2 45 e) : va_cpy (sel ρ d) (sel ρ e) i j n = sel (zcpT ρ d i e j n) e := by
  funext k
  show (if j ≤ k ∧ k < j + n then sel ρ d (i + (k - j)) else sel ρ e k) = if k < ρ.2 45 e then (lN ((zcpT ρ d i e j n).2 46 (100 * e + k))).toInt32 else 0
  rw [zcpT_46]
  by_cases h : j ≤ k ∧ k < j + n
  · rw [if_pos h, if_pos (show k < ρ.2 45 e by omega), if_pos (show 100 * e + j ≤ 100 * e + k ∧ 100 * e + k < 100 * e + j + n by omega)]
    unfold sel
    rw [if_pos (by omega), show 100 * d + i + (100 * e + k - (100 * e + j)) = 100 * d + (i + (k - j)) by omega]
  · rw [if_neg h, if_neg (show ¬ (100 * e + j ≤ 100 * e + k ∧ 100 * e + k < 100 * e + j + n) by omega)]
    rfl
theorem shF_cpn {Z : Nat → ClassId} {sb sc : Nat → Nat} {ρ : MS} {d i e j n k : Nat} (hs : zSh ρ) (hj : j + n ≤ ρ.2 45 e) (hn : ρ.2 45 e ≤ 100) (hk : k < 8) (hne : k ≠ e) : shF Z sb sc ρ k = shF Z sb sc (zcpT ρ d i e j n) k := by
  refine shF_ne rfl rfl rfl rfl rfl (fun e2 q hq => ?_)
  have hn2 := (hs.2.2 k hk e2).2
  rw [zcpT_46, if_neg (by omega)]
theorem shF_cpy {Z : Nat → ClassId} {sb sc : Nat → Nat} {ρ : MS} {d i e j n : Nat} (hs : zSh ρ) (he : ρ.2 41 e = 2) (hi : i + n ≤ ρ.2 45 d) (hj : j + n ≤ ρ.2 45 e) (hn : ρ.2 45 e ≤ 100) : ∀ k, k < 8 → shUp (shF Z sb sc ρ) e (roP Z (sb e, sc e) (ρ.2 44 e) (ρ.2 45 e) (va_cpy (sel ρ d) (sel ρ e) i j n)) k = shF Z sb sc (zcpT ρ d i e j n) k := by
  intro k hk
  unfold shUp
  by_cases h : k = e
  · subst h
    rw [if_pos rfl, shF_2 (ρ := zcpT ρ d i k j n) he, sel_cpy hi hj]
    rfl
  · rw [if_neg h]
    exact shF_cpn hs hj hn hk h
theorem shF_cpy2 {Z : Nat → ClassId} {sb sc : Nat → Nat} {ρ : MS} {d i e j n : Nat} (hde : d ≠ e) (hs : zSh ρ) (he : ρ.2 41 e = 2) (hi : i + n ≤ ρ.2 45 d) (hj : j + n ≤ ρ.2 45 e) (hn : ρ.2 45 e ≤ 100) : ∀ k, k < 8 → shUp (shNo (shF Z sb sc ρ) d) e (roP Z (sb e, sc e) (ρ.2 44 e) (ρ.2 45 e) (va_cpy (sel ρ d) (sel ρ e) i j n)) k = shNo (shF Z sb sc (zcpT ρ d i e j n)) d k := by
  intro k hk
  have h0 := shF_cpy (Z := Z) (sb := sb) (sc := sc) hs he hi hj hn k hk
  unfold shNo
  unfold shUp at h0 ⊢
  by_cases h : k = e
  · rw [if_pos h] at h0 ⊢
    rw [if_neg (by omega)]
    exact h0
  · rw [if_neg h] at h0 ⊢
    show (if k = d then [] else shF Z sb sc ρ k) = _
    rw [h0]
theorem shF_cpd {Z : Nat → ClassId} {sb sc : Nat → Nat} {ρ : MS} {d i e j n : Nat} (hde : d ≠ e) (hd8 : d < 8) (hs : zSh ρ) (hd : ρ.2 41 d = 2) (hj : j + n ≤ ρ.2 45 e) (hn : ρ.2 45 e ≤ 100) : shF Z sb sc (zcpT ρ d i e j n) d = roP Z (sb d, sc d) (ρ.2 44 d) (ρ.2 45 d) (sel ρ d) := by
  rw [← shF_cpn hs hj hn hd8 hde]
  exact shF_2 hd
theorem zcop_1 {ρ : MS} {d i e j n : Int32} (h : ¬ (zir d 8 ∧ zir e 8)) : (-1 : Int32) = zcopyS ρ d i e j n ∧ ρ = zcopyT ρ d i e j n := by
  unfold zcopyS zcopyT
  rw [if_pos h, if_pos h]
  exact ⟨rfl, rfl⟩
theorem shE_0 {ρ : MS} {d : Nat} (hs : zSh ρ) (hd : d < 8) : shE (ρ.2 41) (nI d) ↔ ρ.2 41 d = 0 := by
  have := hs.1 d hd
  unfold shE
  rw [nI_N (by omega)]
  constructor
  · intro h
    rcases (show ρ.2 41 d = 0 ∨ ρ.2 41 d = 1 ∨ ρ.2 41 d = 2 by omega) with g | g | g
    · exact g
    · exact absurd ⟨zir_N hd (by decide), Or.inl g⟩ h
    · exact absurd ⟨zir_N hd (by decide), Or.inr g⟩ h
  · rintro h ⟨-, g⟩
    omega
theorem zcop_2 {ρ : MS} {d e : Nat} {i j n : Int32} (hs : zSh ρ) (hd : d < 8) (he : e < 8) (h : shE (ρ.2 41) (nI d) ∨ shE (ρ.2 41) (nI e)) : (-11 : Int32) = zcopyS ρ (nI d) i (nI e) j n ∧ ρ = zcopyT ρ (nI d) i (nI e) j n := by
  rw [shE_0 hs hd, shE_0 hs he] at h
  have hz : ¬ ¬ (zir (nI d) 8 ∧ zir (nI e) 8) := fun q => q ⟨zir_N hd (by decide), zir_N he (by decide)⟩
  have h3 : ρ.2 41 (nI d).toInt.toNat = 0 ∨ ρ.2 41 (nI e).toInt.toNat = 0 := by rw [nI_N (by omega), nI_N (by omega)]; exact h
  unfold zcopyS zcopyT
  rw [if_neg hz, if_neg hz, if_pos h3, if_pos h3]
  exact ⟨rfl, rfl⟩
theorem zcop_b {ρ : MS} {d e : Nat} {i j n : Int32} (hs : zSh ρ) (hd : d < 8) (he : e < 8) (h1 : ¬ shE (ρ.2 41) (nI d)) (h2 : ¬ shE (ρ.2 41) (nI e)) : zcopyS ρ (nI d) i (nI e) j n = (if ¬ zcop2 ρ (nI d) (nI e) then -12 else if ¬ zcopV ρ (nI d) i (nI e) j n then -13 else n) ∧ zcopyT ρ (nI d) i (nI e) j n = (if ¬ zcop2 ρ (nI d) (nI e) then ρ else if ¬ zcopV ρ (nI d) i (nI e) j n then ρ else sA ρ 46 (zlay (fun k => ρ.2 46 (100 * (nI d).toInt.toNat + i.toInt.toNat + k)) (ρ.2 46) (100 * (nI e).toInt.toNat + j.toInt.toNat) n.toInt.toNat)) := by
  rw [shE_0 hs hd] at h1
  rw [shE_0 hs he] at h2
  have hz : ¬ ¬ (zir (nI d) 8 ∧ zir (nI e) 8) := fun q => q ⟨zir_N hd (by decide), zir_N he (by decide)⟩
  have h3 : ¬ (ρ.2 41 (nI d).toInt.toNat = 0 ∨ ρ.2 41 (nI e).toInt.toNat = 0) := by rw [nI_N (by omega), nI_N (by omega)]; omega
  unfold zcopyS zcopyT
  rw [if_neg hz, if_neg hz, if_neg h3, if_neg h3]
  exact ⟨rfl, rfl⟩
theorem zcop_3 {ρ : MS} {d e : Nat} {i j n : Int32} (hs : zSh ρ) (hd : d < 8) (he : e < 8) (h1 : ¬ shE (ρ.2 41) (nI d)) (h2 : ¬ shE (ρ.2 41) (nI e)) (h : ¬ (ρ.2 41 d = 2 ∧ ρ.2 41 e = 2 ∧ ρ.2 44 d = ρ.2 44 e)) : (-12 : Int32) = zcopyS ρ (nI d) i (nI e) j n ∧ ρ = zcopyT ρ (nI d) i (nI e) j n := by
  obtain ⟨q1, q2⟩ := zcop_b (i := i) (j := j) (n := n) hs hd he h1 h2
  have h3 : ¬ zcop2 ρ (nI d) (nI e) := by unfold zcop2; rw [nI_N (by omega), nI_N (by omega)]; exact h
  rw [q1, q2, if_pos h3, if_pos h3]
  exact ⟨rfl, rfl⟩
theorem zcop_4 {ρ : MS} {d e : Nat} {i j n : Int32} (hs : zSh ρ) (hd : d < 8) (he : e < 8) (h1 : ¬ shE (ρ.2 41) (nI d)) (h2 : ¬ shE (ρ.2 41) (nI e)) (h : ρ.2 41 d = 2 ∧ ρ.2 41 e = 2 ∧ ρ.2 44 d = ρ.2 44 e) (hv : ¬ (zhs i n (ρ.2 45 d) ∧ zhs j n (ρ.2 45 e))) : (-13 : Int32) = zcopyS ρ (nI d) i (nI e) j n ∧ ρ = zcopyT ρ (nI d) i (nI e) j n := by
  obtain ⟨q1, q2⟩ := zcop_b (i := i) (j := j) (n := n) hs hd he h1 h2
  have h3 : ¬ ¬ zcop2 ρ (nI d) (nI e) := fun q => q (by unfold zcop2; rw [nI_N (by omega), nI_N (by omega)]; exact h)
  have h4 : ¬ zcopV ρ (nI d) i (nI e) j n := by unfold zcopV; rw [nI_N (by omega), nI_N (by omega)]; exact fun q => hv ⟨⟨q.1, q.2.1, q.2.2.2.1⟩, q.1, q.2.2.1, q.2.2.2.2⟩
  rw [q1, q2, if_neg h3, if_neg h3, if_pos h4, if_pos h4]
  exact ⟨rfl, rfl⟩
theorem zcop_5 {ρ : MS} {d e i j n : Nat} (hs : zSh ρ) (hd : d < 8) (he : e < 8) (h1 : ¬ shE (ρ.2 41) (nI d)) (h2 : ¬ shE (ρ.2 41) (nI e)) (h : ρ.2 41 d = 2 ∧ ρ.2 41 e = 2 ∧ ρ.2 44 d = ρ.2 44 e) (hi : i + n ≤ ρ.2 45 d) (hj : j + n ≤ ρ.2 45 e) : nI n = zcopyS ρ (nI d) (nI i) (nI e) (nI j) (nI n) ∧ zcpT ρ d i e j n = zcopyT ρ (nI d) (nI i) (nI e) (nI j) (nI n) := by
  obtain ⟨q1, q2⟩ := zcop_b (i := nI i) (j := nI j) (n := nI n) hs hd he h1 h2
  have g1 := (hs.2.2 d hd h.1).2
  have g2 := (hs.2.2 e he h.2.1).2
  have h3 : ¬ ¬ zcop2 ρ (nI d) (nI e) := fun q => q (by unfold zcop2; rw [nI_N (by omega), nI_N (by omega)]; exact h)
  have h4 : ¬ ¬ zcopV ρ (nI d) (nI i) (nI e) (nI j) (nI n) := fun q => q (by unfold zcopV; rw [nI_N (by omega), nI_N (by omega), zi_of (show i < 2147483648 by omega), zi_of (show j < 2147483648 by omega), zi_of (show n < 2147483648 by omega)]; exact ⟨by omega, by omega, by omega, by omega, by omega⟩)
  rw [q1, q2, if_neg h3, if_neg h3, if_neg h4, if_neg h4, nI_N (show d < 2147483648 by omega), nI_N (show e < 2147483648 by omega), nI_N (show i < 2147483648 by omega), nI_N (show j < 2147483648 by omega), nI_N (show n < 2147483648 by omega)]
  exact ⟨rfl, rfl⟩
