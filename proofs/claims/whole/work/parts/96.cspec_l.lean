/-! THE FACE'S WORDS, BY A LAND THAT IS WORKED OUT -/
theorem zout2 {x : Int32} (h0 : ¬ x = nI 0) (h1 : ¬ x = nI 1) (h2 : ¬ x = nI 2) : x.toInt < 0 ∨ 2 < x.toInt := by
  rcases Int.lt_or_le x.toInt 0 with q | q
  · exact Or.inl q
  · rcases Int.lt_or_le 2 x.toInt with q2 | q2
    · exact Or.inr q2
    · exfalso
      obtain ⟨j, hj, rfl⟩ := zi_in (n := 3) (by decide) ⟨q, by omega⟩
      rcases (show j = 0 ∨ j = 1 ∨ j = 2 by omega) with rfl | rfl | rfl
      · exact h0 rfl
      · exact h1 rfl
      · exact h2 rfl
theorem znot3 {x : Int32} (h : x.toInt < 0 ∨ 2 < x.toInt) : ¬ zir x 3 := fun q => by
  have h1 := q.1
  have h2 := q.2
  omega
theorem zroadS_n1 {τ : MS} {r k : Int32} (h : ¬ zir r (τ.1 0)) : zroadS τ r k = -1 := if_pos (fun q => h q.1)
theorem zroadS_n2 {τ : MS} {r k : Int32} (h : ¬ zir k 3) : zroadS τ r k = -1 := if_pos (fun q => h q.2)
theorem zroadS_0 {τ : MS} {j : Nat} (hj : j < τ.1 0) (hn : τ.1 0 ≤ 16) : zroadS τ (nI j) (nI 0) = nI (τ.2 1 j) := by
  unfold zroadS
  rw [if_neg (fun q => q ⟨zir_N hj (by omega), by decide⟩), if_pos (show (nI 0 : Int32) = 0 by decide), nI_N (by omega)]
theorem zroadS_1 {τ : MS} {j : Nat} (hj : j < τ.1 0) (hn : τ.1 0 ≤ 16) : zroadS τ (nI j) (nI 1) = nI (τ.2 2 j) := by
  unfold zroadS
  rw [if_neg (fun q => q ⟨zir_N hj (by omega), by decide⟩), if_neg (by decide), if_pos rfl, nI_N (by omega)]
theorem zroadS_2 {τ : MS} {j : Nat} (hj : j < τ.1 0) (hn : τ.1 0 ≤ 16) : zroadS τ (nI j) (nI 2) = nI (τ.2 3 j) := by
  unfold zroadS
  rw [if_neg (fun q => q ⟨zir_N hj (by omega), by decide⟩), if_neg (by decide), if_neg (by decide), nI_N (by omega)]
theorem zworldS_n1 {τ : MS} {r k : Int32} (h : ¬ zir r (τ.1 4)) : zworldS τ r k = -1 := if_pos (fun q => h q.1)
theorem zworldS_n2 {τ : MS} {r k : Int32} (h : ¬ zir k 3) : zworldS τ r k = -1 := if_pos (fun q => h q.2)
theorem zworldS_0 {τ : MS} {j : Nat} (hj : j < τ.1 4) (hn : τ.1 4 ≤ 5) : zworldS τ (nI j) (nI 0) = nI (τ.2 5 j) := by
  unfold zworldS
  rw [if_neg (fun q => q ⟨zir_N hj (by omega), by decide⟩), if_pos (show (nI 0 : Int32) = 0 by decide), nI_N (by omega)]
theorem zworldS_1 {τ : MS} {j : Nat} (hj : j < τ.1 4) (hn : τ.1 4 ≤ 5) : zworldS τ (nI j) (nI 1) = nI (τ.2 6 j) := by
  unfold zworldS
  rw [if_neg (fun q => q ⟨zir_N hj (by omega), by decide⟩), if_neg (by decide), if_pos rfl, nI_N (by omega)]
theorem zworldS_2 {τ : MS} {j : Nat} (hj : j < τ.1 4) (hn : τ.1 4 ≤ 5) : zworldS τ (nI j) (nI 2) = nI (τ.2 7 j) := by
  unfold zworldS
  rw [if_neg (fun q => q ⟨zir_N hj (by omega), by decide⟩), if_neg (by decide), if_neg (by decide), nI_N (by omega)]
theorem zmetS_v {τ : MS} {c s : Nat} (hc : c < 8) (hs : s < τ.1 8) (hn : τ.1 8 ≤ 6) : zmetS τ (nI c) (nI s) = nI (τ.2 11 (6 * c + s)) := by
  unfold zmetS
  rw [if_neg (fun q => q ⟨zir_N hc (by decide), zir_N hs (by omega)⟩), nI_N (by omega), nI_N (by omega)]
def zsetC (τ : MS) (k x : Int32) : MS := if k = nI 0 ∧ zir x 8 then sF τ 12 x.toInt.toNat else if k = nI 1 ∧ zir x 31 then sF τ 13 x.toInt.toNat else τ
def zwayC (τ : MS) (w c : Int32) : Int32 := if ¬ (zir w (τ.1 4) ∧ zir c 8) then -1 else nI (τ.2 27 (8 * w.toInt.toNat + c.toInt.toNat))
theorem zwayC_v {τ : MS} {w c : Nat} (hw : w < τ.1 4) (hc : c < 8) (hn : τ.1 4 ≤ 5) : zwayC τ (nI w) (nI c) = nI (τ.2 27 (8 * w + c)) := by
  unfold zwayC
  rw [if_neg (fun q => q ⟨zir_N hw (by omega), zir_N hc (by decide)⟩), nI_N (by omega), nI_N (by omega)]
def znextC (τ : MS) (w c : Int32) : Int32 := if ¬ (zir w (τ.1 4) ∧ zir c 8) then -1 else if 0 ≤ nI (τ.2 60 (8 * w.toInt.toNat + c.toInt.toNat)) then nI (τ.2 60 (8 * w.toInt.toNat + c.toInt.toNat)) else -4
theorem znextC_v {τ : MS} {w c : Nat} (hw : w < τ.1 4) (hc : c < 8) (hn : τ.1 4 ≤ 5) : znextC τ (nI w) (nI c) = if 0 ≤ nI (τ.2 60 (8 * w + c)) then nI (τ.2 60 (8 * w + c)) else -4 := by
  unfold znextC
  rw [if_neg (fun q => q ⟨zir_N hw (by omega), zir_N hc (by decide)⟩), nI_N (by omega), nI_N (by omega)]
def zsaysC (τ : MS) (s c w : Int32) : Int32 := if ¬ (zir s (τ.1 8) ∧ zir c 8 ∧ zir w (τ.1 4)) then -1 else nI (zsaid τ s.toInt.toNat c.toInt.toNat w.toInt.toNat)
theorem zsaysC_v {τ : MS} {s c w : Nat} (hs : s < τ.1 8) (hn8 : τ.1 8 ≤ 6) (hw : w < τ.1 4) (hc : c < 8) (hn : τ.1 4 ≤ 5) : zsaysC τ (nI s) (nI c) (nI w) = nI (zsaid τ s c w) := by
  unfold zsaysC
  rw [if_neg (fun q => q ⟨zir_N hs (by omega), zir_N hc (by decide), zir_N hw (by omega)⟩), nI_N (by omega), nI_N (by omega), nI_N (by omega)]
def zchanC (τ : MS) (c a w : Int32) : Int32 := if ¬ (zir c 8 ∧ zanR τ a ∧ zir w (τ.1 4)) then -1 else nI (τ.2 62 (5 * zplc c.toInt.toNat (iN a) + w.toInt.toNat))
theorem zchanC_v {τ : MS} {c a w : Nat} (hc : c < 8) (ha : zanR τ (nI a)) (hi : iN (nI a) = a) (hw : w < τ.1 4) (hn : τ.1 4 ≤ 5) : zchanC τ (nI c) (nI a) (nI w) = nI (τ.2 62 (5 * zplc c a + w)) := by
  unfold zchanC
  rw [if_neg (fun q => q ⟨zir_N hc (by decide), ha, zir_N hw (by omega)⟩), nI_N (by omega), nI_N (by omega), hi]
theorem iN_nI {a : Nat} (h : a < 4294967296) : iN (nI a) = a := by
  show (BitVec.ofNat 32 a).toNat = a
  rw [BitVec.toNat_ofNat]
  exact Nat.mod_eq_of_lt h
theorem zanR_of {τ : MS} {a : Int32} (hn : τ.1 4 ≤ 5) (h : zanR τ a) : ∃ j, (j < 5 ∨ j = 4294967295) ∧ a = nI j ∧ iN (nI j) = j := by
  rcases Int.lt_or_le a.toInt 0 with q | q
  · refine ⟨4294967295, Or.inr rfl, ?_, iN_nI (by decide)⟩
    have e : a.toInt = (nI 4294967295).toInt := by
      have h1 := h.1
      have e2 : (nI 4294967295).toInt = -1 := by decide
      omega
    exact Int32.toInt_inj.mp e
  · obtain ⟨j, hj, rfl⟩ := zi_in (n := τ.1 4) (by omega) ⟨q, h.2⟩
    exact ⟨j, Or.inl (by omega), rfl, iN_nI (by omega)⟩
theorem zanR_m1 {τ : MS} : zanR τ (nI 4294967295) := by
  have e2 : (nI 4294967295).toInt = -1 := by decide
  refine ⟨?_, ?_⟩
  · omega
  · omega
theorem zanR_in {τ : MS} {a : Int32} (h : zir a (τ.1 4)) : zanR τ a := by
  have h1 := h.1
  have h2 := h.2
  exact ⟨by omega, h2⟩
theorem zanR_no {τ : MS} {a : Int32} (h1 : ¬ a = nI 4294967295) (h2 : ¬ zir a (τ.1 4)) : ¬ zanR τ a := fun q => by
  rcases Int.lt_or_le a.toInt 0 with r | r
  · refine h1 (Int32.toInt_inj.mp ?_)
    have h3 := q.1
    have e2 : (nI 4294967295).toInt = -1 := by decide
    omega
  · exact h2 ⟨r, q.2⟩
def zlaR (τ : MS) (K : Nat → Nat) : Int32 := if zready τ ∧ ¬ zgall K 5 = 0 then nI (zbest (zset 5 K) 5) else -3
def zlaF (τ : MS) (F K : Nat → Nat) : Nat → Nat := if zready τ ∧ ¬ zgall K 5 = 0 then zset 5 K else F
def zansC (τ : MS) (F : Nat → Nat) (c a : Int32) : Int32 := if ¬ (zir c 8 ∧ zanR τ a) then -1 else zlaR τ (zhe5 τ F (zplc c.toInt.toNat (iN a)))
def zansF (τ : MS) (F : Nat → Nat) (c a : Int32) : Nat → Nat := if ¬ (zir c 8 ∧ zanR τ a) then F else zlaF τ F (zhe5 τ F (zplc c.toInt.toNat (iN a)))
theorem zansC_v {τ : MS} {F : Nat → Nat} {c a : Nat} (hc : c < 8) (ha : zanR τ (nI a)) (hi : iN (nI a) = a) : zansC τ F (nI c) (nI a) = zlaR τ (zhe5 τ F (zplc c a)) ∧ zansF τ F (nI c) (nI a) = zlaF τ F (zhe5 τ F (zplc c a)) := by
  unfold zansC zansF
  rw [if_neg (fun q => q ⟨zir_N hc (by decide), ha⟩), if_neg (fun q => q ⟨zir_N hc (by decide), ha⟩), nI_N (by omega), hi]
  exact ⟨rfl, rfl⟩
def zfndC (τ : MS) (F : Nat → Nat) (r : Int32) (b : Nat) : Int32 := if ¬ zir r (τ.1 0) then -1 else zlaR τ (zseeM τ F r.toInt.toNat b)
def zfndF (τ : MS) (F : Nat → Nat) (r : Int32) (b : Nat) : Nat → Nat := if ¬ zir r (τ.1 0) then F else zlaF τ F (zseeM τ F r.toInt.toNat b)
theorem zfndC_v {τ : MS} {F : Nat → Nat} {r b : Nat} (hr : r < τ.1 0) (hn : τ.1 0 ≤ 16) : zfndC τ F (nI r) b = zlaR τ (zseeM τ F r b) ∧ zfndF τ F (nI r) b = zlaF τ F (zseeM τ F r b) := by
  unfold zfndC zfndF
  rw [if_neg (fun q => q (zir_N hr (by omega))), if_neg (fun q => q (zir_N hr (by omega))), nI_N (by omega)]
  exact ⟨rfl, rfl⟩
def zsamC (τ : MS) (F : Nat → Nat) (c a q : Int32) : Int32 := if ¬ (zir c 8 ∧ zanR τ a ∧ zir q 101) then -1 else zlaR τ (zhe2 τ F (zplc c.toInt.toNat (iN a)) q.toInt.toNat)
def zsamF (τ : MS) (F : Nat → Nat) (c a q : Int32) : Nat → Nat := if ¬ (zir c 8 ∧ zanR τ a ∧ zir q 101) then F else zlaF τ F (zhe2 τ F (zplc c.toInt.toNat (iN a)) q.toInt.toNat)
theorem zsamC_v {τ : MS} {F : Nat → Nat} {c a q : Nat} (hc : c < 8) (ha : zanR τ (nI a)) (hi : iN (nI a) = a) (hq : q < 101) : zsamC τ F (nI c) (nI a) (nI q) = zlaR τ (zhe2 τ F (zplc c a) q) ∧ zsamF τ F (nI c) (nI a) (nI q) = zlaF τ F (zhe2 τ F (zplc c a) q) := by
  unfold zsamC zsamF
  rw [if_neg (fun q => q ⟨zir_N hc (by decide), ha, zir_N hq (by decide)⟩), if_neg (fun q => q ⟨zir_N hc (by decide), ha, zir_N hq (by decide)⟩), nI_N (by omega), hi, nI_N (by omega)]
  exact ⟨rfl, rfl⟩
theorem zset5_lt {K : Nat → Nat} (h : ∀ w, w < 5 → K w < 9223372036854775808) : ∀ w, w < 5 → zset 5 K w < 9223372036854775808 := fun w hw => Nat.lt_of_le_of_lt (zset_le h w hw) (by decide)
def zthkC (τ : MS) (F : Nat → Nat) (w k : Int32) : Int64 := if ¬ (zir w (τ.1 4) ∧ zir k 2) then -4000000000000000001 else if ¬ zready τ ∨ Nat.gcd (F w.toInt.toNat) (zsum F 5) = 0 then -4000000000000000003 else if k = 0 then lN (F w.toInt.toNat / Nat.gcd (F w.toInt.toNat) (zsum F 5)) else lN (zsum F 5 / Nat.gcd (F w.toInt.toNat) (zsum F 5))
theorem zthkC_v {τ : MS} {F : Nat → Nat} {w : Nat} {k : Int32} (hw : w < τ.1 4) (hn : τ.1 4 ≤ 5) (hk : zir k 2) : zthkC τ F (nI w) k = if ¬ zready τ ∨ Nat.gcd (F w) (zsum F 5) = 0 then -4000000000000000003 else if k = 0 then lN (F w / Nat.gcd (F w) (zsum F 5)) else lN (zsum F 5 / Nat.gcd (F w) (zsum F 5)) := by
  unfold zthkC
  rw [if_neg (fun q => q ⟨zir_N hw (by omega), hk⟩), nI_N (by omega)]
/-- what a shelf lacks -/
abbrev shE (h : Nat → Nat) (xd : Int32) : Prop := ¬ (zir xd 8 ∧ (h xd.toInt.toNat = 1 ∨ h xd.toInt.toNat = 2))
def shL (h : Nat → Nat) (xd : Int32) : Int32 := if ¬ zir xd 8 then -1 else if shE h xd then -11 else -12
theorem zsetC_0 {τ : MS} {k : Int32} {j : Nat} (hk : k = 0) (hj : j < 8) : zsetS τ k (nI j) = nI (τ.1 12) ∧ zsetC τ k (nI j) = sF τ 12 j := by
  unfold zsetS zsetC
  have h : k = nI 0 ∧ zir (nI j) 8 := ⟨hk, zir_N hj (by decide)⟩
  rw [if_pos h, if_pos h, nI_N (by omega)]
  exact ⟨rfl, rfl⟩
theorem zsetC_1 {τ : MS} {k : Int32} {j : Nat} (hk : k = nI 1) (hj : j < 31) : zsetS τ k (nI j) = nI (τ.1 13) ∧ zsetC τ k (nI j) = sF τ 13 j := by
  unfold zsetS zsetC
  have h : k = nI 1 ∧ zir (nI j) 31 := ⟨hk, zir_N hj (by decide)⟩
  have h0 : ¬ (k = nI 0 ∧ zir (nI j) 8) := fun q => absurd (hk.symm.trans q.1) (by decide)
  rw [if_neg h0, if_neg h0, if_pos h, if_pos h, nI_N (by omega)]
  exact ⟨rfl, rfl⟩
theorem zsetC_n {τ : MS} {k x : Int32} (h0 : ¬ (k = nI 0 ∧ zir x 8)) (h1 : ¬ (k = nI 1 ∧ zir x 31)) : zsetS τ k x = -1 ∧ zsetC τ k x = τ := by
  unfold zsetS zsetC
  rw [if_neg h0, if_neg h0, if_neg h1, if_neg h1]
  exact ⟨rfl, rfl⟩
