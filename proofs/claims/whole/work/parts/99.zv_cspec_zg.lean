/-! LINKS: THOUGHTS -/
/-- a thought F of the class shows the thought G of the reference -/
def zTh (n : Nat) (F G : Nat → Nat) : Prop := zM n F ∧ zsame n F G
section LT
variable {σ τ : MS} {F : Nat → Nat}
/-- K: what the class weighs afresh, H: what the reference does -/
theorem lk_4 (h : zAg (zf σ) τ) : σ.1 4 = τ.1 4 := h.1.2.1
theorem lk_la (h : zAg (zf σ) τ) (hn : τ.1 4 ≤ 5) {K H : Nat → Nat} (hs : zsame (τ.1 4) K H) (hz : ∀ w, τ.1 4 ≤ w → w < 5 → K w = 0) : zlaR τ K = if ¬ zready σ then -3 else zkeepR σ H := by
  have e4 := lk_4 h
  have e1 : zgall K 5 = zgall H (σ.1 4) := by rw [e4]; exact (zgall_ext hn hz).trans (zgall_cong hs)
  obtain ⟨x1, x2⟩ := zset_ext hn hs hz
  have e2 : zbest (zset 5 K) 5 = zbest (zset (σ.1 4) H) (σ.1 4) := by rw [e4]; exact (zbest_ext hn x2).trans (zbest_cong x1)
  unfold zlaR zkeepR
  rw [e1, e2]
  by_cases q : zready τ
  · rw [if_neg (not_not_intro ((lk_ready h).mpr q))]
    by_cases q2 : zgall H (σ.1 4) = 0
    · rw [if_neg (fun x => x.2 q2), if_pos q2]
    · rw [if_pos ⟨q, q2⟩, if_neg q2]
  · rw [if_pos (show ¬ zready σ from fun x => q ((lk_ready h).mp x)), if_neg (fun x => q x.1)]
theorem lk_laF (h : zAg (zf σ) τ) (hn : τ.1 4 ≤ 5) (hF : zTh (τ.1 4) F (σ.2 14)) {K H : Nat → Nat} (hb : ∀ w, w < 5 → K w < 9223372036854775808) (hs : zsame (τ.1 4) K H) (hz : ∀ w, τ.1 4 ≤ w → w < 5 → K w = 0) : zTh (τ.1 4) (zlaF τ F K) (if ¬ zready σ then σ.2 14 else (zkeepT σ H).2 14) := by
  have e4 := lk_4 h
  have e1 : zgall K 5 = zgall H (σ.1 4) := by rw [e4]; exact (zgall_ext hn hz).trans (zgall_cong hs)
  obtain ⟨x1, x2⟩ := zset_ext hn hs hz
  unfold zlaF zkeepT
  rw [e1]
  by_cases q : zready τ
  · rw [if_neg (not_not_intro ((lk_ready h).mpr q))]
    by_cases q2 : zgall H (σ.1 4) = 0
    · rw [if_neg (fun x => x.2 q2), if_pos q2]
      exact hF
    · rw [if_pos ⟨q, q2⟩, if_neg q2]
      refine ⟨zM_set hn hb hz, fun w hw => (x1 w hw).trans ?_⟩
      show _ = zcp (zset (σ.1 4) H) (σ.2 14) (σ.1 4) w
      rw [e4, zcp_in hw]
  · rw [if_pos (show ¬ zready σ from fun x => q ((lk_ready h).mp x)), if_neg (fun x => q x.1)]
    exact hF
theorem lk_anew (h : zAg (zf σ) τ) (hok : mOk τ) : (if zready τ then nI (zbest (zch5 τ) 5) else -3) = zanewS σ := by
  have hn := hok.2.1
  have hz : ∀ w, τ.1 4 ≤ w → w < 5 → zch5 τ w = 0 := fun w h1 _ => if_neg (by omega)
  have e : zbest (zch5 τ) 5 = zbest (σ.2 5) (σ.1 4) := by
    rw [(lk_fields h).2.1]
    refine (zbest_ext hn hz).trans (zbest_cong (fun w hw => ?_))
    unfold zch5
    rw [if_pos hw]
    exact ((h.2.2.1 w hw).1).symm
  unfold zanewS
  rw [e]
  by_cases q : zready τ
  · rw [if_pos q, if_pos ((lk_ready h).mpr q)]
  · rw [if_neg q, if_neg (fun x => q ((lk_ready h).mp x))]
theorem lk_ch5 (h : zAg (zf σ) τ) (hok : mOk τ) : zTh (τ.1 4) (zch5 τ) (σ.2 5) := by
  refine ⟨⟨fun w hw => ?_, fun w h1 _ => if_neg (by omega)⟩, fun w hw => ?_⟩
  · unfold zch5
    split
    · rename_i q
      have := (hok.2.2.2.2.1 w q).2.1
      omega
    · omega
  · unfold zch5
    rw [if_pos hw]
    exact ((h.2.2.1 w hw).1).symm
theorem lk_anewF (h : zAg (zf σ) τ) (hok : mOk τ) (hF : zTh (τ.1 4) F (σ.2 14)) : zTh (τ.1 4) (if zready τ then zch5 τ else F) ((zanewT σ).2 14) := by
  unfold zanewT
  by_cases q : zready τ
  · rw [if_pos q, if_pos ((lk_ready h).mpr q)]
    have e := lk_ch5 h hok
    refine ⟨e.1, fun w hw => (e.2 w hw).trans ?_⟩
    show _ = zcp (σ.2 5) (σ.2 14) (σ.1 4) w
    rw [(lk_fields h).2.1, zcp_in hw]
  · rw [if_neg q, if_neg (fun x => q ((lk_ready h).mp x))]
    exact hF
theorem lk_he (h : zAg (zf σ) τ) (hT : tOk τ) (h28 : τ.1 28 = 4294967295) (hF : zTh (τ.1 4) F (σ.2 14)) {c a : Nat} (hc : c < 8) (ha : a < 5 ∨ a = 4294967295) : (∀ w, w < 5 → zhe5 τ F (zplc c a) w < 9223372036854775808) ∧ zsame (τ.1 4) (zhe5 τ F (zplc c a)) (zhearM (zf σ) (σ.2 14) c a) ∧ ∀ w, τ.1 4 ≤ w → w < 5 → zhe5 τ F (zplc c a) w = 0 := by
  have hpl := zplc_lt hc ha
  refine ⟨fun w hw => ?_, fun w hw => ?_, fun w h1 h2 => ?_⟩
  · have h1 := Nat.mul_le_mul (hF.1.1 w hw) (hT.2.2.1 (5 * zplc c a + w) (by omega))
    show F w * τ.2 62 (5 * zplc c a + w) < _
    omega
  · show F w * τ.2 62 (5 * zplc c a + w) = σ.2 14 w * zhund (zf σ) c a w
    rw [hT.2.2.2.1 c a w hc ha hw, lk_hund h hT.1 h28 hc, hF.2 w hw]
  · unfold zhe5
    rw [hF.1.2 w h1 h2, Nat.zero_mul]
theorem lk_he2 (h : zAg (zf σ) τ) (hT : tOk τ) (h28 : τ.1 28 = 4294967295) (hF : zTh (τ.1 4) F (σ.2 14)) {c a q : Nat} (hc : c < 8) (ha : a < 5 ∨ a = 4294967295) (hq : q ≤ 100) : (∀ w, w < 5 → zhe2 τ F (zplc c a) q w < 9223372036854775808) ∧ zsame (τ.1 4) (zhe2 τ F (zplc c a) q) (zsamM (zf σ) (σ.2 14) c a q) ∧ ∀ w, τ.1 4 ≤ w → w < 5 → zhe2 τ F (zplc c a) q w = 0 := by
  have hpl := zplc_lt hc ha
  refine ⟨zhe2_lt hT.2.2.1 hF.1.1 hpl hq, fun w hw => ?_, fun w h1 h2 => ?_⟩
  · unfold zhe2 zsamM
    rw [hT.2.2.2.1 c a w hc ha hw, lk_hund h hT.1 h28 hc, hF.2 w hw, Nat.mul_assoc]
  · unfold zhe2
    rw [hF.1.2 w h1 h2, Nat.zero_mul, Nat.zero_mul]
theorem lk_see (h : zAg (zf σ) τ) (hF : zTh (τ.1 4) F (σ.2 14)) {r b : Nat} : (∀ w, w < 5 → zseeM τ F r b w < 9223372036854775808) ∧ zsame (τ.1 4) (zseeM τ F r b) (zseeM σ (σ.2 14) r b) ∧ ∀ w, τ.1 4 ≤ w → w < 5 → zseeM τ F r b w = 0 := by
  refine ⟨fun w hw => ?_, fun w hw => ?_, fun w h1 h2 => ?_⟩
  · have := hF.1.1 w hw
    show (if (if zshut τ w r then 1 else 0) = b then 0 else F w) < _
    by_cases q : (if zshut τ w r then 1 else 0) = b
    · rw [if_pos q]; omega
    · rw [if_neg q]; omega
  · have e : (if zshut σ w r then 1 else 0) = (if zshut τ w r then 1 else 0) := by
      have q := ag_shut h (w := w) (r := r) hw
      have q : zshut σ w r ↔ zshut τ w r := q
      by_cases q2 : zshut τ w r
      · rw [if_pos q2, if_pos (q.mpr q2)]
      · rw [if_neg q2, if_neg (fun x => q2 (q.mp x))]
    show (if (if zshut τ w r then 1 else 0) = b then 0 else F w) = if (if zshut σ w r then 1 else 0) = b then 0 else σ.2 14 w
    rw [e, hF.2 w hw]
  · show (if (if zshut τ w r then 1 else 0) = b then 0 else F w) = 0
    rw [hF.1.2 w h1 h2]
    by_cases q : (if zshut τ w r then 1 else 0) = b
    · rw [if_pos q]
    · rw [if_neg q]
theorem lk_answer (h : zAg (zf σ) τ) (hT : tOk τ) (h28 : τ.1 28 = 4294967295) (hF : zTh (τ.1 4) F (σ.2 14)) {c a : Int32} : zansC τ F c a = zanswerS σ c a ∧ zTh (τ.1 4) (zansF τ F c a) ((zanswerT σ c a).2 14) := by
  unfold zansC zanswerS zansF zanswerT
  have e4 : zanR σ a ↔ zanR τ a := by unfold zanR; rw [(lk_fields h).2.1]
  by_cases q : zir c 8 ∧ zanR τ a
  · have hn := hT.1.2.1
    obtain ⟨k1, k2, k3⟩ := lk_he h hT h28 hF (zir_N2 (by omega) q.1) (zanR_iN hn q.2)
    rw [if_neg (not_not_intro q), if_neg (not_not_intro q), if_neg (show ¬ ¬ (zir c 8 ∧ zanR σ a) from not_not_intro ⟨q.1, e4.mpr q.2⟩), if_neg (show ¬ ¬ (zir c 8 ∧ zanR σ a) from not_not_intro ⟨q.1, e4.mpr q.2⟩), lk_la h hn k2 k3]
    refine ⟨rfl, ?_⟩
    have e := lk_laF h hn hF k1 k2 k3
    by_cases q2 : zready σ
    · rw [if_neg (not_not_intro q2)] at e ⊢; exact e
    · rw [if_pos q2] at e ⊢; exact e
  · rw [if_pos q, if_pos q, if_pos (fun x => q ⟨x.1, e4.mp x.2⟩), if_pos (fun x => q ⟨x.1, e4.mp x.2⟩)]
    exact ⟨rfl, hF⟩
theorem lk_found (h : zAg (zf σ) τ) (hT : tOk τ) (hF : zTh (τ.1 4) F (σ.2 14)) {r : Int32} {b : Nat} : zfndC τ F r b = zfoundS σ r b ∧ zTh (τ.1 4) (zfndF τ F r b) ((zfoundT σ r b).2 14) := by
  unfold zfndC zfoundS zfndF zfoundT
  rw [(lk_fields h).1]
  by_cases q : zir r (τ.1 0)
  · have hn := hT.1.2.1
    obtain ⟨k1, k2, k3⟩ := lk_see h hF (r := r.toInt.toNat) (b := b)
    rw [if_neg (not_not_intro q), if_neg (not_not_intro q), if_neg (not_not_intro q), if_neg (not_not_intro q), lk_la h hn k2 k3]
    refine ⟨rfl, ?_⟩
    have e := lk_laF h hn hF k1 k2 k3
    by_cases q2 : zready σ
    · rw [if_neg (not_not_intro q2)] at e ⊢; exact e
    · rw [if_pos q2] at e ⊢; exact e
  · rw [if_pos q, if_pos q, if_pos q, if_pos q]
    exact ⟨rfl, hF⟩
theorem lk_same (h : zAg (zf σ) τ) (hT : tOk τ) (h28 : τ.1 28 = 4294967295) (hF : zTh (τ.1 4) F (σ.2 14)) {c a x : Int32} : zsamC τ F c a x = zsameS σ c a x ∧ zTh (τ.1 4) (zsamF τ F c a x) ((zsameT σ c a x).2 14) := by
  unfold zsamC zsameS zsamF zsameT
  have e4 : zanR σ a ↔ zanR τ a := by unfold zanR; rw [(lk_fields h).2.1]
  by_cases q : zir c 8 ∧ zanR τ a ∧ zir x 101
  · have hn := hT.1.2.1
    have hx := zir_N2 (by omega) q.2.2
    obtain ⟨k1, k2, k3⟩ := lk_he2 h hT h28 hF (zir_N2 (by omega) q.1) (zanR_iN hn q.2.1) (show x.toInt.toNat ≤ 100 by omega)
    rw [if_neg (not_not_intro q), if_neg (not_not_intro q), if_neg (show ¬ ¬ (zir c 8 ∧ zanR σ a ∧ zir x 101) from not_not_intro ⟨q.1, e4.mpr q.2.1, q.2.2⟩), if_neg (show ¬ ¬ (zir c 8 ∧ zanR σ a ∧ zir x 101) from not_not_intro ⟨q.1, e4.mpr q.2.1, q.2.2⟩), lk_la h hn k2 k3]
    refine ⟨rfl, ?_⟩
    have e := lk_laF h hn hF k1 k2 k3
    by_cases q2 : zready σ
    · rw [if_neg (not_not_intro q2)] at e ⊢; exact e
    · rw [if_pos q2] at e ⊢; exact e
  · rw [if_pos q, if_pos q, if_pos (fun x => q ⟨x.1, e4.mp x.2.1, x.2.2⟩), if_pos (fun x => q ⟨x.1, e4.mp x.2.1, x.2.2⟩)]
    exact ⟨rfl, hF⟩
theorem lk_sumF (h : zAg (zf σ) τ) (hn : τ.1 4 ≤ 5) (hF : zTh (τ.1 4) F (σ.2 14)) : zsum F 5 = zsum (σ.2 14) (σ.1 4) := by
  rw [(lk_fields h).2.1]
  exact (zsum_ext hn (fun w h1 h2 => hF.1.2 w h1 h2)).trans (zsum_cong _ hF.2)
theorem lk_think (h : zAg (zf σ) τ) (hT : tOk τ) (hF : zTh (τ.1 4) F (σ.2 14)) (hpos : zready σ → 0 < zsum (σ.2 14) (σ.1 4)) {w k : Int32} : zthkC τ F w k = zthinkS σ w k := by
  have hn := hT.1.2.1
  have e4 := lk_4 h
  have eq1 : zir w (σ.1 4) ↔ zir w (τ.1 4) := by rw [e4]
  unfold zthkC zthinkS
  rw [lk_sumF h hn hF]
  by_cases q : zir w (τ.1 4) ∧ zir k 2
  · rw [if_neg (not_not_intro q), if_neg (show ¬ ¬ (zir w (σ.1 4) ∧ zir k 2) from not_not_intro ⟨eq1.mpr q.1, q.2⟩), hF.2 _ (zir_N2 (by omega) q.1)]
    by_cases q2 : zready σ
    · have hp := hpos q2
      have hg : ¬ (¬ zready τ ∨ Nat.gcd (σ.2 14 w.toInt.toNat) (zsum (σ.2 14) (σ.1 4)) = 0) := by
        rintro (x | x)
        · exact x ((lk_ready h).mp q2)
        · have := (Nat.gcd_eq_zero_iff.mp x).2
          omega
      rw [if_neg hg, if_neg (not_not_intro q2)]
    · rw [if_pos (show ¬ zready τ ∨ _ from Or.inl (fun x => q2 ((lk_ready h).mpr x))), if_pos q2]
  · rw [if_pos q, if_pos (show ¬ (zir w (σ.1 4) ∧ zir k 2) from fun x => q ⟨eq1.mp x.1, x.2⟩)]
end LT
