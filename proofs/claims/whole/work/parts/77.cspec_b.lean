section CC
variable {p : Program} {l : Launch} {e : Env} {R : Room} {s : State} {m : MethodId} {args : Array Value} {below : List Frame} {meth : Method} {c : Code} {H : Heap} {locs : List Loc} {cells slots : Nat} {Q : State → Prop}
variable {cc : ByteArray} {pc : Nat} {ls : Array Slot} {rest : List Value} {D : va_G} {A : Nat → Prop} {E : (Nat → Prop) → State → Heap → Prop} {Z : Nat → ClassId} {own : String} {ps ps' : List va_W} {a : Nat} {idx : Nat}
theorem zcpy {α : Type} {f g : Nat → α} {N : Nat} {d : α} (hf : ∀ k, N ≤ k → f k = d) (hg : ∀ k, N ≤ k → g k = d) : va_cpy f g 0 0 N = f := by
  funext k
  unfold va_cpy
  by_cases h : k < N
  · rw [if_pos ⟨Nat.zero_le _, by omega⟩]
    congr 1
    omega
  · rw [if_neg (by omega), hf k (by omega), hg k (by omega)]
theorem zcl_out {n k : Nat} {f : Nat → Nat} (h : n ≤ k) : zcl n f k = 0 := if_neg (by omega)
theorem cr_copyl (hml : c.maxLocals = ls.size) (G : cG E p c cc s m args D Z own A) (X : wH D vwCl A s.heap H locs (wcat ps)) (i0 k0 i1 k1 : Nat) {p0 p1 : va_W} {a0 N : Nat} {f g : Nat → Nat} (hp0 : ps[i0]? = some p0) (hq0 : p0[k0]? = some (a0, .inl (Z 1, N, .inr (.inl (mj (zcl N f)))))) (hp1 : ps[i1]? = some p1) (hq1 : p1[k1]? = some (a, .inl (Z 1, N, .inr (.inl (mj (zcl N g)))))) (hN : N < 1000) (hlink : (Cond.methodLink own idx arraycopyName).before args s = true) (hset : ps.set i1 (p1.set k1 (a, .inl (Z 1, N, .inr (.inl (mj (zcl N f)))))) = ps') (hfr : 1 ≤ R.frames) (hlo : (rest.map fun v => v.category).sum + (nativeFrameWords "java/lang/System" "arraycopy" 5 + 11) ≤ R.locals) (hdg : decode cc pc = .ok (.invokestatic idx, 3)) (kk : ∀ (H1 : Heap) (locs1 : List Loc), wH D vwCl A s.heap H1 locs1 (wcat ps') → W p l e R s m args below meth c H1 locs1 cells slots Q (F0 m (pc + 3) ls rest)) : W p l e R s m args below meth c H locs cells slots Q (F0 m pc ls (.int (nI N) :: .int (nI 0) :: .ref a :: .int (nI 0) :: .ref a0 :: rest)) := by
  have e0 : (nI 0).toNatClampNeg = 0 := nI_clamp (by decide)
  have eN : (nI N).toNatClampNeg = N := nI_clamp (by omega)
  refine va_copyl G.1 G.2.1 hml G.2.2.1 hlink (G.2.2.2.1 _ ck_83) (G.2.2.2.1 _ ck_84) (G.2.2.2.1 _ ck_85) G.2.2.2.2.1 X.1 X.2.1 X.2.2 (wpos ps i0 + k0) (wpos ps i1 + k1) 1 1 (wcat_at hp0 hq0) (wcat_at hp1 hq1) rfl rfl rfl (nI_pos (by decide)) (nI_pos (by decide)) (nI_pos (by omega)) (by rw [e0, eN]; omega) (by rw [e0, eN]; omega) (fun _ _ => rfl) hfr hlo hdg (fun H1 locs1 hP hD hS => ?_)
  rw [e0, eN, zcpy (f := mj (zcl N f)) (g := mj (zcl N g)) (d := lN 0) (fun k hk => congrArg lN (zcl_out hk)) (fun k hk => congrArg lN (zcl_out hk)), wcat_set hp1 hq1, hset] at hP hD
  exact kk H1 locs1 ⟨hP, hD, hS⟩
theorem cr_copyi (hml : c.maxLocals = ls.size) (G : cG E p c cc s m args D Z own A) (X : wH D vwCl A s.heap H locs (wcat ps)) (i0 k0 i1 k1 : Nat) {p0 p1 : va_W} {a0 N : Nat} {f g : Nat → Nat} (hp0 : ps[i0]? = some p0) (hq0 : p0[k0]? = some (a0, .inl (Z 0, N, .inl (mi f)))) (hp1 : ps[i1]? = some p1) (hq1 : p1[k1]? = some (a, .inl (Z 0, N, .inl (mi g)))) (hf : ∀ k, N ≤ k → f k = 0) (hg : ∀ k, N ≤ k → g k = 0) (hN : N < 1000) (hlink : (Cond.methodLink own idx arraycopyName).before args s = true) (hset : ps.set i1 (p1.set k1 (a, .inl (Z 0, N, .inl (mi f)))) = ps') (hfr : 1 ≤ R.frames) (hlo : (rest.map fun v => v.category).sum + (nativeFrameWords "java/lang/System" "arraycopy" 5 + 11) ≤ R.locals) (hdg : decode cc pc = .ok (.invokestatic idx, 3)) (kk : ∀ (H1 : Heap) (locs1 : List Loc), wH D vwCl A s.heap H1 locs1 (wcat ps') → W p l e R s m args below meth c H1 locs1 cells slots Q (F0 m (pc + 3) ls rest)) : W p l e R s m args below meth c H locs cells slots Q (F0 m pc ls (.int (nI N) :: .int (nI 0) :: .ref a :: .int (nI 0) :: .ref a0 :: rest)) := by
  have e0 : (nI 0).toNatClampNeg = 0 := nI_clamp (by decide)
  have eN : (nI N).toNatClampNeg = N := nI_clamp (by omega)
  refine va_copyi G.1 G.2.1 hml G.2.2.1 hlink (G.2.2.2.1 _ ck_83) (G.2.2.2.1 _ ck_84) (G.2.2.2.1 _ ck_85) G.2.2.2.2.1 X.1 X.2.1 X.2.2 (wpos ps i0 + k0) (wpos ps i1 + k1) 0 0 (wcat_at hp0 hq0) (wcat_at hp1 hq1) rfl rfl rfl (nI_pos (by decide)) (nI_pos (by decide)) (nI_pos (by omega)) (by rw [e0, eN]; omega) (by rw [e0, eN]; omega) (fun _ _ => rfl) hfr hlo hdg (fun H1 locs1 hP hD hS => ?_)
  rw [e0, eN, zcpy (f := mi f) (g := mi g) (d := nI 0) (fun k hk => congrArg nI (hf k hk)) (fun k hk => congrArg nI (hg k hk)), wcat_set hp1 hq1, hset] at hP hD
  exact kk H1 locs1 ⟨hP, hD, hS⟩
end CC
def zch5 (τ : MS) : Nat → Nat := fun w => if w < τ.1 4 then τ.2 5 w else 0
/-- the row of hundredths of an answer; the answer nobody is 4294967295 -/
def zplc (c a : Nat) : Nat := if a = 4294967295 then 6 * c else 6 * c + 1 + a
theorem nI_wrap (n : Nat) : nI (n + 4294967296) = nI n := by
  apply Int32.toBitVec_inj.mp
  show BitVec.ofNat 32 (n + 4294967296) = BitVec.ofNat 32 n
  apply BitVec.eq_of_toNat_eq
  rw [BitVec.toNat_ofNat, BitVec.toNat_ofNat]
  omega
theorem zplc_nI (c a : Nat) : nI (c * 6 + 1 + a) = nI (zplc c a) := by
  unfold zplc
  split
  · rename_i h
    rw [h, show c * 6 + 1 + 4294967295 = 6 * c + 4294967296 by omega, nI_wrap]
  · rw [show c * 6 + 1 + a = 6 * c + 1 + a by omega]
theorem zplc_lt {c a : Nat} (hc : c < 8) (ha : a < 5 ∨ a = 4294967295) : zplc c a < 48 := by
  unfold zplc
  split <;> omega
def zhe5 (τ : MS) (F : Nat → Nat) (q : Nat) : Nat → Nat := fun w => F w * τ.2 62 (5 * q + w)
def zhe2 (τ : MS) (F : Nat → Nat) (q x : Nat) : Nat → Nat := fun w => F w * τ.2 62 (5 * q + w) * (100 * x + (100 - x) * τ.2 62 (5 * q + w))
def znog (τ : MS) (F : Nat → Nat) (c : Nat) : Nat → Nat := fun w => if τ.2 6 w = c then 0 else F w
def zgiv (F : Nat → Nat) (x : Nat) : Nat → Nat := fun w => if w = x then 0 else F w
/-- the greatest of the first n -/
def zmx (f : Nat → Nat) : Nat → Nat | 0 => 0 | n + 1 => max (zmx f n) (f n)
theorem zmx_ge {f : Nat → Nat} : ∀ {n k : Nat}, k < n → f k ≤ zmx f n
  | 0, k, h => absurd h (Nat.not_lt_zero k)
  | n + 1, k, h => by
    rw [zmx]
    rcases Nat.lt_or_ge k n with q | q
    · have := zmx_ge (f := f) q; omega
    · rw [show k = n by omega]; omega
theorem zmx_le {f : Nat → Nat} {b : Nat} : ∀ {n : Nat}, (∀ k, k < n → f k ≤ b) → zmx f n ≤ b
  | 0, _ => Nat.zero_le _
  | n + 1, h => by
    rw [zmx]
    have h1 := zmx_le (n := n) (fun k hk => h k (by omega))
    have h2 := h n (by omega)
    omega
theorem zmx_at {f : Nat → Nat} : ∀ {n : Nat}, 0 < n → ∃ k, k < n ∧ f k = zmx f n
  | 0, h => absurd h (Nat.lt_irrefl 0)
  | 1, _ => ⟨0, by omega, by rw [zmx, zmx]; omega⟩
  | n + 2, _ => by
    obtain ⟨k, h1, h2⟩ := zmx_at (f := f) (n := n + 1) (by omega)
    rw [zmx]
    rcases Nat.le_total (zmx f (n + 1)) (f (n + 1)) with q | q
    · exact ⟨n + 1, by omega, by omega⟩
    · exact ⟨k, by omega, by omega⟩
theorem zmx_eq {f : Nat → Nat} {n b : Nat} (h : ∀ k, k < n → f k ≤ b) (h2 : ∃ k, k < n ∧ f k = b) : zmx f n = b := by
  obtain ⟨k, hk, e⟩ := h2
  have h1 := zmx_le h
  have h3 := zmx_ge (f := f) hk
  omega
theorem zmx_cong {f g : Nat → Nat} {n : Nat} (h : ∀ k, k < n → f k = g k) : zmx f n = zmx g n := by
  induction n with
  | zero => rfl
  | succ n ih => rw [zmx, zmx, ih (fun k hk => h k (by omega)), h n (by omega)]
theorem zmx_div {f : Nat → Nat} {n d : Nat} (hn : 0 < n) : zmx (fun w => f w / d) n = zmx f n / d := by
  obtain ⟨k, hk, e⟩ := zmx_at (f := f) hn
  exact zmx_eq (fun j hj => Nat.div_le_div_right (zmx_ge hj)) ⟨k, hk, by rw [e]⟩
theorem zmx_hf {f : Nat → Nat} {n : Nat} (hn : 0 < n) (h2 : 2 ≤ zmx f n) : zmx (zhf f) n = zmx f n / 2 := by
  obtain ⟨k, hk, e⟩ := zmx_at (f := f) hn
  refine zmx_eq (fun j hj => ?_) ⟨k, hk, ?_⟩
  · have := zmx_ge (f := f) hj
    unfold zhf
    split <;> omega
  · unfold zhf
    rw [e, if_neg (by omega)]
theorem zany_mx {f : Nat → Nat} {n : Nat} (hn : 0 < n) : zany (zbigP f) n = true ↔ 100000000000 < zmx f n := by
  rw [zany_iff]
  constructor
  · rintro ⟨w, hw, h⟩
    have h1 : 100000000000 < f w := of_decide_eq_true h
    have := zmx_ge (f := f) hw
    omega
  · intro h
    obtain ⟨k, hk, e⟩ := zmx_at (f := f) hn
    exact ⟨k, hk, decide_eq_true (by rw [e]; exact h)⟩
theorem lmax (a b : Nat) (ha : a < 9223372036854775808) (hb : b < 9223372036854775808) : (if lN b < lN a then lN a else lN b) = lN (max a b) := by
  have e := zl_lt hb ha
  by_cases h : b < a
  · rw [if_pos (by rw [e]; exact h), Nat.max_eq_left (by omega)]
  · rw [if_neg (by rw [e]; exact h), Nat.max_eq_right (by omega)]
/-- Euclid's steps are few -/
def zfi : Nat → Nat → Nat → Nat × Nat | 0, a, b => (a, b) | n + 1, a, b => zfi n (a + b) a
theorem zfi_s : ∀ n a b, zfi (n + 1) a b = ((zfi n a b).1 + (zfi n a b).2, (zfi n a b).1)
  | 0, _, _ => rfl
  | n + 1, a, b => by
    show zfi (n + 1) (a + b) a = _
    rw [zfi_s n (a + b) a]
    rfl
theorem zfi_99 : 9223372036854775808 ≤ (zfi 99 1 0).1 := by decide
/-- behind i + 1 steps -/
def zeuI (B i g r : Nat) : Prop := r ≤ g ∧ (zfi i 1 0).1 * g + (zfi i 1 0).2 * r ≤ B
theorem zeu_s {B i g r : Nat} (h : zeuI B i g r) (hr : 0 < r) : zeuI B (i + 1) r (g % r) := by
  obtain ⟨h1, h2⟩ := h
  refine ⟨Nat.le_of_lt (Nat.mod_lt _ hr), ?_⟩
  rw [zfi_s]
  have e : r + g % r ≤ g := by
    have := Nat.div_add_mod g r
    have h3 : 1 ≤ g / r := Nat.div_pos h1 hr
    have h4 : r * 1 ≤ r * (g / r) := Nat.mul_le_mul_left r h3
    omega
  have e2 := Nat.mul_le_mul_left (zfi i 1 0).1 e
  show ((zfi i 1 0).1 + (zfi i 1 0).2) * r + (zfi i 1 0).1 * (g % r) ≤ B
  rw [Nat.mul_add] at e2
  rw [Nat.add_mul]
  omega
theorem zeu_no {B g r : Nat} (hB : B < 9223372036854775808) (h : zeuI B 99 g r) : r = 0 := by
  rcases Nat.eq_zero_or_pos r with h0 | h0
  · exact h0
  · obtain ⟨h1, h2⟩ := h
    have h3 := zfi_99
    have h4 : (zfi 99 1 0).1 * 1 ≤ (zfi 99 1 0).1 * g := Nat.mul_le_mul_left _ (by omega)
    omega
theorem zset5_go {k : Nat} {F S : Nat → Nat} (hz : zhalves 5 (k + 1) F = S) (h : 100000000000 < zmx F 5) : zhalves 5 k (zcp (zhf F) F 5) = S := by
  rw [← hz, zhalves, if_pos ((zany_mx (by decide)).mpr h)]
theorem zset5_no {k : Nat} {F S : Nat → Nat} (hz : zhalves 5 k F = S) (h : zmx F 5 ≤ 100000000000) : F = S := by
  rw [← hz, zhalves_stop (fun h2 => by have := (zany_mx (by decide)).mp h2; omega)]
