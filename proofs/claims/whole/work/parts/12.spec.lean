/-! PURE WORDS -/
def zsum (f : Nat → Nat) : Nat → Nat | 0 => 0 | n + 1 => zsum f n + f n
theorem zsum_le {f : Nat → Nat} {b : Nat} : ∀ n, (∀ k, k < n → f k ≤ b) → zsum f n ≤ n * b
  | 0, _ => Nat.zero_le _
  | n + 1, h => by
    have h1 := zsum_le n (fun k hk => h k (by omega))
    have h2 := h n (by omega)
    show zsum f n + f n ≤ (n + 1) * b
    rw [Nat.succ_mul]
    omega
theorem zsum_cong {f g : Nat → Nat} : ∀ n, (∀ k, k < n → f k = g k) → zsum f n = zsum g n
  | 0, _ => rfl
  | n + 1, h => by
    show zsum f n + f n = zsum g n + g n
    rw [zsum_cong n (fun k hk => h k (by omega)), h n (by omega)]
theorem zsum_mono (f : Nat → Nat) {a b : Nat} (h : a ≤ b) : zsum f a ≤ zsum f b := by
  induction b with
  | zero => rw [Nat.le_zero.mp h]; exact Nat.le_refl _
  | succ n ih =>
    rcases Nat.lt_or_ge a (n + 1) with q | q
    · exact Nat.le_trans (ih (by omega)) (Nat.le_add_right _ _)
    · rw [show a = n + 1 by omega]; exact Nat.le_refl _
/-- the place of the greatest of the first n, of several the least -/
def zbest (f : Nat → Nat) : Nat → Nat | 0 => 0 | n + 1 => if f (zbest f n) < f n then n else zbest f n
theorem zbest_lt (f : Nat → Nat) : ∀ n, 0 < n → zbest f n < n
  | 0, h => absurd h (Nat.lt_irrefl 0)
  | 1, _ => by unfold zbest; split <;> simp_all [zbest]
  | n + 2, _ => by
    have h := zbest_lt f (n + 1) (by omega)
    rw [zbest]
    split <;> omega
theorem zbest_1 (f : Nat → Nat) : zbest f 1 = 0 := by
  have := zbest_lt f 1 (by omega)
  omega
theorem z64_lt (a b : Int64) : (a < b) = (a.toInt < b.toInt) := propext Int64.lt_iff_toInt_lt
theorem z64_le (a b : Int64) : (a ≤ b) = (a.toInt ≤ b.toInt) := propext Int64.le_iff_toInt_le
theorem z32_lt (a b : Int32) : (a < b) = (a.toInt < b.toInt) := propext Int32.lt_iff_toInt_lt
theorem z32_le (a b : Int32) : (a ≤ b) = (a.toInt ≤ b.toInt) := propext Int32.le_iff_toInt_le
theorem zi_l (x : Int32) : x.toInt64.toInt = x.toInt := by simp
theorem zl_toInt {n : Nat} (h : n < 9223372036854775808) : (lN n).toInt = (n : Int) := pk_lT h
theorem zi_in {x : Int32} {n : Nat} (hn : n ≤ 2147483647) (h : 0 ≤ x.toInt ∧ x.toInt < n) : ∃ j : Nat, j < n ∧ x = nI j := vp_in_of (vp_in_iff.mpr h) (by omega)
theorem zi_of {n : Nat} (h : n < 2147483648) : (nI n).toInt = (n : Int) := nI_toInt h
theorem zgcd (x y : Nat) : Nat.gcd y (x % y) = Nat.gcd x y := by
  rw [Nat.gcd_comm y (x % y), ← Nat.gcd_rec, Nat.gcd_comm]
theorem zgcd_le {x y b : Nat} (hx : x ≤ b) (hy : y ≤ b) : Nat.gcd x y ≤ b := by
  rcases Nat.eq_zero_or_pos x with rfl | h
  · rw [Nat.gcd_zero_left]; exact hy
  · exact Nat.le_trans (Nat.gcd_le_left y h) hx
