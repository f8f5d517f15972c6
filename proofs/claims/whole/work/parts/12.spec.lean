/-! PURE WORDS -/
def zsum (f : Nat → Nat) : Nat → Nat | 0 => 0 | n + 1 => zsum f n + f n
theorem zsum_le {f : Nat → Nat} {b : Nat} : ∀ n, (∀ k, k < n → f k ≤ b) → zsum f n ≤ n * b
  | 0, _ => Nat.zero_le _
  | n + 1, h => by
    have h1 := zsum_le n (fun k hk => h k (by omega))
    have h2 := h n (by omega)
    show zsum f n + f n ≤ (n + 1) * b
    rw [Nat.succ_mul]
    omega
theorem zsum_cong {f g : Nat → Nat} : ∀ n, (∀ k, k < n → f k = g k) → zsum f n = zsum g n
  | 0, _ => rfl
  | n + 1, h => by
    show zsum f n + f n = zsum g n + g n
    rw [zsum_cong n (fun k hk => h k (by omega)), h n (by omega)]
theorem zsum_mono (f : Nat → Nat) {a b : Nat} (h : a ≤ b) : zsum f a ≤ zsum f b := by
  induction b with
  | zero => rw [Nat.le_zero.mp h]; exact Nat.le_refl _
  | succ n ih =>
    rcases Nat.lt_or_ge a (n + 1) with q | q
    · exact Nat.le_trans (ih (by omega)) (Nat.le_add_right _ _)
    · rw [show a = n + 1 by omega]; exact Nat.le_refl _
/-- the place of the greatest of the first n, of several the least -/
def zbest (f : Nat → Nat) : Nat → Nat | 0 => 0 | n + 1 => if f (zbest f n) < f n then n else zbest f n
theorem zbest_lt (f : Nat → Nat) : ∀ n, 0 < n → zbest f n < n
  | 0, h => absurd h (Nat.lt_irrefl 0)
  | 1, _ => by unfold zbest; split <;> simp_all [zbest]
  | n + 2, _ => by
    have h := zbest_lt f (n + 1) (by omega)
    rw [zbest]
    split <;> omega
theorem zbest_1 (f : Nat → Nat) : zbest f 1 = 0 := by
  have := zbest_lt f 1 (by omega)
  omega
theorem z64_lt (a b : Int64) : (a < b) = (a.toInt < b.toInt) := propext Int64.lt_iff_toInt_lt
theorem z64_le (a b : Int64) : (a ≤ b) = (a.toInt ≤ b.toInt) := propext Int64.le_iff_toInt_le
theorem z32_lt (a b : Int32) : (a < b) = (a.toInt < b.toInt) := propext Int32.lt_iff_toInt_lt
theorem z32_le (a b : Int32) : (a ≤ b) = (a.toInt ≤ b.toInt) := propext Int32.le_iff_toInt_le
theorem zi_l (x : Int32) : x.toInt64.toInt = x.toInt := by simp
theorem zl_toInt {n : Nat} (h : n < 9223372036854775808) : (lN n).toInt = (n : Int) := pk_lT h
theorem zi_in {x : Int32} {n : Nat} (hn : n ≤ 2147483647) (h : 0 ≤ x.toInt ∧ x.toInt < n) : ∃ j : Nat, j < n ∧ x = nI j := vp_in_of (vp_in_iff.mpr h) (by omega)
theorem zi_of {n : Nat} (h : n < 2147483648) : (nI n).toInt = (n : Int) := nI_toInt h
theorem zgcd (x y : Nat) : Nat.gcd y (x % y) = Nat.gcd x y := by
  rw [Nat.gcd_comm y (x % y), ← Nat.gcd_rec, Nat.gcd_comm]
theorem zgcd_le {x y b : Nat} (hx : x ≤ b) (hy : y ≤ b) : Nat.gcd x y ≤ b := by
  rcases Nat.eq_zero_or_pos x with rfl | h
  · rw [Nat.gcd_zero_left]; exact hy
  · exact Nat.le_trans (Nat.gcd_le_left y h) hx
theorem zshr {a r : Nat} (ha : a < 2147483648) (hr : r < 32) : nI a >>> (nI r &&& 31) = nI (a / 2 ^ r) := pk_shrN ha _ _ (by
  have : ∀ n, n < 32 → ((nI n &&& 31).toBitVec.smod 32).toNat = n := by decide +kernel
  exact this r hr)
theorem zand (a k : Nat) (hk : k ≤ 31) {m : Int32} (hm : m.toBitVec.toNat = 2 ^ k - 1) : nI a &&& m = nI (a % 2 ^ k) := by
  rw [pk_and (nI a) k hm]
  have e1 : (nI a).toBitVec.toNat = a % 4294967296 := by
    show (BitVec.ofNat 32 a).toNat = _
    rw [BitVec.toNat_ofNat]
  rw [e1, Nat.mod_mod_of_dvd]
  exact Nat.pow_dvd_pow 2 (show k ≤ 32 by omega)
theorem zm1 : (-1 : Int32) = nI 4294967295 := by decide
theorem zneg {a : Nat} (h1 : 2147483648 ≤ a) (h2 : a < 4294967296) : (nI a).toInt = (a : Int) - 4294967296 := by
  show (nI a).toBitVec.toInt = _
  have e1 : (nI a).toBitVec.toNat = a := by
    show (BitVec.ofNat 32 a).toNat = _
    rw [BitVec.toNat_ofNat, Nat.mod_eq_of_lt h2]
  rw [BitVec.toInt_eq_toNat_cond, e1, if_neg (by omega)]
  rfl
/-- the model's land is as a land can be -/
def mOk (σ : MS) : Prop := σ.1 0 ≤ 16 ∧ σ.1 4 ≤ 5 ∧ σ.1 8 ≤ 6 ∧ (∀ r, r < σ.1 0 → σ.2 1 r < 8 ∧ σ.2 2 r < 8 ∧ 1 ≤ σ.2 3 r ∧ σ.2 3 r ≤ 60) ∧ (∀ w, w < σ.1 4 → 1 ≤ σ.2 5 w ∧ σ.2 5 w ≤ 100 ∧ σ.2 6 w < 8 ∧ σ.2 7 w < 65536) ∧ (∀ s, s < σ.1 8 → σ.2 9 s < 5 ∧ σ.2 10 s < 100) ∧ (∀ k, k < 48 → σ.2 11 k ≤ 100) ∧ (∀ c, c < 8 → zsum (fun s => σ.2 11 (6 * c + s)) 6 ≤ 100) ∧ σ.1 12 < 8 ∧ σ.1 13 ≤ 30
abbrev zshut (σ : MS) (w r : Nat) : Prop := σ.2 7 w / 2 ^ r % 2 = 1
def zrel (g : Nat → Nat) (f t b : Nat) : Nat → Nat := fun a => if a = f then (if g t < 99999 ∧ g t + b < g f then g t + b else g f) else g a
def zinit (g : Nat → Nat) (w gl c : Nat) : Nat → Nat := fun a => if 8 * w ≤ a ∧ a < 8 * w + c then (if a - 8 * w = gl then 0 else 99999) else g a
def zrs (σ : MS) (w : Nat) (g : Nat → Nat) : Nat → (Nat → Nat) | 0 => g | r + 1 => if zshut σ w r then zrs σ w g r else zrel (zrel (zrs σ w g r) (8 * w + σ.2 1 r) (8 * w + σ.2 2 r) (σ.2 3 r)) (8 * w + σ.2 2 r) (8 * w + σ.2 1 r) (σ.2 3 r)
def zts (σ : MS) (w : Nat) (g : Nat → Nat) : Nat → (Nat → Nat) | 0 => g | n + 1 => zrs σ w (zts σ w g n) (σ.1 0)
def zws (σ : MS) (g : Nat → Nat) : Nat → (Nat → Nat) | 0 => g | w + 1 => zts σ w (zinit (zws σ g w) w (σ.2 6 w) 8) 8
/-- no way is longer than NONE -/
def zWok (g : Nat → Nat) : Prop := ∀ a, g a ≤ 99999
theorem zWok_rel {g : Nat → Nat} (h : zWok g) (f t b : Nat) : zWok (zrel g f t b) := fun a => by
  unfold zrel
  have h1 := h f
  have h2 := h t
  have h3 := h a
  split
  · split <;> omega
  · exact h3
theorem zWok_rs {σ : MS} {w : Nat} {g : Nat → Nat} (h : zWok g) : ∀ r, zWok (zrs σ w g r)
  | 0 => h
  | r + 1 => by
    unfold zrs
    split
    · exact zWok_rs h r
    · exact zWok_rel (zWok_rel (zWok_rs h r) _ _ _) _ _ _
theorem zWok_ts {σ : MS} {w : Nat} {g : Nat → Nat} (h : zWok g) : ∀ n, zWok (zts σ w g n)
  | 0 => h
  | n + 1 => zWok_rs (zWok_ts h n) _
theorem zWok_init {g : Nat → Nat} (h : zWok g) (w gl c : Nat) : zWok (zinit g w gl c) := fun a => by
  unfold zinit
  have h3 := h a
  split
  · split <;> omega
  · exact h3
theorem zWok_ws {σ : MS} {g : Nat → Nat} (h : zWok g) : ∀ n, zWok (zws σ g n)
  | 0 => h
  | n + 1 => zWok_ts (zWok_init (zWok_ws h n) _ _ _) _
/-- the first i below n with P; n if there is none -/
def zfirst (P : Nat → Bool) : Nat → Nat | 0 => 0 | n + 1 => if zfirst P n < n then zfirst P n else if P n then n else n + 1
theorem zfirst_le (P : Nat → Bool) : ∀ n, zfirst P n ≤ n
  | 0 => Nat.le_refl 0
  | n + 1 => by
    have := zfirst_le P n
    unfold zfirst
    split
    · omega
    · split <;> omega
theorem zfirst_none {P : Nat → Bool} : ∀ {n : Nat}, (∀ j, j < n → P j = false) → zfirst P n = n
  | 0, _ => rfl
  | n + 1, h => by
    unfold zfirst
    rw [zfirst_none (fun j hj => h j (by omega)), h n (by omega)]
    simp
theorem zfirst_at {P : Nat → Bool} {r : Nat} (h0 : ∀ j, j < r → P j = false) (h1 : P r = true) : ∀ {n : Nat}, r < n → zfirst P n = r
  | 0, h => absurd h (Nat.not_lt_zero r)
  | n + 1, h => by
    unfold zfirst
    rcases Nat.lt_or_ge r n with q | q
    · rw [zfirst_at h0 h1 q, if_pos q]
    · have e : r = n := by omega
      subst e
      rw [zfirst_none h0, if_neg (Nat.lt_irrefl _), h1, if_pos rfl]
/-- the least of ways, of several the first -/
def zleast (f : Nat → Nat) : Nat → Nat | 0 => 0 | n + 1 => if f n < f (zleast f n) then n else zleast f n
theorem zleast_lt (f : Nat → Nat) : ∀ n, 0 < n → zleast f n < n
  | 0, h => absurd h (Nat.lt_irrefl 0)
  | 1, _ => by unfold zleast; split <;> simp_all [zleast]
  | n + 2, _ => by
    have h := zleast_lt f (n + 1) (by omega)
    rw [zleast]
    split <;> omega
theorem zleast_1 (f : Nat → Nat) : zleast f 1 = 0 := by
  have := zleast_lt f 1 (by omega)
  omega
/-- what one of a sort says, ways being found -/
def zsaid (σ : MS) (s c w : Nat) : Nat := if σ.2 9 s = 0 then w else if σ.2 9 s = 1 then (if σ.2 10 s < σ.1 4 then σ.2 10 s else σ.1 4 - 1) else if σ.2 9 s = 2 then zleast (fun o => σ.2 27 (8 * o + c)) (σ.1 4) else if σ.2 9 s = 3 then (if w = σ.1 4 - 1 then 0 else w + 1) else if w = 0 then σ.1 4 - 1 else w - 1
theorem zsaid_lt {σ : MS} {s c w : Nat} (hw : w < σ.1 4) : zsaid σ s c w < σ.1 4 := by
  unfold zsaid
  have := zleast_lt (fun o => σ.2 27 (8 * o + c)) (σ.1 4) (by omega)
  split
  · exact hw
  · split
    · split <;> omega
    · split
      · exact this
      · split
        · split <;> omega
        · split <;> omega
theorem sE_sA (σ : MS) (k i v : Nat) : sE σ k i v = sA σ k (fun a => if a = i then v else σ.2 k a) := rfl
theorem sA_sA (σ : MS) (k : Nat) (g h : Nat → Nat) : sA (sA σ k g) k h = sA σ k h := by
  unfold sA
  refine congrArg (Prod.mk _) (funext fun j => ?_)
  show (if j = k then h else if j = k then g else σ.2 j) = _
  split <;> rfl
theorem sA_self (σ : MS) (k : Nat) : sA σ k (σ.2 k) = σ := by
  unfold sA
  refine Prod.ext rfl (funext fun j => ?_)
  show (if j = k then σ.2 k else σ.2 j) = _
  split
  · rename_i h; rw [h]
  · rfl
theorem sA_cong (σ : MS) (k : Nat) {g h : Nat → Nat} (e : ∀ a, g a = h a) : sA σ k g = sA σ k h := by rw [funext e]
/-- the first n of f, then g -/
def zcp (f g : Nat → Nat) (n : Nat) : Nat → Nat := fun a => if a < n then f a else g a
theorem zcp_in {f g : Nat → Nat} {n a : Nat} (h : a < n) : zcp f g n a = f a := if_pos h
theorem zcp_out {f g : Nat → Nat} {n a : Nat} (h : n ≤ a) : zcp f g n a = g a := if_neg (by omega)
theorem sA_f0 (σ : MS) (k : Nat) (f : Nat → Nat) : σ = sA σ k (zcp f (σ.2 k) 0) := by
  rw [show zcp f (σ.2 k) 0 = σ.2 k from funext fun a => zcp_out (Nat.zero_le a), sA_self]
theorem sA_f1 (σ : MS) (k : Nat) (f : Nat → Nat) (w v : Nat) (hv : v = f w) : sE (sA σ k (zcp f (σ.2 k) w)) k w v = sA σ k (zcp f (σ.2 k) (w + 1)) := by
  rw [sE_sA, sA_sA]
  refine sA_cong σ k (fun a => ?_)
  show (if a = w then v else (sA σ k (zcp f (σ.2 k) w)).2 k a) = _
  by_cases h : a = w
  · rw [if_pos h, h, zcp_in (Nat.lt_succ_self w), hv]
  · rw [if_neg h]
    show (if k = k then zcp f (σ.2 k) w else σ.2 k) a = _
    rw [if_pos rfl]
    unfold zcp
    by_cases h2 : a < w
    · rw [if_pos h2, if_pos (by omega)]
    · rw [if_neg h2, if_neg (by omega)]
theorem sA_at (σ : MS) (k : Nat) (g : Nat → Nat) (a : Nat) : (sA σ k g).2 k a = g a := by
  show (if k = k then g else σ.2 k) a = _
  rw [if_pos rfl]
def zsee (σ : MS) (r b : Nat) : Nat → Nat := fun w => if (if zshut σ w r then 1 else 0) = b then 0 else σ.2 29 w
def zbel (σ : MS) (t : Nat) : Nat → Nat := fun w => if w = t then σ.2 29 w else 0
def zrowK (σ : MS) (x : Int32) : Int32 := if 0 ≤ x.toInt ∧ x.toInt < 8 then (if σ.2 41 x.toInt.toNat = 0 then -11 else if σ.2 41 x.toInt.toNat = 2 then 0 else -12) else -1
def zrulK (σ : MS) (d : Nat) : Int32 := if σ.2 41 d = 0 then -11 else if σ.2 41 d = 1 then 0 else -12
def zshK (σ : MS) (x : Int32) : Int32 := if 0 ≤ x.toInt ∧ x.toInt < 8 then zrulK σ x.toInt.toNat else -1
def zweigh (k f : Nat) : Nat := if k = 0 then 3 else if k = 1 then 4 else if k = 2 then 4 + f else if k = 3 then 6 else if k = 4 then 6 + f else 3 + 10 * f
def znar (v : Int32) (s : Nat) : Int64 := if s = 0 then v.toInt8.toInt32.toInt64 else if s = 1 then v.toInt16.toInt32.toInt64 else v.toInt64
theorem ztoNat {d : Nat} (h : d < 2147483648) : (nI d).toInt.toNat = d := by rw [zi_of h]; exact Int.toNat_natCast d
theorem zinr {d n : Nat} (h : d < n) (hn : n ≤ 2147483648) : 0 ≤ (nI d).toInt ∧ (nI d).toInt < (n : Int) := by rw [zi_of (by omega)]; omega
/-- next road on a way, ways being found; the number of roads, if there is none -/
def znextP (σ : MS) (w c : Nat) : Nat → Bool := fun r => decide ((σ.2 1 r = c ∨ σ.2 2 r = c) ∧ ¬ zshut σ w r ∧ σ.2 27 (8 * w + (if σ.2 1 r = c then σ.2 2 r else σ.2 1 r)) < 99999 ∧ σ.2 27 (8 * w + (if σ.2 1 r = c then σ.2 2 r else σ.2 1 r)) + σ.2 3 r = σ.2 27 (8 * w + c))
def znext (σ : MS) (w c : Nat) : Int32 := if σ.2 27 (8 * w + c) < 99999 ∧ zfirst (znextP σ w c) (σ.1 0) < σ.1 0 then nI (zfirst (znextP σ w c) (σ.1 0)) else -4
theorem zinit_1 (g : Nat → Nat) (w gl c v : Nat) (hv : v = if c = gl then 0 else 99999) : (fun a => if a = 8 * w + c then v else zinit g w gl c a) = zinit g w gl (c + 1) := by
  funext a
  unfold zinit
  by_cases h : a = 8 * w + c
  · rw [if_pos h, if_pos (by omega), h, hv, Nat.add_sub_cancel_left]
  · rw [if_neg h]
    by_cases h2 : 8 * w ≤ a ∧ a < 8 * w + c
    · rw [if_pos h2, if_pos (show 8 * w ≤ a ∧ a < 8 * w + (c + 1) by omega)]
    · rw [if_neg h2, if_neg (show ¬ (8 * w ≤ a ∧ a < 8 * w + (c + 1)) by omega)]
theorem zinit_0 (g : Nat → Nat) (w gl : Nat) : zinit g w gl 0 = g := funext fun a => if_neg (by omega)
theorem sA_e1 (σ : MS) (k i v : Nat) (g : Nat → Nat) : sE (sA σ k g) k i v = sA σ k (fun a => if a = i then v else g a) := by
  rw [sE_sA, sA_sA]
  exact sA_cong σ k (fun a => by rw [sA_at])
theorem znext_at {σ : MS} {w c r : Nat} (hW : σ.2 27 (8 * w + c) < 99999) (h0 : ∀ j, j < r → znextP σ w c j = false) (h1 : znextP σ w c r = true) (hr : r < σ.1 0) : znext σ w c = nI r := by
  unfold znext
  rw [zfirst_at h0 h1 hr, if_pos ⟨hW, hr⟩]
theorem znext_no {σ : MS} {w c : Nat} (h : ¬ (σ.2 27 (8 * w + c) < 99999) ∨ ∀ j, j < σ.1 0 → znextP σ w c j = false) : znext σ w c = -4 := by
  unfold znext
  rw [if_neg]
  intro h2
  rcases h with h | h
  · exact h h2.1
  · rw [zfirst_none h] at h2
    exact absurd h2.2 (Nat.lt_irrefl _)
/-- with how many hundredths an answer comes, ways being found; the answer nobody is 4294967295 -/
def zhund (σ : MS) (c a w : Nat) : Nat := if c = σ.1 28 then (if a = w then 100 else 0) else if a = 4294967295 then 100 - zsum (fun s => σ.2 11 (6 * c + s)) 6 else zsum (fun s => if zsaid σ s c w = a then σ.2 11 (6 * c + s) else 0) (σ.1 8)
def zhear (σ : MS) (c a : Nat) : Nat → Nat := fun w => σ.2 29 w * zhund σ c a w
/-- what divides all -/
def zgall (f : Nat → Nat) : Nat → Nat | 0 => 0 | n + 1 => Nat.gcd (f n) (zgall f n)
theorem zgall_lt {f : Nat → Nat} {b : Nat} (hb : 0 < b) : ∀ n, (∀ w, w < n → f w < b) → zgall f n < b
  | 0, _ => hb
  | n + 1, h => by
    have h1 := zgall_lt hb n (fun w hw => h w (by omega))
    have h2 := h n (by omega)
    have := zgcd_le (b := b - 1) (show f n ≤ b - 1 by omega) (show zgall f n ≤ b - 1 by omega)
    show Nat.gcd (f n) (zgall f n) < b
    omega
theorem zgall_zero {f : Nat → Nat} : ∀ {n : Nat}, zgall f n = 0 → ∀ w, w < n → f w = 0
  | 0, _, w, hw => absurd hw (Nat.not_lt_zero w)
  | n + 1, h, w, hw => by
    have h1 : Nat.gcd (f n) (zgall f n) = 0 := h
    obtain ⟨h2, h3⟩ := Nat.gcd_eq_zero_iff.mp h1
    rcases Nat.lt_or_ge w n with q | q
    · exact zgall_zero h3 w q
    · rw [show w = n by omega]; exact h2
theorem zgall_of_zero {f : Nat → Nat} : ∀ {n : Nat}, (∀ w, w < n → f w = 0) → zgall f n = 0
  | 0, _ => rfl
  | n + 1, h => by
    show Nat.gcd (f n) (zgall f n) = 0
    rw [h n (by omega), zgall_of_zero (fun w hw => h w (by omega))]
    rfl
def zany (P : Nat → Bool) : Nat → Bool | 0 => false | n + 1 => zany P n || P n
theorem zany_iff {P : Nat → Bool} : ∀ {n : Nat}, zany P n = true ↔ ∃ w, w < n ∧ P w = true
  | 0 => ⟨fun h => absurd (show (false = true) from h) (by decide), fun ⟨w, hw, _⟩ => absurd hw (Nat.not_lt_zero w)⟩
  | n + 1 => by
    show (zany P n || P n) = true ↔ _
    rw [Bool.or_eq_true, zany_iff]
    constructor
    · rintro (⟨w, hw, h⟩ | h)
      · exact ⟨w, by omega, h⟩
      · exact ⟨n, by omega, h⟩
    · rintro ⟨w, hw, h⟩
      rcases Nat.lt_or_ge w n with q | q
      · exact Or.inl ⟨w, q, h⟩
      · rw [show w = n by omega] at h; exact Or.inr h
/-- a weight above 100000000000 -/
def zbigP (g : Nat → Nat) : Nat → Bool := fun w => decide (100000000000 < g w)
def zhf (g : Nat → Nat) : Nat → Nat := fun w => if g w = 1 then 1 else g w / 2
def zhalves (n : Nat) : Nat → (Nat → Nat) → (Nat → Nat) | 0, g => g | k + 1, g => if zany (zbigP g) n = true then zhalves n k (zcp (zhf g) g n) else g
def zset (n : Nat) (g : Nat → Nat) : Nat → Nat := zhalves n 64 (zcp (fun w => g w / zgall g n) g n)
theorem zhalves_stop {n : Nat} {g : Nat → Nat} (h : ¬ zany (zbigP g) n = true) : ∀ k, zhalves n k g = g
  | 0 => rfl
  | k + 1 => by unfold zhalves; rw [if_neg h]
theorem zany_small {n : Nat} {g : Nat → Nat} (h : ∀ w, w < n → g w ≤ 100000000000) : ¬ zany (zbigP g) n = true := by
  rw [zany_iff]
  rintro ⟨w, hw, h2⟩
  have h3 := h w hw
  have h4 : 100000000000 < g w := of_decide_eq_true h2
  omega
theorem zset_zero {n : Nat} {g : Nat → Nat} (h : zgall g n = 0) : zset n g = g := by
  have e : zcp (fun w => g w / zgall g n) g n = g := by
    funext a
    unfold zcp
    split
    · rename_i hl
      show g a / zgall g n = g a
      rw [zgall_zero h a hl, Nat.zero_div]
    · rfl
  unfold zset
  rw [e]
  exact zhalves_stop (zany_small fun w hw => by rw [zgall_zero h w hw]; omega) 64
theorem zhf_le {g : Nat → Nat} {w B : Nat} (h : g w ≤ 2 * B) (hB : 1 ≤ B) : zhf g w ≤ B := by
  unfold zhf
  split <;> omega
theorem zhalves_le {n : Nat} : ∀ (k : Nat) {g : Nat → Nat}, (∀ w, w < n → g w ≤ 100000000000 * 2 ^ k) → ∀ w, w < n → zhalves n k g w ≤ 100000000000
  | 0, g, h, w, hw => by simpa [zhalves] using h w hw
  | k + 1, g, h, w, hw => by
    unfold zhalves
    split
    · refine zhalves_le k (fun a ha => ?_) w hw
      rw [zcp_in ha]
      refine zhf_le ?_ ?_
      · have := h a ha
        rw [Nat.pow_succ] at this
        omega
      · exact Nat.mul_pos (by omega) (Nat.pow_pos (by omega))
    · rename_i hs
      rcases Nat.lt_or_ge 100000000000 (g w) with q | q
      · exact absurd (zany_iff.mpr ⟨w, hw, decide_eq_true q⟩) hs
      · exact q
theorem zdiv_le (a d : Nat) : a / d ≤ a := Nat.div_le_self a d
theorem zset_le {n : Nat} {g : Nat → Nat} (h : ∀ w, w < n → g w < 9223372036854775808) : ∀ w, w < n → zset n g w ≤ 100000000000 := by
  refine zhalves_le 64 (fun w hw => ?_)
  rw [zcp_in hw]
  have h1 := h w hw
  have h2 := zdiv_le (g w) (zgall g n)
  have h3 : 9223372036854775808 ≤ 100000000000 * 2 ^ 64 := by decide
  omega
theorem zcp_1 {f g : Nat → Nat} {w v : Nat} (h : v = f w) : (fun a => if a = w then v else zcp f g w a) = zcp f g (w + 1) := by
  funext a
  by_cases e : a = w
  · rw [if_pos e, e, zcp_in (Nat.lt_succ_self w), h]
  · rw [if_neg e]
    unfold zcp
    by_cases h2 : a < w
    · rw [if_pos h2, if_pos (show a < w + 1 by omega)]
    · rw [if_neg h2, if_neg (show ¬ a < w + 1 by omega)]
theorem zany_t1 {P : Nat → Bool} {w : Nat} (h : zany P w = true) : zany P (w + 1) = true := by
  show (zany P w || P w) = true
  rw [h]; rfl
theorem zany_t2 {P : Nat → Bool} {w : Nat} (h : P w = true) : zany P (w + 1) = true := by
  show (zany P w || P w) = true
  rw [h, Bool.or_true]
theorem zany_f {P : Nat → Bool} {w : Nat} (h : ¬ zany P w = true) (h2 : ¬ P w = true) : ¬ zany P (w + 1) = true := by
  show ¬ (zany P w || P w) = true
  rw [Bool.or_eq_true]
  exact fun h3 => h3.elim h h2
theorem zsum_if_le (P : Nat → Prop) [DecidablePred P] (f : Nat → Nat) : ∀ n, zsum (fun s => if P s then f s else 0) n ≤ zsum f n
  | 0 => Nat.le_refl _
  | n + 1 => by
    have h := zsum_if_le P f n
    show zsum (fun s => if P s then f s else 0) n + (if P n then f n else 0) ≤ zsum f n + f n
    split <;> omega
theorem zhund_le {σ : MS} (hok : mOk σ) {c a w : Nat} (hc : c < 8) : zhund σ c a w ≤ 100 := by
  obtain ⟨kr, kw, ks, kroad, kworld, ksort, kmet, ksum, kst, kco⟩ := id hok
  have h1 := ksum c hc
  have h2 := zsum_mono (fun s => σ.2 11 (6 * c + s)) ks
  have h3 := zsum_if_le (fun s => zsaid σ s c w = a) (fun s => σ.2 11 (6 * c + s)) (σ.1 8)
  unfold zhund
  split
  · split <;> omega
  · split
    · omega
    · exact Nat.le_trans h3 (Nat.le_trans h2 h1)
/-! ASKING AND WALKING -/
def znx (z : Nat) : Nat := z * 1103515245 + 12345
def zdrawn (z : Nat) : Nat := z % 2147483648 / 65536 % 100
def zmetP (σ : MS) (c d : Nat) : Nat → Bool := fun s => decide (d < zsum (fun t => σ.2 11 (6 * c + t)) (s + 1))
/-- what is said at c in the true world w with the seed z; nobody is 4294967295 -/
def zans (σ : MS) (z c w : Nat) : Nat := if c = σ.1 28 then w else if zfirst (zmetP σ c (zdrawn z)) (σ.1 8) < σ.1 8 then zsaid σ (zfirst (zmetP σ c (zdrawn z)) (σ.1 8)) c w else 4294967295
theorem zans_lt {σ : MS} {z c w : Nat} (hw : w < σ.1 4) : zans σ z c w < σ.1 4 ∨ zans σ z c w = 4294967295 := by
  unfold zans
  split
  · exact Or.inl hw
  · split
    · exact Or.inl (zsaid_lt hw)
    · exact Or.inr rfl
abbrev zdb (σ : MS) (m : Nat → Nat) (f : Nat) : Prop := m (zbest m (σ.1 4)) * 100 < f * zsum m (σ.1 4)
abbrev zhearM (σ : MS) (m : Nat → Nat) (c a : Nat) : Nat → Nat := fun w => m w * zhund σ c a w
/-- hearing on the way: an answer by which all would be 0 changes nothing -/
def zhowM (σ : MS) (m : Nat → Nat) (c a : Nat) : Nat → Nat := if zgall (zcp (zhearM σ m c a) m (σ.1 4)) (σ.1 4) = 0 then m else zset (σ.1 4) (zcp (zhearM σ m c a) m (σ.1 4))
abbrev zseeM (σ : MS) (m : Nat → Nat) (r b : Nat) : Nat → Nat := fun w => if (if zshut σ w r then 1 else 0) = b then 0 else m w
abbrev zbelM (m : Nat → Nat) (t : Nat) : Nat → Nat := fun w => if w = t then m w else 0
/-- the state of a walk: the land σ, mind m, voices v, ahead a, minutes, asked, gone, lost, seed -/
def zw (σ : MS) (m v a : Nat → Nat) (mi as go lo se : Nat) : MS := (fun j => if j = 30 then mi else if j = 31 then as else if j = 32 then go else if j = 33 then lo else if j = 34 then se else σ.1 j, fun j => if j = 29 then m else if j = 35 then v else if j = 36 then a else σ.2 j)
section ZW
variable {σ : MS} {m v a g : Nat → Nat} {mi as go lo se x y z i : Nat}
theorem zw_F30 : sF (zw σ m v a mi as go lo se) 30 x = zw σ m v a x as go lo se := by
  refine Prod.ext (funext fun j => ?_) rfl
  show (if j = 30 then x else if j = 30 then mi else _) = (if j = 30 then x else _)
  split <;> rfl
theorem zw_F31 : sF (zw σ m v a mi as go lo se) 31 x = zw σ m v a mi x go lo se := by
  refine Prod.ext (funext fun j => ?_) rfl
  show (if j = 31 then x else if j = 30 then mi else if j = 31 then as else _) = (if j = 30 then mi else if j = 31 then x else _)
  by_cases h : j = 30
  · subst h; rfl
  · rw [if_neg h, if_neg h]; split <;> rfl
theorem zw_F32 : sF (zw σ m v a mi as go lo se) 32 x = zw σ m v a mi as x lo se := by
  refine Prod.ext (funext fun j => ?_) rfl
  show (if j = 32 then x else if j = 30 then mi else if j = 31 then as else if j = 32 then go else _) = (if j = 30 then mi else if j = 31 then as else if j = 32 then x else _)
  by_cases h : j = 30
  · subst h; rfl
  · by_cases h2 : j = 31
    · subst h2; rfl
    · rw [if_neg h, if_neg h, if_neg h2, if_neg h2]; split <;> rfl
theorem zw_F33 : sF (zw σ m v a mi as go lo se) 33 x = zw σ m v a mi as go x se := by
  refine Prod.ext (funext fun j => ?_) rfl
  show (if j = 33 then x else if j = 30 then mi else if j = 31 then as else if j = 32 then go else if j = 33 then lo else _) = (if j = 30 then mi else if j = 31 then as else if j = 32 then go else if j = 33 then x else _)
  by_cases h : j = 33
  · subst h; rfl
  · rw [if_neg h, if_neg h, if_neg h]
theorem zw_F34 : sF (zw σ m v a mi as go lo se) 34 x = zw σ m v a mi as go lo x := by
  refine Prod.ext (funext fun j => ?_) rfl
  show (if j = 34 then x else if j = 30 then mi else if j = 31 then as else if j = 32 then go else if j = 33 then lo else if j = 34 then se else _) = (if j = 30 then mi else if j = 31 then as else if j = 32 then go else if j = 33 then lo else if j = 34 then x else _)
  by_cases h : j = 34
  · subst h; rfl
  · rw [if_neg h, if_neg h, if_neg h]
theorem zw_A29 : sA (zw σ m v a mi as go lo se) 29 g = zw σ g v a mi as go lo se := by
  refine Prod.ext rfl (funext fun j => ?_)
  show (if j = 29 then g else if j = 29 then m else _) = (if j = 29 then g else _)
  split <;> rfl
theorem zw_A35 : sA (zw σ m v a mi as go lo se) 35 g = zw σ m g a mi as go lo se := by
  refine Prod.ext rfl (funext fun j => ?_)
  show (if j = 35 then g else if j = 29 then m else if j = 35 then v else _) = (if j = 29 then m else if j = 35 then g else _)
  by_cases h : j = 29
  · subst h; rfl
  · rw [if_neg h, if_neg h]; split <;> rfl
theorem zw_A36 : sA (zw σ m v a mi as go lo se) 36 g = zw σ m v g mi as go lo se := by
  refine Prod.ext rfl (funext fun j => ?_)
  show (if j = 36 then g else if j = 29 then m else if j = 35 then v else if j = 36 then a else _) = (if j = 29 then m else if j = 35 then v else if j = 36 then g else _)
  by_cases h : j = 36
  · subst h; rfl
  · rw [if_neg h, if_neg h, if_neg h]
theorem zw_E29 : sE (zw σ m v a mi as go lo se) 29 i x = zw σ (fun a1 => if a1 = i then x else m a1) v a mi as go lo se := zw_A29
theorem zw_E35 : sE (zw σ m v a mi as go lo se) 35 i x = zw σ m (fun a1 => if a1 = i then x else v a1) a mi as go lo se := zw_A35
theorem zw_F30F31F34 (x y z : Nat) : sF (sF (sF (zw σ m v a mi as go lo se) 30 x) 31 y) 34 z = zw σ m v a x y go lo z := by rw [zw_F30, zw_F31, zw_F34]
theorem zw_A36A29 (g h : Nat → Nat) : sA (sA (zw σ m v a mi as go lo se) 36 g) 29 h = zw σ h v g mi as go lo se := by rw [zw_A36, zw_A29]
theorem zw_self (σ : MS) : σ = zw σ (σ.2 29) (σ.2 35) (σ.2 36) (σ.1 30) (σ.1 31) (σ.1 32) (σ.1 33) (σ.1 34) := by
  refine Prod.ext (funext fun j => ?_) (funext fun j => ?_)
  · show σ.1 j = if j = 30 then σ.1 30 else if j = 31 then σ.1 31 else if j = 32 then σ.1 32 else if j = 33 then σ.1 33 else if j = 34 then σ.1 34 else σ.1 j
    repeat (split; · rename_i h; rw [h])
    rfl
  · show σ.2 j = if j = 29 then σ.2 29 else if j = 35 then σ.2 35 else if j = 36 then σ.2 36 else σ.2 j
    repeat (split; · rename_i h; rw [h])
    rfl
end ZW
/-- seeds behind k askings -/
def zsd (z : Nat) : Nat → Nat | 0 => z | k + 1 => znx (zsd z k)
/-- votes behind k askings -/
def zvotes (σ : MS) (z c w : Nat) : Nat → (Nat → Nat) | 0 => fun _ => 0 | k + 1 => fun o => if o = zans σ (zsd z (k + 1)) c w then zvotes σ z c w k o + 1 else zvotes σ z c w k o
theorem zvotes_le (σ : MS) (z c w : Nat) : ∀ k o, zvotes σ z c w k o ≤ k
  | 0, _ => Nat.le_refl 0
  | k + 1, o => by
    have h := zvotes_le σ z c w k o
    show (if o = _ then zvotes σ z c w k o + 1 else zvotes σ z c w k o) ≤ k + 1
    split <;> omega
/-- what most said among the first n; nobody is 4294967295 -/
def zmost (v : Nat → Nat) : Nat → Nat | 0 => 4294967295 | o + 1 => if (if zmost v o = 4294967295 then 0 else v (zmost v o)) < v o then o else zmost v o
theorem zmost_lt (v : Nat → Nat) : ∀ n, n ≤ 5 → zmost v n < n ∨ zmost v n = 4294967295
  | 0, _ => Or.inr rfl
  | o + 1, h => by
    have ih := zmost_lt v o (by omega)
    rw [zmost]
    by_cases hc : (if zmost v o = 4294967295 then 0 else v (zmost v o)) < v o
    · rw [if_pos hc]; exact Or.inl (by omega)
    · rw [if_neg hc]
      rcases ih with q | q
      · exact Or.inl (by omega)
      · exact Or.inr q
/-- whom a rule asks how often at the start, what it believes then -/
def zasks (rule fig : Nat) : Nat := if rule = 1 then 1 else if rule = 2 then fig else 0
def ztold (σ : MS) (z c w rule fig : Nat) : Nat := if rule = 1 then zans σ (znx z) c w else if rule = 2 then zmost (zvotes σ z c w fig) (σ.1 4) else if rule = 5 then (if fig < σ.1 4 then fig else 4294967295) else 4294967295
def zbmind (σ : MS) (m : Nat → Nat) (t : Nat) : Nat → Nat := if t = 4294967295 then m else zcp (zbelM m t) m (σ.1 4)
/-- one step without asking: mind, place, minutes more, roads more -/
def zstep (σ : MS) (w : Nat) (m : Nat → Nat) (pl : Nat) : (Nat → Nat) × Nat × Nat × Nat :=
  if σ.2 6 (zbest m (σ.1 4)) = pl then (zcp (fun o => if σ.2 6 o = pl then 0 else m o) m (σ.1 4), pl, 0, 0)
  else if znext σ (zbest m (σ.1 4)) pl = -4 then (fun a1 => if a1 = zbest m (σ.1 4) then 0 else m a1, pl, 0, 0)
  else if zshut σ w (zfirst (znextP σ (zbest m (σ.1 4)) pl) (σ.1 0)) then (zcp (zseeM σ m (zfirst (znextP σ (zbest m (σ.1 4)) pl) (σ.1 0)) 0) m (σ.1 4), pl, 0, 0)
  else (zcp (zseeM σ m (zfirst (znextP σ (zbest m (σ.1 4)) pl) (σ.1 0)) 1) m (σ.1 4), if σ.2 1 (zfirst (znextP σ (zbest m (σ.1 4)) pl) (σ.1 0)) = pl then σ.2 2 (zfirst (znextP σ (zbest m (σ.1 4)) pl) (σ.1 0)) else σ.2 1 (zfirst (znextP σ (zbest m (σ.1 4)) pl) (σ.1 0)), σ.2 3 (zfirst (znextP σ (zbest m (σ.1 4)) pl) (σ.1 0)), 1)
/-- what comes of a walk: lost, minutes, asked, gone -/
abbrev ZR : Type := Nat × Nat × Nat × Nat
/-- behind a step: mind settles, or chances come again, or it is lost -/
def zthen (σ : MS) (rec : (Nat → Nat) → Nat → Nat → Nat → Nat → Nat → Nat → Nat → ZR) (m : Nat → Nat) (mi as go se pl an ca : Nat) : ZR :=
  if zgall m (σ.1 4) = 0 then (if an = 0 then (1, mi, as, go) else rec (zcp (σ.2 5) m (σ.1 4)) mi as go se pl (an - 1) ca) else rec (zset (σ.1 4) m) mi as go se pl an ca
def zaft (σ : MS) (w : Nat) (rec : (Nat → Nat) → Nat → Nat → Nat → Nat → Nat → Nat → Nat → ZR) (m : Nat → Nat) (mi as go se pl an : Nat) : ZR :=
  zthen σ rec (zstep σ w m pl).1 (mi + (zstep σ w m pl).2.2.1) as (go + (zstep σ w m pl).2.2.2) se (zstep σ w m pl).2.1 an (zstep σ w m pl).2.2.2
abbrev zwill (σ : MS) (rule fig ca : Nat) (m : Nat → Nat) : Prop := ca = 1 ∧ (rule = 3 ∨ (rule = 4 ∧ zdb σ m fig))
def zloop (σ : MS) (w rule fig : Nat) : Nat → (Nat → Nat) → Nat → Nat → Nat → Nat → Nat → Nat → Nat → ZR
  | 0, m, mi, as, go, se, pl, an, ca => if pl = σ.2 6 w then (0, mi, as, go) else (if zwill σ rule fig ca m then (1, mi + σ.1 13, as + 1, go) else (1, mi, as, go))
  | k + 1, m, mi, as, go, se, pl, an, ca => if pl = σ.2 6 w then (0, mi, as, go) else (if zwill σ rule fig ca m then zaft σ w (zloop σ w rule fig k) (zhowM σ m pl (zans σ (znx se) pl w)) (mi + σ.1 13) (as + 1) go (znx se) pl an else zaft σ w (zloop σ w rule fig k) m mi as go se pl an)
theorem zloop_there {σ : MS} {w rule fig : Nat} {k : Nat} {m : Nat → Nat} {mi as go se pl an ca : Nat} (h : pl = σ.2 6 w) : zloop σ w rule fig k m mi as go se pl an ca = (0, mi, as, go) := by
  cases k <;> (unfold zloop; rw [if_pos h])
theorem zloop_0a {σ : MS} {w rule fig : Nat} {m : Nat → Nat} {mi as go se pl an ca : Nat} (h : pl ≠ σ.2 6 w) (h2 : zwill σ rule fig ca m) : zloop σ w rule fig 0 m mi as go se pl an ca = (1, mi + σ.1 13, as + 1, go) := by
  unfold zloop; rw [if_neg h, if_pos h2]
theorem zloop_0n {σ : MS} {w rule fig : Nat} {m : Nat → Nat} {mi as go se pl an ca : Nat} (h : pl ≠ σ.2 6 w) (h2 : ¬ zwill σ rule fig ca m) : zloop σ w rule fig 0 m mi as go se pl an ca = (1, mi, as, go) := by
  unfold zloop; rw [if_neg h, if_neg h2]
theorem zloop_sa {σ : MS} {w rule fig : Nat} {k : Nat} {m : Nat → Nat} {mi as go se pl an ca : Nat} (h : pl ≠ σ.2 6 w) (h2 : zwill σ rule fig ca m) : zloop σ w rule fig (k + 1) m mi as go se pl an ca = zaft σ w (zloop σ w rule fig k) (zhowM σ m pl (zans σ (znx se) pl w)) (mi + σ.1 13) (as + 1) go (znx se) pl an := by
  rw [zloop, if_neg h, if_pos h2]
theorem zloop_sn {σ : MS} {w rule fig : Nat} {k : Nat} {m : Nat → Nat} {mi as go se pl an ca : Nat} (h : pl ≠ σ.2 6 w) (h2 : ¬ zwill σ rule fig ca m) : zloop σ w rule fig (k + 1) m mi as go se pl an ca = zaft σ w (zloop σ w rule fig k) m mi as go se pl an := by
  rw [zloop, if_neg h, if_neg h2]
theorem zhow_x (σ : MS) (g k : Nat → Nat) (e : zset (σ.1 4) k = k) : sA (sA (sA σ 36 g) 29 k) 29 (zset (σ.1 4) k) = sA (sA σ 36 g) 29 k := by rw [sA_sA, e]
theorem zhow_y (σ : MS) (g f k : Nat → Nat) : sA (sA σ 36 g) 29 k = sA (sA σ 36 g) 29 (zcp f k 0) := congrArg (sA _ 29) (funext fun a => (zcp_out (Nat.zero_le a)).symm)
theorem zw_c {σ : MS} {m m' v v' a a' : Nat → Nat} {mi mi' as as' go go' lo lo' se se' : Nat} (h1 : m = m') (h2 : v = v') (h3 : a = a') (h4 : mi = mi') (h5 : as = as') (h6 : go = go') (h7 : lo = lo') (h8 : se = se') : zw σ m v a mi as go lo se = zw σ m' v' a' mi' as' go' lo' se' := by
  subst h1 h2 h3 h4 h5 h6 h7 h8
  rfl
theorem zw_zw {σ : MS} {m m' v v' a a' : Nat → Nat} {mi mi' as as' go go' lo lo' se se' : Nat} : zw (zw σ m v a mi as go lo se) m' v' a' mi' as' go' lo' se' = zw σ m' v' a' mi' as' go' lo' se' := by
  refine Prod.ext (funext fun j => ?_) (funext fun j => ?_)
  · show (if j = 30 then mi' else if j = 31 then as' else if j = 32 then go' else if j = 33 then lo' else if j = 34 then se' else if j = 30 then mi else if j = 31 then as else if j = 32 then go else if j = 33 then lo else if j = 34 then se else σ.1 j) = (if j = 30 then mi' else if j = 31 then as' else if j = 32 then go' else if j = 33 then lo' else if j = 34 then se' else σ.1 j)
    by_cases h0 : j = 30
    · simp only [h0, if_true, ite_true]
    · by_cases h1 : j = 31
      · simp only [h0, h1, if_false, if_true, ite_true, ite_false]
      · by_cases h2 : j = 32
        · simp only [h0, h1, h2, if_false, if_true, ite_true, ite_false]
        · by_cases h3 : j = 33
          · simp only [h0, h1, h2, h3, if_false, if_true, ite_true, ite_false]
          · by_cases h4 : j = 34
            · simp only [h0, h1, h2, h3, h4, if_false, if_true, ite_true, ite_false]
            · simp only [h0, h1, h2, h3, h4, if_false, if_true, ite_true, ite_false]
  · show (if j = 29 then m' else if j = 35 then v' else if j = 36 then a' else if j = 29 then m else if j = 35 then v else if j = 36 then a else σ.2 j) = (if j = 29 then m' else if j = 35 then v' else if j = 36 then a' else σ.2 j)
    by_cases h0 : j = 29
    · simp only [h0, if_true, ite_true]
    · by_cases h1 : j = 35
      · simp only [h0, h1, if_false, if_true, ite_true, ite_false]
      · by_cases h2 : j = 36
        · simp only [h0, h1, h2, if_false, if_true, ite_true, ite_false]
        · simp only [h0, h1, h2, if_false, if_true, ite_true, ite_false]
theorem zmost_cong {v v' : Nat → Nat} : ∀ {n : Nat}, n ≤ 5 → (∀ o, o < n → v o = v' o) → zmost v n = zmost v' n
  | 0, _, _ => rfl
  | o + 1, h5, h => by
    have ih := zmost_cong (n := o) (by omega) (fun k hk => h k (by omega))
    have h2 := h o (by omega)
    have h3 : (if zmost v o = 4294967295 then 0 else v (zmost v o)) = (if zmost v' o = 4294967295 then 0 else v' (zmost v' o)) := by
      rw [ih]
      by_cases h4 : zmost v' o = 4294967295
      · rw [if_pos h4, if_pos h4]
      · rw [if_neg h4, if_neg h4]
        rcases zmost_lt v' o (by omega) with q | q
        · exact h _ (by omega)
        · exact absurd q h4
    rw [zmost, zmost, h3, h2, ih]
theorem zvotes_no {σ : MS} {z c w k o : Nat} {v : Nat → Nat} (hv : v o = zvotes σ z c w k o) (ea : zans σ (znx (zsd z k)) c w = 4294967295) (ho : o < 5) : v o = zvotes σ z c w (k + 1) o := by
  show _ = if o = zans σ (znx (zsd z k)) c w then zvotes σ z c w k o + 1 else zvotes σ z c w k o
  rw [if_neg (by omega), hv]
theorem zvotes_up {σ : MS} {z c w k o : Nat} {v : Nat → Nat} (hv : v o = zvotes σ z c w k o) : (if o = zans σ (znx (zsd z k)) c w then v (zans σ (znx (zsd z k)) c w) + 1 else v o) = zvotes σ z c w (k + 1) o := by
  show _ = if o = zans σ (znx (zsd z k)) c w then zvotes σ z c w k o + 1 else zvotes σ z c w k o
  by_cases h : o = zans σ (znx (zsd z k)) c w
  · rw [if_pos h, if_pos h, ← h, hv]
  · rw [if_neg h, if_neg h, hv]
theorem zfirst_P {P : Nat → Bool} : ∀ {n : Nat}, zfirst P n < n → P (zfirst P n) = true
  | 0, h => absurd h (Nat.not_lt_zero _)
  | n + 1, h => by
    unfold zfirst at h ⊢
    by_cases h1 : zfirst P n < n
    · rw [if_pos h1]; exact zfirst_P h1
    · rw [if_neg h1] at h ⊢
      by_cases h2 : P n = true
      · rw [if_pos h2]; exact h2
      · rw [if_neg h2] at h; omega
theorem znext_r {σ : MS} {w c : Nat} (h : ¬ znext σ w c = -4) : znext σ w c = nI (zfirst (znextP σ w c) (σ.1 0)) ∧ zfirst (znextP σ w c) (σ.1 0) < σ.1 0 ∧ znextP σ w c (zfirst (znextP σ w c) (σ.1 0)) = true := by
  unfold znext at h ⊢
  by_cases h1 : σ.2 27 (8 * w + c) < 99999 ∧ zfirst (znextP σ w c) (σ.1 0) < σ.1 0
  · rw [if_pos h1]; exact ⟨rfl, h1.2, zfirst_P h1.2⟩
  · rw [if_neg h1] at h; exact absurd rfl h
def zwalk (σ : MS) (w c rule fig : Nat) (m : Nat → Nat) (z : Nat) : ZR := if c = σ.2 6 w then (0, 0, 0, 0) else zloop σ w rule fig 200 (zbmind σ m (ztold σ z c w rule fig)) (0 + zasks rule fig * σ.1 13) (0 + zasks rule fig) 0 (zsd z (zasks rule fig)) c (if rule = 1 ∨ rule = 2 ∨ rule = 5 then 1 else 0) 1
theorem zcp_le {f g : Nat → Nat} {n B : Nat} (hf : ∀ w, w < n → f w ≤ B) : ∀ w, w < n → zcp f g n w ≤ B := fun w hw => by rw [zcp_in hw]; exact hf w hw
theorem zbmind_le {σ : MS} {m : Nat → Nat} {t B : Nat} (h : ∀ w, w < σ.1 4 → m w ≤ B) : ∀ w, w < σ.1 4 → zbmind σ m t w ≤ B := fun w hw => by
  unfold zbmind
  split
  · exact h w hw
  · rw [zcp_in hw]
    show (if w = t then m w else 0) ≤ B
    split
    · exact h w hw
    · exact Nat.zero_le _
theorem zhowM_le {σ : MS} (hok : mOk σ) {m : Nat → Nat} {c a : Nat} (hc : c < 8) (h : ∀ w, w < σ.1 4 → m w ≤ 100000000000) : ∀ w, w < σ.1 4 → zhowM σ m c a w ≤ 100000000000 := fun w hw => by
  unfold zhowM
  split
  · exact h w hw
  · refine zset_le (fun k hk => ?_) w hw
    rw [zcp_in hk]
    have h1 := h k hk
    have h2 := zhund_le (a := a) (w := k) hok hc
    have h3 := Nat.mul_le_mul h1 h2
    show m k * zhund σ c a k < _
    omega
theorem zm1_inc {an : Nat} (h : 0 < an) (h2 : an < 2) : nI an + Int32.ofInt (-1) = nI (an - 1) := by
  rw [show an = 1 by omega]
  decide
theorem zite_le {c : Prop} [Decidable c] {a B : Nat} (h : a ≤ B) : (if c then 0 else a) ≤ B := by
  split
  · exact Nat.zero_le _
  · exact h
theorem zstep_goal {σ : MS} {w : Nat} {m : Nat → Nat} {pl l : Nat} (hl : l = zbest m (σ.1 4)) (h1 : σ.2 6 l = pl) : zstep σ w m pl = (zcp (fun o => if σ.2 6 o = pl then 0 else m o) m (σ.1 4), pl, 0, 0) := by
  subst hl; unfold zstep; rw [if_pos h1]
theorem zstep_none {σ : MS} {w : Nat} {m : Nat → Nat} {pl l : Nat} (hl : l = zbest m (σ.1 4)) (h1 : ¬ σ.2 6 l = pl) (h2 : znext σ l pl = -4) : zstep σ w m pl = (fun a1 => if a1 = l then 0 else m a1, pl, 0, 0) := by
  subst hl; unfold zstep; rw [if_neg h1, if_pos h2]
theorem zstep_shut {σ : MS} {w : Nat} {m : Nat → Nat} {pl l r : Nat} (hl : l = zbest m (σ.1 4)) (h1 : ¬ σ.2 6 l = pl) (h2 : ¬ znext σ l pl = -4) (hr : r = zfirst (znextP σ l pl) (σ.1 0)) (h3 : zshut σ w r) : zstep σ w m pl = (zcp (zseeM σ m r 0) m (σ.1 4), pl, 0, 0) := by
  subst hl; subst hr; unfold zstep; rw [if_neg h1, if_neg h2, if_pos h3]
theorem zstep_goA {σ : MS} {w : Nat} {m : Nat → Nat} {pl l r : Nat} (hl : l = zbest m (σ.1 4)) (h1 : ¬ σ.2 6 l = pl) (h2 : ¬ znext σ l pl = -4) (hr : r = zfirst (znextP σ l pl) (σ.1 0)) (h3 : ¬ zshut σ w r) (e1 : σ.2 1 r = pl) : zstep σ w m pl = (zcp (zseeM σ m r 1) m (σ.1 4), σ.2 2 r, σ.2 3 r, 1) := by
  subst hl; subst hr; unfold zstep; rw [if_neg h1, if_neg h2, if_neg h3, if_pos e1]
theorem zstep_goB {σ : MS} {w : Nat} {m : Nat → Nat} {pl l r : Nat} (hl : l = zbest m (σ.1 4)) (h1 : ¬ σ.2 6 l = pl) (h2 : ¬ znext σ l pl = -4) (hr : r = zfirst (znextP σ l pl) (σ.1 0)) (h3 : ¬ zshut σ w r) (e1 : ¬ σ.2 1 r = pl) : zstep σ w m pl = (zcp (zseeM σ m r 1) m (σ.1 4), σ.2 1 r, σ.2 3 r, 1) := by
  subst hl; subst hr; unfold zstep; rw [if_neg h1, if_neg h2, if_neg h3, if_neg e1]
theorem zans_zw {σ : MS} {m v a : Nat → Nat} {mi as go lo se : Nat} (z c w : Nat) : zans (zw σ m v a mi as go lo se) z c w = zans σ z c w := rfl
theorem zvotes_zw {σ : MS} {m v a : Nat → Nat} {mi as go lo se : Nat} (z c w : Nat) : ∀ k, zvotes (zw σ m v a mi as go lo se) z c w k = zvotes σ z c w k
  | 0 => rfl
  | k + 1 => by
    funext o
    show (if o = zans (zw σ m v a mi as go lo se) (zsd z (k + 1)) c w then zvotes (zw σ m v a mi as go lo se) z c w k o + 1 else zvotes (zw σ m v a mi as go lo se) z c w k o) = (if o = zans σ (zsd z (k + 1)) c w then zvotes σ z c w k o + 1 else zvotes σ z c w k o)
    rw [zvotes_zw z c w k, zans_zw]
theorem ztold_zw {σ : MS} {m v a : Nat → Nat} {mi as go lo se : Nat} (z c w r f : Nat) : ztold (zw σ m v a mi as go lo se) z c w r f = ztold σ z c w r f := by
  unfold ztold
  rw [zvotes_zw, zans_zw]
  rfl
/-! what a walk asks of a mind: its first weights alone -/
def zsame (n : Nat) (f g : Nat → Nat) : Prop := ∀ w, w < n → f w = g w
theorem zsame_zcp {n : Nat} {f f' g g' : Nat → Nat} (h : zsame n f f') : zsame n (zcp f g n) (zcp f' g' n) := fun w hw => by rw [zcp_in hw, zcp_in hw, h w hw]
theorem zsame_zcp2 {n : Nat} (f g : Nat → Nat) : zsame n (zcp f g n) f := fun w hw => zcp_in hw
theorem zbest_cong {f g : Nat → Nat} : ∀ {n : Nat}, zsame n f g → zbest f n = zbest g n
  | 0, _ => rfl
  | n + 1, h => by
    have ih := zbest_cong (n := n) (fun w hw => h w (by omega))
    have hn := h n (by omega)
    have hb : f (zbest g n) = g (zbest g n) := by
      rcases Nat.eq_zero_or_pos n with h0 | h0
      · subst h0; exact h 0 (by omega)
      · exact h _ (Nat.lt_trans (zbest_lt g n h0) (by omega))
    rw [zbest, zbest, ih, hn, hb]
theorem zgall_cong {f g : Nat → Nat} : ∀ {n : Nat}, zsame n f g → zgall f n = zgall g n
  | 0, _ => rfl
  | n + 1, h => by rw [zgall, zgall, h n (by omega), zgall_cong (n := n) (fun w hw => h w (by omega))]
theorem zany_cong {P R : Nat → Bool} : ∀ {n : Nat}, (∀ w, w < n → P w = R w) → zany P n = zany R n
  | 0, _ => rfl
  | n + 1, h => by rw [zany, zany, h n (by omega), zany_cong (n := n) (fun w hw => h w (by omega))]
theorem zhalves_cong {n : Nat} : ∀ (k : Nat) {f g : Nat → Nat}, zsame n f g → zsame n (zhalves n k f) (zhalves n k g)
  | 0, _, _, h => h
  | k + 1, f, g, h => by
    have hb : zany (zbigP f) n = zany (zbigP g) n := zany_cong fun w hw => by unfold zbigP; rw [h w hw]
    rw [zhalves, zhalves, hb]
    split
    · exact zhalves_cong k (zsame_zcp fun w hw => by unfold zhf; rw [h w hw])
    · exact h
theorem zset_cong {n : Nat} {f g : Nat → Nat} (h : zsame n f g) : zsame n (zset n f) (zset n g) := zhalves_cong 64 (zsame_zcp fun w hw => by rw [h w hw, zgall_cong h])
theorem zhowM_cong {σ : MS} {m m' : Nat → Nat} {c a : Nat} (h : zsame (σ.1 4) m m') : zsame (σ.1 4) (zhowM σ m c a) (zhowM σ m' c a) := by
  have h1 : zsame (σ.1 4) (zcp (zhearM σ m c a) m (σ.1 4)) (zcp (zhearM σ m' c a) m' (σ.1 4)) := zsame_zcp fun w hw => by show m w * _ = m' w * _; rw [h w hw]
  unfold zhowM
  rw [zgall_cong h1]
  split
  · exact h
  · exact zset_cong h1
theorem zstep_cong {σ : MS} {w pl : Nat} {m m' : Nat → Nat} (h : zsame (σ.1 4) m m') : zsame (σ.1 4) (zstep σ w m pl).1 (zstep σ w m' pl).1 ∧ (zstep σ w m pl).2 = (zstep σ w m' pl).2 := by
  unfold zstep
  rw [zbest_cong h]
  split
  · exact ⟨zsame_zcp fun o ho => by rw [h o ho], rfl⟩
  · split
    · exact ⟨fun o ho => by show (if o = _ then 0 else m o) = (if o = _ then 0 else m' o); rw [h o ho], rfl⟩
    · split
      · exact ⟨zsame_zcp fun o ho => by show (if _ then 0 else m o) = (if _ then 0 else m' o); rw [h o ho], rfl⟩
      · exact ⟨zsame_zcp fun o ho => by show (if _ then 0 else m o) = (if _ then 0 else m' o); rw [h o ho], rfl⟩
theorem zaft_cong {σ : MS} {w : Nat} {rec : (Nat → Nat) → Nat → Nat → Nat → Nat → Nat → Nat → Nat → ZR} (hr : ∀ (m m' : Nat → Nat) (mi as go se pl an ca : Nat), zsame (σ.1 4) m m' → rec m mi as go se pl an ca = rec m' mi as go se pl an ca) {m m' : Nat → Nat} {mi as go se pl an : Nat} (h : zsame (σ.1 4) m m') : zaft σ w rec m mi as go se pl an = zaft σ w rec m' mi as go se pl an := by
  obtain ⟨h1, h2⟩ := zstep_cong (w := w) (pl := pl) h
  unfold zaft zthen
  rw [h2, zgall_cong h1]
  split
  · split
    · rfl
    · exact hr _ _ _ _ _ _ _ _ _ (zsame_zcp fun _ _ => rfl)
  · exact hr _ _ _ _ _ _ _ _ _ (zset_cong h1)
theorem zwill_cong {σ : MS} {rule fig ca : Nat} {m m' : Nat → Nat} (h : zsame (σ.1 4) m m') (hn : 0 < σ.1 4) : zwill σ rule fig ca m ↔ zwill σ rule fig ca m' := by
  have e1 := zbest_cong h
  have e2 := zsum_cong (σ.1 4) h
  have e3 := h _ (zbest_lt m' (σ.1 4) hn)
  unfold zwill zdb
  rw [e1, e2, e3]
theorem zloop_cong {σ : MS} {w rule fig : Nat} (hn : 0 < σ.1 4) : ∀ (k : Nat) (m m' : Nat → Nat) (mi as go se pl an ca : Nat), zsame (σ.1 4) m m' → zloop σ w rule fig k m mi as go se pl an ca = zloop σ w rule fig k m' mi as go se pl an ca
  | 0, m, m', mi, as, go, se, pl, an, ca, h => by
    by_cases hp : pl = σ.2 6 w
    · rw [zloop_there hp, zloop_there hp]
    · by_cases hw : zwill σ rule fig ca m
      · rw [zloop_0a hp hw, zloop_0a hp ((zwill_cong h hn).mp hw)]
      · rw [zloop_0n hp hw, zloop_0n hp (fun q => hw ((zwill_cong h hn).mpr q))]
  | k + 1, m, m', mi, as, go, se, pl, an, ca, h => by
    by_cases hp : pl = σ.2 6 w
    · rw [zloop_there hp, zloop_there hp]
    · by_cases hw : zwill σ rule fig ca m
      · rw [zloop_sa hp hw, zloop_sa hp ((zwill_cong h hn).mp hw)]
        exact zaft_cong (zloop_cong hn k) (zhowM_cong h)
      · rw [zloop_sn hp hw, zloop_sn hp (fun q => hw ((zwill_cong h hn).mpr q))]
        exact zaft_cong (zloop_cong hn k) h
theorem zwalk_cong {σ : MS} {w c rule fig z : Nat} {m m' : Nat → Nat} (hn : 0 < σ.1 4) (h : zsame (σ.1 4) m m') : zwalk σ w c rule fig m z = zwalk σ w c rule fig m' z := by
  unfold zwalk
  split
  · rfl
  · refine zloop_cong hn 200 _ _ _ _ _ _ _ _ _ ?_
    unfold zbmind
    split
    · exact h
    · exact zsame_zcp fun o ho => by show (if o = _ then m o else 0) = (if o = _ then m' o else 0); rw [h o ho]
/-- minutes in sums -/
def zin (R : ZR) : Nat := if R.1 = 0 then R.2.1 else 999
def zmean (σ : MS) (rule fig n z : Nat) : Nat → Nat := fun w => zsum (fun k => σ.2 5 w * zin (zwalk σ w (σ.1 12) rule fig (σ.2 5) (z + k))) n
theorem zloop_zw {σ : MS} {m v a : Nat → Nat} {mi as go lo se : Nat} {w rule fig : Nat} : ∀ k, zloop (zw σ m v a mi as go lo se) w rule fig k = zloop σ w rule fig k
  | 0 => rfl
  | k + 1 => by
    funext m1 mi1 as1 go1 se1 pl an ca
    have ih := zloop_zw (σ := σ) (m := m) (v := v) (a := a) (mi := mi) (as := as) (go := go) (lo := lo) (se := se) (w := w) (rule := rule) (fig := fig) k
    by_cases hp : pl = σ.2 6 w
    · rw [zloop_there hp, zloop_there (σ := zw σ m v a mi as go lo se) hp]
    · by_cases hw : zwill σ rule fig ca m1
      · rw [zloop_sa hp hw, zloop_sa (σ := zw σ m v a mi as go lo se) hp hw, ih]
        rfl
      · rw [zloop_sn hp hw, zloop_sn (σ := zw σ m v a mi as go lo se) hp hw, ih]
        rfl
theorem zwalk_zw {σ : MS} {m v a : Nat → Nat} {mi as go lo se : Nat} (w c rule fig : Nat) (m1 : Nat → Nat) (z : Nat) : zwalk (zw σ m v a mi as go lo se) w c rule fig m1 z = zwalk σ w c rule fig m1 z := by
  unfold zwalk
  rw [ztold_zw, zloop_zw]
  rfl
theorem zsum_add1 {f : Nat → Nat} {A k x : Nat} (h : f k = x) : A + zsum f k + x = A + zsum f (k + 1) := by
  subst h
  exact Nat.add_assoc _ _ _
/-- the land, ways being found -/
def zf (σ : MS) : MS := sA σ 27 (zws σ (σ.2 27) (σ.1 4))
abbrev zir (x : Int32) (n : Nat) : Prop := 0 ≤ x.toInt ∧ x.toInt < (n : Int)
abbrev zready (σ : MS) : Prop := zsum (σ.2 5) (σ.1 4) = 100
/-- the shelves and the thought are as they can be -/
def mSh (σ : MS) : Prop := (∀ d, d < 8 → σ.2 41 d < 3) ∧ (∀ d, d < 8 → σ.2 41 d = 1 → σ.2 42 d < 6 ∧ σ.2 43 d < 100) ∧ (∀ d, d < 8 → σ.2 41 d = 2 → σ.2 44 d < 3 ∧ σ.2 45 d ≤ 100) ∧ (∀ w, w < σ.1 4 → σ.2 14 w ≤ 100000000000) ∧ zWok (σ.2 27) ∧ σ.1 28 = 4294967295 ∧ (zsum (σ.2 5) (σ.1 4) = 100 → 0 < zsum (σ.2 14) (σ.1 4))
def zminutes (R : ZR) : Int32 := if R.1 = 0 then nI R.2.1 else nI 99999
def zbyR (R : ZR) (wh : Int32) : Int32 := if wh.toInt = 0 then zminutes R else if wh.toInt = 1 then nI R.2.2.1 else nI R.2.2.2
def zby (σ : MS) (d w : Int32) (z : Nat) (wh : Int32) : Int32 := if ¬ (zir d 8 ∧ zir w (σ.1 4) ∧ zir wh 3) then -1 else if zrulK σ d.toInt.toNat < 0 then zrulK σ d.toInt.toNat else if ¬ zready σ then -3 else zbyR (zwalk (zf σ) w.toInt.toNat (σ.1 12) (σ.2 42 d.toInt.toNat) (σ.2 43 d.toInt.toNat) (σ.2 5) z) wh
def zwmean (σ : MS) (d n : Int32) : Int32 := if ¬ (zir d 8 ∧ 1 ≤ n.toInt ∧ n.toInt < 21) then -1 else if zrulK σ d.toInt.toNat < 0 then zrulK σ d.toInt.toNat else if zready σ then 0 else -3
def zmeans (σ : MS) (rule fig n z : Nat) : Nat := zsum (zmean σ rule fig n z) (σ.1 4)
theorem zaft_lost {σ : MS} {w : Nat} {rec : (Nat → Nat) → Nat → Nat → Nat → Nat → Nat → Nat → Nat → ZR} (hr : ∀ (m : Nat → Nat) (mi as go se pl an ca : Nat), (rec m mi as go se pl an ca).1 < 2) {m : Nat → Nat} {mi as go se pl an : Nat} : (zaft σ w rec m mi as go se pl an).1 < 2 := by
  unfold zaft zthen
  split
  · split
    · show 1 < 2; omega
    · exact hr _ _ _ _ _ _ _ _
  · exact hr _ _ _ _ _ _ _ _
theorem zloop_lost {σ : MS} {w rule fig : Nat} : ∀ (k : Nat) (m : Nat → Nat) (mi as go se pl an ca : Nat), (zloop σ w rule fig k m mi as go se pl an ca).1 < 2
  | 0, m, mi, as, go, se, pl, an, ca => by
    by_cases hp : pl = σ.2 6 w
    · rw [zloop_there hp]; show 0 < 2; omega
    · by_cases hw : zwill σ rule fig ca m
      · rw [zloop_0a hp hw]; show 1 < 2; omega
      · rw [zloop_0n hp hw]; show 1 < 2; omega
  | k + 1, m, mi, as, go, se, pl, an, ca => by
    by_cases hp : pl = σ.2 6 w
    · rw [zloop_there hp]; show 0 < 2; omega
    · by_cases hw : zwill σ rule fig ca m
      · rw [zloop_sa hp hw]; exact zaft_lost (zloop_lost k)
      · rw [zloop_sn hp hw]; exact zaft_lost (zloop_lost k)
theorem zwalk_lost {σ : MS} {w c rule fig z : Nat} {m : Nat → Nat} : (zwalk σ w c rule fig m z).1 < 2147483648 := by
  have h : (zwalk σ w c rule fig m z).1 < 2 := by
    unfold zwalk
    split
    · show 0 < 2; omega
    · exact zloop_lost _ _ _ _ _ _ _ _ _
  omega
theorem zrulK_neg {σ : MS} {d : Nat} (h : σ.2 41 d < 3) : (zrulK σ d < 0 ↔ σ.2 41 d ≠ 1) ∧ (σ.2 41 d = 1 → zrulK σ d = 0) := by
  unfold zrulK
  refine ⟨⟨fun h2 h3 => ?_, fun h2 => ?_⟩, fun h2 => ?_⟩
  · rw [if_neg (by omega), if_pos h3] at h2; exact absurd h2 (by decide)
  · by_cases h3 : σ.2 41 d = 0
    · rw [if_pos h3]; decide
    · rw [if_neg h3, if_neg h2]; decide
  · rw [if_neg (by omega), if_pos h2]
theorem zi8 (x : Int32) : (lN 0 ≤ x.toInt64 ∧ x.toInt64 ≤ lN 7) ↔ zir x 8 := by
  simp only [z64_le, zi_l, zl_toInt (show 0 < 9223372036854775808 by decide), zl_toInt (show 7 < 9223372036854775808 by decide)]
  omega
theorem zi20 (x : Int32) : (lN 1 ≤ x.toInt64 ∧ x.toInt64 ≤ lN 20) ↔ (1 ≤ x.toInt ∧ x.toInt < 21) := by
  simp only [z64_le, zi_l, zl_toInt (show 1 < 9223372036854775808 by decide), zl_toInt (show 20 < 9223372036854775808 by decide)]
  omega
theorem zi_n (x : Int32) {n : Nat} (hn : n < 9223372036854775808) : (lN 0 ≤ x.toInt64 ∧ x.toInt64 ≤ lN n) ↔ zir x (n + 1) := by
  simp only [z64_le, zi_l, zl_toInt (show 0 < 9223372036854775808 by decide), zl_toInt hn]
  omega
