theorem mEq_A29 {σ τ : MS} {g : Nat → Nat} (h : mEq σ τ) : mEq σ (sA τ 29 g) := by
  refine ⟨fun j hj => ⟨(h.1 j hj).1, ?_⟩, h.2⟩
  show (if j = 29 then g else τ.2 j) = σ.2 j
  rw [if_neg (fun e => hj (by unfold mScr; omega))]
  exact (h.1 j hj).2
theorem mEq_A14 {σ τ : MS} {g : Nat → Nat} (h : mEq σ τ) : mEq (sA σ 14 g) (sA τ 14 g) := by
  refine ⟨fun j hj => ⟨(h.1 j hj).1, ?_⟩, h.2⟩
  show (if j = 14 then g else τ.2 j) = (if j = 14 then g else σ.2 j)
  rw [(h.1 j hj).2]
theorem zcp_cong {f f' g : Nat → Nat} {n : Nat} (h : zsame n f f') : zcp f g n = zcp f' g n := by
  funext a
  unfold zcp
  split
  · rename_i hl; exact h a hl
  · rfl
def zkeepT (σ : MS) (H : Nat → Nat) : MS := if zgall H (σ.1 4) = 0 then σ else sA σ 14 (zcp (zset (σ.1 4) H) (σ.2 14) (σ.1 4))
def zkeepR (σ : MS) (H : Nat → Nat) : Int32 := if zgall H (σ.1 4) = 0 then -3 else nI (zbest (zset (σ.1 4) H) (σ.1 4))
theorem zkeepR_cong {σ : MS} {H H' : Nat → Nat} (h : zsame (σ.1 4) H H') : (if zgall H (σ.1 4) = 0 then (-3 : Int32) else nI (zbest (zset (σ.1 4) H) (σ.1 4))) = zkeepR σ H' := by
  unfold zkeepR
  rw [zgall_cong h, zbest_cong (zset_cong h)]
theorem zkeep_mEq {σ τ : MS} {H H' S : Nat → Nat} (ht : mEq σ τ) (h : zsame (σ.1 4) H H') : mEq (zkeepT σ H') (sA (sA τ 29 S) 14 (if zgall H (σ.1 4) = 0 then σ.2 14 else zcp (zset (σ.1 4) H) (σ.2 14) (σ.1 4))) := by
  unfold zkeepT
  rw [← zgall_cong h]
  split
  · have h2 := mEq_A14 (g := σ.2 14) (mEq_A29 (g := S) ht)
    rw [sA_self] at h2
    exact h2
  · rw [zcp_cong (zset_cong h)]
    exact mEq_A14 (mEq_A29 ht)
def zanewT (σ : MS) : MS := if zready σ then sA σ 14 (zcp (σ.2 5) (σ.2 14) (σ.1 4)) else σ
def zanewS (σ : MS) : Int32 := if zready σ then nI (zbest (σ.2 5) (σ.1 4)) else -3
abbrev zanR (σ : MS) (a : Int32) : Prop := -1 ≤ a.toInt ∧ a.toInt < (σ.1 4 : Int)
def zansH (σ : MS) (c a : Int32) : Nat → Nat := zhearM (zf σ) (σ.2 14) c.toInt.toNat (iN a)
def zanswerS (σ : MS) (c a : Int32) : Int32 := if ¬ (zir c 8 ∧ zanR σ a) then -1 else if ¬ zready σ then -3 else zkeepR σ (zansH σ c a)
def zanswerT (σ : MS) (c a : Int32) : MS := if ¬ (zir c 8 ∧ zanR σ a) then σ else if ¬ zready σ then σ else zkeepT σ (zansH σ c a)
def zfndH (σ : MS) (r : Int32) (b : Nat) : Nat → Nat := zseeM σ (σ.2 14) r.toInt.toNat b
def zfoundS (σ : MS) (r : Int32) (b : Nat) : Int32 := if ¬ zir r (σ.1 0) then -1 else if ¬ zready σ then -3 else zkeepR σ (zfndH σ r b)
def zfoundT (σ : MS) (r : Int32) (b : Nat) : MS := if ¬ zir r (σ.1 0) then σ else if ¬ zready σ then σ else zkeepT σ (zfndH σ r b)
def zsamM (σ : MS) (m : Nat → Nat) (c a q : Nat) : Nat → Nat := fun w => m w * (zhund σ c a w * (100 * q + (100 - q) * zhund σ c a w))
def zsamH (σ : MS) (c a q : Int32) : Nat → Nat := zsamM (zf σ) (σ.2 14) c.toInt.toNat (iN a) q.toInt.toNat
def zsameS (σ : MS) (c a q : Int32) : Int32 := if ¬ (zir c 8 ∧ zanR σ a ∧ zir q 101) then -1 else if ¬ zready σ then -3 else zkeepR σ (zsamH σ c a q)
def zsameT (σ : MS) (c a q : Int32) : MS := if ¬ (zir c 8 ∧ zanR σ a ∧ zir q 101) then σ else if ¬ zready σ then σ else zkeepT σ (zsamH σ c a q)
theorem zsam_lt {σ : MS} (hok : mOk σ) {m : Nat → Nat} {c a q w : Nat} (hc : c < 8) (hq : q ≤ 100) (hm : m w ≤ 100000000000) : zsamM σ m c a q w < 9223372036854775808 := by
  have h1 := zhund_le (a := a) (w := w) hok hc
  have h2 := Nat.mul_le_mul (show 100 - q ≤ 100 - q by omega) h1
  have h3 := Nat.mul_le_mul h1 (show 100 * q + (100 - q) * zhund σ c a w ≤ 10000 by omega)
  have h4 := Nat.mul_le_mul hm h3
  show m w * (zhund σ c a w * (100 * q + (100 - q) * zhund σ c a w)) < _
  omega
theorem zsm_0 (τ : MS) (M f : Nat → Nat) : sA τ 29 M = sA (sA τ 29 M) 29 (zcp f M 0) := by
  rw [show zcp f M 0 = M from funext fun a => zcp_out (Nat.zero_le a), sA_sA]
