/-! JUDGED -/
/-- a place of what is told that isn't as the thought is -/
def zjuC (g : Nat → Int32) (n t : Nat) (F : Nat → Nat) : Nat → Bool := fun w => decide (n ≤ w ∨ (¬ g w = zlst t ∧ ¬ (g w).toInt64 = lN (if 0 < zsum F 5 then 100 * F w / zsum F 5 else 0)))
def zfmC (τ : MS) (g : Nat → Int32) (n t : Nat) (F : Nat → Nat) : Int32 := if zfirst (zjuC g n t F) (τ.1 4) < τ.1 4 then nI (zfirst (zjuC g n t F) (τ.1 4)) else if τ.1 4 < n then nI (τ.1 4) else -4
theorem zfm_at {τ : MS} {g : Nat → Int32} {n t : Nat} {F : Nat → Nat} {w : Nat} (h0 : ∀ j, j < w → zjuC g n t F j = false) (h1 : zjuC g n t F w = true) (hw : w < τ.1 4) : zfmC τ g n t F = nI w := by
  unfold zfmC
  rw [zfirst_at h0 h1 hw, if_pos hw]
theorem zfm_none {τ : MS} {g : Nat → Int32} {n t : Nat} {F : Nat → Nat} (h0 : ∀ j, j < τ.1 4 → zjuC g n t F j = false) : zfmC τ g n t F = if τ.1 4 < n then nI (τ.1 4) else -4 := by
  unfold zfmC
  rw [zfirst_none h0, if_neg (Nat.lt_irrefl _)]
theorem zju_n {g : Nat → Int32} {n t : Nat} {F : Nat → Nat} {w : Nat} (h : w < n) (h2 : g w = zlst t ∨ (g w).toInt64 = lN (if 0 < zsum F 5 then 100 * F w / zsum F 5 else 0)) : zjuC g n t F w = false := decide_eq_false (fun q => q.elim (fun q => by omega) (fun q => h2.elim q.1 q.2))
def zjuS (τ ρ : MS) (F : Nat → Nat) (xd : Int32) : Int32 := if ¬ zir xd 8 then -1 else if ¬ zready τ then -3 else if ¬ ρ.2 41 xd.toInt.toNat = 2 then shL (ρ.2 41) xd else zfmC τ (sel ρ xd.toInt.toNat) (ρ.2 45 xd.toInt.toNat) (ρ.2 44 xd.toInt.toNat) F
