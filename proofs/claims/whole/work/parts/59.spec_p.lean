/-! THE IMAGE, number by number: where each stands; the state after n numbers moved -/
def zpF : Nat → Nat := fun j => if j = 0 then 0 else if j = 4 then 1 else if j = 8 then 2 else if j = 12 then 3 else if j = 13 then 4 else 133
def zpA : Nat → Nat → Nat := fun j i => if (j = 1 ∨ j = 2 ∨ j = 3) ∧ i < 16 then 4 + j + 3 * i else if (j = 5 ∨ j = 6 ∨ j = 7) ∧ i < 5 then 48 + j + 4 * i else if j = 14 ∧ i < 5 then 56 + 4 * i else if (j = 9 ∨ j = 10) ∧ i < 6 then 64 + j + 2 * i else if j = 11 ∧ i < 48 then 85 + i else 133
def zvF (n : Nat) : Nat := if n = 0 then 0 else if n = 1 then 4 else if n = 2 then 8 else if n = 3 then 12 else 13
def zvJ (n : Nat) : Nat := if n < 53 then 1 + (n - 5) % 3 else if n < 73 then (if (n - 53) % 4 = 3 then 14 else 5 + (n - 53) % 4) else if n < 85 then 9 + (n - 73) % 2 else 11
def zvI (n : Nat) : Nat := if n < 53 then (n - 5) / 3 else if n < 73 then (n - 53) / 4 else if n < 85 then (n - 73) / 2 else n - 85
def zvat (σ : MS) (n : Nat) : Nat := if n < 5 then σ.1 (zvF n) else σ.2 (zvJ n) (zvI n)
theorem zpF_inv {j n : Nat} (h : zpF j = n) (hn : n < 133) : n < 5 ∧ zvF n = j := by
  unfold zpF at h; unfold zvF
  constructor <;> (repeat' split at h) <;> (first | omega | (repeat' split) <;> omega)
theorem zpA_inv {j i n : Nat} (h : zpA j i = n) (hn : n < 133) : 5 ≤ n ∧ zvJ n = j ∧ zvI n = i := by
  unfold zpA at h; unfold zvJ zvI
  refine ⟨?_, ?_, ?_⟩ <;> (repeat' split at h) <;> (first | omega | (repeat' split) <;> omega)
def zmv (σ : MS) (n : Nat) : MS := (fun j => if j = 39 then n else if σ.1 40 = 0 ∧ zpF j < n then σ.2 38 (zpF j) else σ.1 j,
  fun j a => if σ.1 40 = 0 then (if zpA j a < n then σ.2 38 (zpA j a) else σ.2 j a) else if j = 38 ∧ a < n then zvat σ a else σ.2 j a)
theorem zpF_39 : zpF 39 = 133 := rfl
theorem zpF_40 : zpF 40 = 133 := rfl
theorem zpA_38 (a : Nat) : zpA 38 a = 133 := by unfold zpA; rw [if_neg (by omega), if_neg (by omega), if_neg (by omega), if_neg (by omega), if_neg (by omega)]
theorem zmv_39 {σ : MS} {n : Nat} : (zmv σ n).1 39 = n := rfl
theorem zmv_40 {σ : MS} {n : Nat} (hn : n ≤ 133) : (zmv σ n).1 40 = σ.1 40 := by
  show (if 40 = 39 then n else if σ.1 40 = 0 ∧ zpF 40 < n then σ.2 38 (zpF 40) else σ.1 40) = σ.1 40
  rw [if_neg (by decide), if_neg (fun h => by have := h.2; rw [zpF_40] at this; omega)]
theorem zmv_rF {σ : MS} {n j : Nat} (h : n ≤ zpF j) (hj : j ≠ 39) : (zmv σ n).1 j = σ.1 j := by
  show (if j = 39 then n else if σ.1 40 = 0 ∧ zpF j < n then σ.2 38 (zpF j) else σ.1 j) = σ.1 j
  rw [if_neg hj, if_neg (by omega)]
theorem zmv_rA {σ : MS} {n j a : Nat} (h : n ≤ zpA j a) (hj : j ≠ 38) : (zmv σ n).2 j a = σ.2 j a := by
  show (if σ.1 40 = 0 then (if zpA j a < n then σ.2 38 (zpA j a) else σ.2 j a) else if j = 38 ∧ a < n then zvat σ a else σ.2 j a) = σ.2 j a
  split
  · rw [if_neg (by omega)]
  · rw [if_neg (fun h => hj h.1)]
theorem zupd2 {f : Nat → Nat → Nat} {k i v j a : Nat} : (if j = k then (fun b => if b = i then v else f k b) else f j) a = if j = k ∧ a = i then v else f j a := by
  by_cases e : j = k
  · subst e
    refine (congrFun (if_pos rfl) a).trans ?_
    by_cases e2 : a = i
    · exact (if_pos e2).trans (if_pos ⟨rfl, e2⟩).symm
    · exact (if_neg e2).trans (if_neg (fun q => e2 q.2)).symm
  · exact (congrFun (if_neg e) a).trans (if_neg (fun q => e q.1)).symm
/-- one array's number moved -/
theorem zmv_E {σ : MS} {n j i v : Nat} (h : zpA j i = n) (hn : n < 133) (hv : v = σ.2 j i) : sE (zmvT (zmv σ n) v) j i (zmvR (zmv σ n) v) = zmv σ (n + 1) := by
  obtain ⟨h5, hJ, hI⟩ := zpA_inv h hn
  have hj : j ≠ 38 := fun e => by rw [e, zpA_38] at h; omega
  have h40 := zmv_40 (σ := σ) (show n ≤ 133 by omega)
  unfold zmvT zmvR
  by_cases t : σ.1 40 = 0
  · rw [if_pos (h40.trans t), if_pos (h40.trans t)]
    refine Prod.ext (funext fun j' => ?_) (funext fun j' => funext fun a => ?_)
    · show (if j' = 39 then n + 1 else if j' = 39 then n else if σ.1 40 = 0 ∧ zpF j' < n then σ.2 38 (zpF j') else σ.1 j') = (if j' = 39 then n + 1 else if σ.1 40 = 0 ∧ zpF j' < n + 1 then σ.2 38 (zpF j') else σ.1 j')
      by_cases e : j' = 39
      · rw [if_pos e, if_pos e]
      · rw [if_neg e, if_neg e, if_neg e]
        have hne : zpF j' ≠ n := fun e => by have := (zpF_inv e hn).1; omega
        by_cases g : zpF j' < n
        · rw [if_pos ⟨t, g⟩, if_pos ⟨t, by omega⟩]
        · rw [if_neg (fun q => g q.2), if_neg (fun q => g (by omega))]
    · show (if j' = j then (fun b => if b = i then (zmv σ n).2 38 n else (zmv σ n).2 j b) else (zmv σ n).2 j') a = (zmv σ (n + 1)).2 j' a
      have h38 : (zmv σ n).2 38 n = σ.2 38 n := by
        show (if σ.1 40 = 0 then (if zpA 38 n < n then σ.2 38 (zpA 38 n) else σ.2 38 n) else _) = σ.2 38 n
        rw [if_pos t, zpA_38, if_neg (by omega)]
      have hr : (zmv σ (n + 1)).2 j' a = if zpA j' a < n + 1 then σ.2 38 (zpA j' a) else σ.2 j' a := if_pos t
      have hl : (zmv σ n).2 j' a = if zpA j' a < n then σ.2 38 (zpA j' a) else σ.2 j' a := if_pos t
      refine zupd2.trans ?_
      rw [h38, hr, hl]
      by_cases e : j' = j ∧ a = i
      · rw [if_pos e, e.1, e.2, h, if_pos (by omega)]
      · have hne : zpA j' a ≠ n := fun q => e (by have := zpA_inv q hn; exact ⟨this.2.1.symm.trans hJ, this.2.2.symm.trans hI⟩)
        rw [if_neg e]
        by_cases g : zpA j' a < n
        · rw [if_pos g, if_pos (by omega)]
        · rw [if_neg g, if_neg (by omega)]
  · have t' : ¬ (zmv σ n).1 40 = 0 := fun q => t (h40.symm.trans q)
    rw [if_neg t', if_neg t']
    refine Prod.ext (funext fun j' => ?_) (funext fun j' => funext fun a => ?_)
    · show (if j' = 39 then n + 1 else if j' = 39 then n else if σ.1 40 = 0 ∧ zpF j' < n then σ.2 38 (zpF j') else σ.1 j') = (if j' = 39 then n + 1 else if σ.1 40 = 0 ∧ zpF j' < n + 1 then σ.2 38 (zpF j') else σ.1 j')
      by_cases e : j' = 39
      · rw [if_pos e, if_pos e]
      · rw [if_neg e, if_neg e, if_neg e, if_neg (fun q => t q.1), if_neg (fun q => t q.1)]
    · have hl : ∀ m x y, (zmv σ m).2 x y = if x = 38 ∧ y < m then zvat σ y else σ.2 x y := fun m x y => if_neg t
      have hz : zvat σ n = v := by rw [hv]; unfold zvat; rw [if_neg (by omega), hJ, hI]
      show (if j' = j then (fun b => if b = i then v else (sE (zmv σ n) 38 n v).2 j b) else (sE (zmv σ n) 38 n v).2 j') a = (zmv σ (n + 1)).2 j' a
      have hs : ∀ x y, (sE (zmv σ n) 38 n v).2 x y = if x = 38 ∧ y = n then v else (zmv σ n).2 x y := fun x y => zupd2
      refine zupd2.trans ?_
      rw [hs, hl, hl]
      by_cases e : j' = j ∧ a = i
      · rw [if_pos e, if_neg (fun q => hj (e.1.symm.trans q.1)), e.1, e.2]; exact hv
      · rw [if_neg e]
        by_cases e1 : j' = 38 ∧ a = n
        · rw [if_pos e1, if_pos ⟨e1.1, by omega⟩, e1.2, hz]
        · rw [if_neg e1]
          by_cases e3 : j' = 38 ∧ a < n
          · rw [if_pos e3, if_pos ⟨e3.1, by omega⟩]
          · rw [if_neg e3, if_neg (fun q => by omega)]
/-- one field's number moved -/
theorem zmv_F {σ : MS} {n j v : Nat} (h : zpF j = n) (hn : n < 133) (hv : v = σ.1 j) : sF (zmvT (zmv σ n) v) j (zmvR (zmv σ n) v) = zmv σ (n + 1) := by
  obtain ⟨h5, hJ⟩ := zpF_inv h hn
  have hj : j ≠ 39 := fun e => by rw [e, zpF_39] at h; omega
  have h40 := zmv_40 (σ := σ) (show n ≤ 133 by omega)
  have hA : ∀ x y, zpA x y ≠ n := fun x y e => by have := (zpA_inv e hn).1; omega
  unfold zmvT zmvR
  by_cases t : σ.1 40 = 0
  · rw [if_pos (h40.trans t), if_pos (h40.trans t)]
    have h38 : (zmv σ n).2 38 n = σ.2 38 n := by
      show (if σ.1 40 = 0 then (if zpA 38 n < n then σ.2 38 (zpA 38 n) else σ.2 38 n) else _) = σ.2 38 n
      rw [if_pos t, zpA_38, if_neg (by omega)]
    refine Prod.ext (funext fun j' => ?_) (funext fun j' => funext fun a => ?_)
    · show (if j' = j then (zmv σ n).2 38 n else if j' = 39 then n + 1 else if j' = 39 then n else if σ.1 40 = 0 ∧ zpF j' < n then σ.2 38 (zpF j') else σ.1 j') = (if j' = 39 then n + 1 else if σ.1 40 = 0 ∧ zpF j' < n + 1 then σ.2 38 (zpF j') else σ.1 j')
      by_cases e0 : j' = j
      · rw [if_pos e0, if_neg (fun q => hj (e0.symm.trans q)), if_pos ⟨t, by rw [e0, h]; omega⟩, e0, h]; exact h38
      · rw [if_neg e0]
        by_cases e : j' = 39
        · rw [if_pos e, if_pos e]
        · rw [if_neg e, if_neg e, if_neg e]
          have hne : zpF j' ≠ n := fun e => e0 ((zpF_inv e hn).2.symm.trans hJ)
          by_cases g : zpF j' < n
          · rw [if_pos ⟨t, g⟩, if_pos ⟨t, by omega⟩]
          · rw [if_neg (fun q => g q.2), if_neg (fun q => g (by omega))]
    · show (zmv σ n).2 j' a = (zmv σ (n + 1)).2 j' a
      have hl : ∀ m, (zmv σ m).2 j' a = if zpA j' a < m then σ.2 38 (zpA j' a) else σ.2 j' a := fun m => if_pos t
      rw [hl, hl]
      have := hA j' a
      by_cases g : zpA j' a < n
      · rw [if_pos g, if_pos (by omega)]
      · rw [if_neg g, if_neg (by omega)]
  · have t' : ¬ (zmv σ n).1 40 = 0 := fun q => t (h40.symm.trans q)
    rw [if_neg t', if_neg t']
    refine Prod.ext (funext fun j' => ?_) (funext fun j' => funext fun a => ?_)
    · show (if j' = j then v else if j' = 39 then n + 1 else if j' = 39 then n else if σ.1 40 = 0 ∧ zpF j' < n then σ.2 38 (zpF j') else σ.1 j') = (if j' = 39 then n + 1 else if σ.1 40 = 0 ∧ zpF j' < n + 1 then σ.2 38 (zpF j') else σ.1 j')
      by_cases e0 : j' = j
      · rw [if_pos e0, if_neg (fun q => hj (e0.symm.trans q)), if_neg (fun q => t q.1), e0]; exact hv
      · rw [if_neg e0]
        by_cases e : j' = 39
        · rw [if_pos e, if_pos e]
        · rw [if_neg e, if_neg e, if_neg e, if_neg (fun q => t q.1), if_neg (fun q => t q.1)]
    · have hl : ∀ m x y, (zmv σ m).2 x y = if x = 38 ∧ y < m then zvat σ y else σ.2 x y := fun m x y => if_neg t
      have hz : zvat σ n = v := by rw [hv]; unfold zvat; rw [if_pos h5, hJ]
      show (sE (zmv σ n) 38 n v).2 j' a = (zmv σ (n + 1)).2 j' a
      refine zupd2.trans ?_
      rw [hl, hl]
      by_cases e1 : j' = 38 ∧ a = n
      · rw [if_pos e1, if_pos ⟨e1.1, by omega⟩, e1.2, hz]
      · rw [if_neg e1]
        by_cases e3 : j' = 38 ∧ a < n
        · rw [if_pos e3, if_pos ⟨e3.1, by omega⟩]
        · rw [if_neg e3, if_neg (fun q => by omega)]
theorem zmv_0 {σ : MS} : sF σ 39 0 = zmv σ 0 := by
  refine Prod.ext (funext fun j => ?_) (funext fun j => funext fun a => ?_)
  · show (if j = 39 then 0 else σ.1 j) = (if j = 39 then 0 else if σ.1 40 = 0 ∧ zpF j < 0 then σ.2 38 (zpF j) else σ.1 j)
    by_cases e : j = 39
    · rw [if_pos e, if_pos e]
    · rw [if_neg e, if_neg e, if_neg (fun q => Nat.not_lt_zero _ q.2)]
  · show σ.2 j a = (if σ.1 40 = 0 then (if zpA j a < 0 then σ.2 38 (zpA j a) else σ.2 j a) else if j = 38 ∧ a < 0 then zvat σ a else σ.2 j a)
    split
    · rw [if_neg (Nat.not_lt_zero _)]
    · exact (if_neg (fun q => Nat.not_lt_zero _ q.2)).symm
theorem zpA_a {j i : Nat} (hj : j = 1 ∨ j = 2 ∨ j = 3) (h : i < 16) : zpA j i = 4 + j + 3 * i := if_pos ⟨hj, h⟩
theorem zpA_b {j i : Nat} (hj : j = 5 ∨ j = 6 ∨ j = 7) (h : i < 5) : zpA j i = 48 + j + 4 * i := by unfold zpA; rw [if_neg (by omega), if_pos ⟨hj, h⟩]
theorem zpA_c {i : Nat} (h : i < 5) : zpA 14 i = 56 + 4 * i := by unfold zpA; rw [if_neg (by omega), if_neg (by omega), if_pos ⟨rfl, h⟩]
theorem zpA_d {j i : Nat} (hj : j = 9 ∨ j = 10) (h : i < 6) : zpA j i = 64 + j + 2 * i := by unfold zpA; rw [if_neg (by omega), if_neg (by omega), if_neg (by omega), if_pos ⟨hj, h⟩]
theorem zpA_e {i : Nat} (h : i < 48) : zpA 11 i = 85 + i := by unfold zpA; rw [if_neg (by omega), if_neg (by omega), if_neg (by omega), if_neg (by omega), if_pos ⟨rfl, h⟩]
abbrev zmvOk (σ : MS) : Prop := σ.1 40 < 2 ∧ (∀ j, zpF j < 133 → σ.1 j < 2147483648) ∧ (∀ j i, j ≠ 14 → zpA j i < 133 → σ.2 j i < 2147483648)
