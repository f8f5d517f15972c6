theorem zpF_lt {j : Nat} (h : zpF j < 133) : j < 14 := by
  unfold zpF at h
  (repeat' split at h) <;> omega
theorem zmvOk_F {σ : MS} {k v : Nat} (hk : 14 ≤ k) (hv : k = 40 → v < 2) (h : zmvOk σ) : zmvOk (sF σ k v) := by
  refine ⟨?_, fun j hj => ?_, h.2.2⟩
  · show (if 40 = k then v else σ.1 40) < 2
    split
    · rename_i e; exact hv e.symm
    · exact h.1
  · have := zpF_lt hj
    show (if j = k then v else σ.1 j) < 2147483648
    rw [if_neg (by omega)]; exact h.2.1 j hj
def zimgT (σ : MS) : MS := zmv (sF (sF σ 37 1) 40 1) 133
def zresS (σ : MS) : Int32 := if σ.1 37 = 0 then -3 else nI (σ.2 38 1)
def zresT (σ : MS) : MS := if σ.1 37 = 0 then σ else zmv (sF σ 40 0) 133
theorem zmv_W1 {σ : MS} : (zmv (sF (sF σ 37 1) 40 1) 133).1 4 = σ.1 4 := rfl
theorem zmv_W0 {σ : MS} : (zmv (sF σ 40 0) 133).1 4 = σ.2 38 1 := rfl
