/-! THE IMAGE: one number moved: into the image, or out of it -/
def zmvR (σ : MS) (v : Nat) : Nat := if σ.1 40 = 0 then σ.2 38 (σ.1 39) else v
def zmvT (σ : MS) (v : Nat) : MS := if σ.1 40 = 0 then sF σ 39 (σ.1 39 + 1) else sF (sE σ 38 (σ.1 39) v) 39 (σ.1 39 + 1)
