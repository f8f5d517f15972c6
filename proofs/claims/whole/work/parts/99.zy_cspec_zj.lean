/-! A STATEMENT COMES: by its letter -/
section CO9
variable {σ : MS} {i : Nat}
theorem zcoT_n (h : ¬ zcoA σ i) : zcoT σ i = σ := if_neg h
theorem zcoA_114 (e : σ.2 22 i = 114) : zcoA σ i ↔ (σ.2 23 i ≤ 7 ∧ σ.2 24 i ≤ 7 ∧ σ.2 23 i ≠ σ.2 24 i ∧ (1 ≤ σ.2 25 i ∧ σ.2 25 i ≤ 60) ∧ σ.1 0 ≠ 16) := ⟨fun h => h.1 e, fun h => ⟨fun _ => h, fun q => by omega, fun q => by omega, fun q => by omega, fun q => by omega, fun q => by omega⟩⟩
theorem zcoA_119 (e : σ.2 22 i = 119) : zcoA σ i ↔ ((1 ≤ σ.2 23 i ∧ σ.2 23 i ≤ 100) ∧ σ.2 24 i ≤ 7 ∧ σ.2 25 i ≤ 65535 ∧ σ.1 4 ≠ 5 ∧ zsum (σ.2 5) (σ.1 4) + σ.2 23 i ≤ 100) := ⟨fun h => h.2.1 e, fun h => ⟨fun q => by omega, fun _ => h, fun q => by omega, fun q => by omega, fun q => by omega, fun q => by omega⟩⟩
theorem zcoA_115 (e : σ.2 22 i = 115) : zcoA σ i ↔ (σ.2 23 i ≤ 4 ∧ σ.2 25 i ≤ 99 ∧ σ.1 8 ≠ 6) := ⟨fun h => h.2.2.1 e, fun h => ⟨fun q => by omega, fun q => by omega, fun _ => h, fun q => by omega, fun q => by omega, fun q => by omega⟩⟩
theorem zcoA_109 (e : σ.2 22 i = 109) : zcoA σ i ↔ (σ.2 23 i ≤ 7 ∧ σ.2 24 i < σ.1 8 ∧ σ.2 25 i ≤ 100 ∧ zsum (fun s => σ.2 11 (6 * σ.2 23 i + s)) 6 - σ.2 11 (6 * σ.2 23 i + σ.2 24 i) + σ.2 25 i ≤ 100) := ⟨fun h => h.2.2.2.1 e, fun h => ⟨fun q => by omega, fun q => by omega, fun q => by omega, fun _ => h, fun q => by omega, fun q => by omega⟩⟩
theorem zcoA_98 (e : σ.2 22 i = 98) : zcoA σ i ↔ σ.2 23 i ≤ 7 := ⟨fun h => h.2.2.2.2.1 e, fun h => ⟨fun q => by omega, fun q => by omega, fun q => by omega, fun q => by omega, fun _ => h, fun q => by omega⟩⟩
theorem zcoA_97 (e : σ.2 22 i = 97) : zcoA σ i ↔ σ.2 23 i ≤ 30 := ⟨fun h => h.2.2.2.2.2 e, fun h => ⟨fun q => by omega, fun q => by omega, fun q => by omega, fun q => by omega, fun q => by omega, fun _ => h⟩⟩
theorem zcoT_114 (e : σ.2 22 i = 114) (h : zcoA σ i) : zcoT σ i = sF (sE (sE (sE σ 1 (σ.1 0) (σ.2 23 i)) 2 (σ.1 0) (σ.2 24 i)) 3 (σ.1 0) (σ.2 25 i)) 0 (σ.1 0 + 1) := by
  unfold zcoT zcoN
  rw [if_pos h, if_pos e]
theorem zcoT_119 (e : σ.2 22 i = 119) (h : zcoA σ i) : zcoT σ i = sF (sE (sE (sE σ 5 (σ.1 4) (σ.2 23 i)) 6 (σ.1 4) (σ.2 24 i)) 7 (σ.1 4) (σ.2 25 i)) 4 (σ.1 4 + 1) := by
  unfold zcoT zcoN
  rw [if_pos h, if_neg (by omega), if_pos e]
theorem zcoT_115 (e : σ.2 22 i = 115) (h : zcoA σ i) : zcoT σ i = sF (sE (sE σ 9 (σ.1 8) (σ.2 23 i)) 10 (σ.1 8) (σ.2 25 i)) 8 (σ.1 8 + 1) := by
  unfold zcoT zcoN
  rw [if_pos h, if_neg (by omega), if_neg (by omega), if_pos e]
theorem zcoT_109 (e : σ.2 22 i = 109) (h : zcoA σ i) : zcoT σ i = sE σ 11 (6 * σ.2 23 i + σ.2 24 i) (σ.2 25 i) := by
  unfold zcoT zcoN
  rw [if_pos h, if_neg (by omega), if_neg (by omega), if_neg (by omega), if_pos e]
theorem zcoT_98 (e : σ.2 22 i = 98) (h : zcoA σ i) : zcoT σ i = sF σ 12 (σ.2 23 i) := by
  unfold zcoT zcoN
  rw [if_pos h, if_neg (by omega), if_neg (by omega), if_neg (by omega), if_neg (by omega), if_pos e]
theorem zcoT_97 (e : σ.2 22 i = 97) (h : zcoA σ i) : zcoT σ i = sF σ 13 (σ.2 23 i) := by
  unfold zcoT zcoN
  rw [if_pos h, if_neg (by omega), if_neg (by omega), if_neg (by omega), if_neg (by omega), if_neg (by omega)]
end CO9
/-- what was read stands in the bounds of its letter -/
def zrdO (σ : MS) (i : Nat) : Prop := i < 50 ∧ σ.2 23 i < 100000 ∧ (((σ.2 22 i = 114 ∨ σ.2 22 i = 119 ∨ σ.2 22 i = 109) ∧ σ.2 24 i < 10 ∧ σ.2 25 i < 100000) ∨ (σ.2 22 i = 115 ∧ σ.2 25 i < 100000) ∨ (σ.2 22 i = 98 ∨ σ.2 22 i = 97))
theorem zrdO_l {σ : MS} {i : Nat} (h : zrdO σ i) : σ.2 22 i = 114 ∨ σ.2 22 i = 119 ∨ σ.2 22 i = 115 ∨ σ.2 22 i = 109 ∨ σ.2 22 i = 98 ∨ σ.2 22 i = 97 := by
  rcases h.2.2 with ⟨h, _⟩ | ⟨h, _⟩ | h <;> omega
theorem zrdO_b {σ : MS} {i : Nat} (h : zrdO σ i) (e : σ.2 22 i = 114 ∨ σ.2 22 i = 119 ∨ σ.2 22 i = 109) : σ.2 24 i < 10 ∧ σ.2 25 i < 100000 := by
  rcases h.2.2 with ⟨_, h⟩ | ⟨h, _⟩ | h
  · exact h
  · omega
  · omega
theorem zrdO_c {σ : MS} {i : Nat} (h : zrdO σ i) (e : σ.2 22 i = 115) : σ.2 25 i < 100000 := by
  rcases h.2.2 with ⟨h, _⟩ | ⟨_, h⟩ | h
  · omega
  · exact h
  · omega
