/-! A RULE'S FAILURE, AN ELEMENT -/
abbrev zfok (k f : Nat) : Prop := k = 5 ∨ f = 0
def zxn (k : Nat) : String := if k = 2 then "java/lang/UnsupportedOperationException" else if k = 4 then "java/util/NoSuchElementException" else "java/lang/IllegalStateException"
section CFA
variable {p : Program} {l : Launch} {e : Env} {R : Room} {s : State} {m : MethodId} {args : Array Value} {below : List Frame} {meth : Method} {c : Code} {H : Heap} {locs : List Loc} {cells slots : Nat} {Q : State → Prop}
variable {cc : ByteArray} {pc : Nat} {ls : Array Slot} {rest : List Value} {D : va_G} {A : Nat → Prop} {E : (Nat → Prop) → State → Heap → Prop} {Z : Nat → ClassId} {own : String} {ps : List va_W} {idx : Nat}
theorem cf_any (G : cG E p c cc s m args D Z own A) {k ru f : Nat} (hk : k < 6) (X : wH D vwCl A s.heap H locs (wcat ps)) (i : Nat) (hp : ps[i]? = some (ruP ru k f)) {C' : String} (hlink : (Cond.fieldLink own idx C' "figure" "I").before args s = true) (hsame : ∀ x, s.fieldFound? "AskNext$Rule" "figure" "I" = some x → s.fieldFound? C' "figure" "I" = some x) (hdg : decode cc pc = .ok (.getfield idx, 3)) (kk : W p l e R s m args below meth c H locs cells slots Q (F0 m (pc + 3) ls (.int (nI f) :: rest))) : W p l e R s m args below meth c H locs cells slots Q (F0 m pc ls (.ref ru :: rest)) := by
  rcases (show k = 0 ∨ k = 1 ∨ k = 2 ∨ k = 3 ∨ k = 4 ∨ k = 5 by omega) with rfl | rfl | rfl | rfl | rfl | rfl
  · exact cf_6 G rfl X i hp hlink hsame hdg kk
  · exact cf_1 G rfl X i hp hlink hsame hdg kk
  · exact cf_3 G rfl X i hp hlink hsame hdg kk
  · exact cf_7 G rfl X i hp hlink hsame hdg kk
  · exact cf_0 G rfl X i hp hlink hsame hdg kk
  · exact cf_9 G rfl X i hp hlink hsame hdg kk
end CFA
def zelC (ρ : MS) (d i : Int32) : Int64 := if 0 < zelT ρ d i then lN 0 else (sel ρ d.toInt.toNat i.toInt.toNat).toInt64
def zelX (ρ : MS) (d i : Int32) : String := if zelT ρ d i = 1 then "java/lang/IllegalArgumentException" else "java/lang/IllegalStateException"
theorem zrowK_n {ρ : MS} {d : Int32} (h : ¬ zir d 8) : zrowK ρ d = -1 := if_neg (fun q => h ⟨q.1, by have := q.2; omega⟩)
theorem zrowK_m {ρ : MS} {d : Nat} (hd : d < 8) : ¬ zrowK ρ (nI d) = -1 := by
  unfold zrowK
  rw [if_pos (show 0 ≤ (nI d).toInt ∧ (nI d).toInt < 8 by rw [zi_of (by omega)]; omega)]
  split
  · decide
  · split <;> decide
theorem zel_1 {ρ : MS} {d i : Int32} (h : ¬ zir d 8) : zelT ρ d i = 1 := if_pos (zrowK_n h)
theorem zel_2a {ρ : MS} {d : Nat} {i : Int32} (hs : zSh ρ) (hd : d < 8) (h : ¬ ρ.2 41 d = 2) : zelT ρ (nI d) i = 2 := by
  have q := shL_ro (xd := nI d) (fun q => h (by have := q.2; rw [nI_N (by omega)] at this; exact this)) hs
  unfold zelT
  rw [if_neg (zrowK_m hd), if_pos (Or.inl q.2)]
theorem zel_2b {ρ : MS} {d : Nat} {i : Int32} (hd : d < 8) (h : ρ.2 41 d = 2) (hi : ¬ zir i (ρ.2 45 d)) : zelT ρ (nI d) i = 2 := by
  unfold zelT
  rw [if_neg (zrowK_m hd), if_pos (Or.inr (by rw [nI_N (by omega)]; exact hi))]
theorem zel_0 {ρ : MS} {d i : Nat} (hd : d < 8) (h : ρ.2 41 d = 2) (hi : i < ρ.2 45 d) (hn : ρ.2 45 d ≤ 100) : zelT ρ (nI d) (nI i) = 0 := by
  unfold zelT
  rw [if_neg (zrowK_m hd), zrowK_2 hd h, if_neg]
  rintro (q | q)
  · exact z0_lt q
  · rw [nI_N (by omega)] at q
    exact q (zir_N hi (by omega))
theorem zel_v {ρ : MS} {d i : Nat} (hd : d < 8) (h : ρ.2 41 d = 2) (hi : i < ρ.2 45 d) (hn : ρ.2 45 d ≤ 100) : (sel ρ d i).toInt64 = zelC ρ (nI d) (nI i) := by
  unfold zelC
  rw [zel_0 hd h hi hn, if_neg (Nat.lt_irrefl 0), nI_N (by omega), nI_N (by omega)]
theorem zelX_1 {ρ : MS} {d i : Int32} (h : zelT ρ d i = 1) : "java/lang/IllegalArgumentException" = zelX ρ d i := (if_pos h).symm
theorem zelX_2 {ρ : MS} {d i : Int32} (h : zelT ρ d i = 2) : "java/lang/IllegalStateException" = zelX ρ d i := (if_neg (by omega)).symm
