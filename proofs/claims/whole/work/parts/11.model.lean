/-! THE MODEL: its state: numbers by the slots of its fields, rows of numbers by the slots of its arrays -/
abbrev MS : Type := (Nat → Nat) × (Nat → Nat → Nat)
def mi (g : Nat → Nat) : Nat → Int32 := fun i => nI (g i)
def mj (g : Nat → Nat) : Nat → Int64 := fun i => lN (g i)
def mObj (q f : Nat → Nat) : List Value := [.int (nI (f 0)), .ref (q 1), .ref (q 2), .ref (q 3), .int (nI (f 4)), .ref (q 5), .ref (q 6), .ref (q 7), .int (nI (f 8)), .ref (q 9), .ref (q 10), .ref (q 11), .int (nI (f 12)), .int (nI (f 13)), .ref (q 14), .int (nI (f 15)), .int (nI (f 16)), .int (nI (f 17)), .int (nI (f 18)), .int (nI (f 19)), .int (nI (f 20)), .ref (q 21), .ref (q 22), .ref (q 23), .ref (q 24), .ref (q 25), .ref (q 26), .ref (q 27), .int (nI (f 28)), .ref (q 29), .int (nI (f 30)), .int (nI (f 31)), .int (nI (f 32)), .int (nI (f 33)), .int (nI (f 34)), .ref (q 35), .ref (q 36), .int (nI (f 37)), .ref (q 38), .int (nI (f 39)), .int (nI (f 40)), .ref (q 41), .ref (q 42), .ref (q 43), .ref (q 44), .ref (q 45), .ref (q 46), .ref (q 47)]
def mw (o : Nat) (q : Nat → Nat) (ci : Nat) (cI cJ : ClassId) (σ : MS) : va_W := [(o, .inr (ci, mObj q σ.1)), (q 1, .inl (cI, 16, .inl (mi (σ.2 1)))), (q 2, .inl (cI, 16, .inl (mi (σ.2 2)))), (q 3, .inl (cI, 16, .inl (mi (σ.2 3)))), (q 5, .inl (cI, 5, .inl (mi (σ.2 5)))), (q 6, .inl (cI, 5, .inl (mi (σ.2 6)))), (q 7, .inl (cI, 5, .inl (mi (σ.2 7)))), (q 9, .inl (cI, 6, .inl (mi (σ.2 9)))), (q 10, .inl (cI, 6, .inl (mi (σ.2 10)))), (q 11, .inl (cI, 48, .inl (mi (σ.2 11)))), (q 14, .inl (cJ, 5, .inr (.inl (mj (σ.2 14))))), (q 21, .inl (cI, 50, .inl (mi (σ.2 21)))), (q 22, .inl (cI, 50, .inl (mi (σ.2 22)))), (q 23, .inl (cI, 50, .inl (mi (σ.2 23)))), (q 24, .inl (cI, 50, .inl (mi (σ.2 24)))), (q 25, .inl (cI, 50, .inl (mi (σ.2 25)))), (q 26, .inl (cI, 48, .inl (mi (σ.2 26)))), (q 27, .inl (cI, 40, .inl (mi (σ.2 27)))), (q 29, .inl (cJ, 5, .inr (.inl (mj (σ.2 29))))), (q 35, .inl (cI, 5, .inl (mi (σ.2 35)))), (q 36, .inl (cJ, 5, .inr (.inl (mj (σ.2 36))))), (q 38, .inl (cJ, 150, .inr (.inl (mj (σ.2 38))))), (q 41, .inl (cI, 8, .inl (mi (σ.2 41)))), (q 42, .inl (cI, 8, .inl (mi (σ.2 42)))), (q 43, .inl (cI, 8, .inl (mi (σ.2 43)))), (q 44, .inl (cI, 8, .inl (mi (σ.2 44)))), (q 45, .inl (cI, 8, .inl (mi (σ.2 45)))), (q 46, .inl (cJ, 800, .inr (.inl (mj (σ.2 46))))), (q 47, .inl (cJ, 100, .inr (.inl (mj (σ.2 47)))))]
def sF (σ : MS) (k v : Nat) : MS := (fun j => if j = k then v else σ.1 j, σ.2)
def sE (σ : MS) (k i v : Nat) : MS := (σ.1, fun j => if j = k then (fun a => if a = i then v else σ.2 k a) else σ.2 j)
/-- one array replaced -/
def sA (σ : MS) (k : Nat) (g : Nat → Nat) : MS := (σ.1, fun j => if j = k then g else σ.2 j)
def mSc : Nat → Bool := fun j => match j with
  | 0 => true
  | 4 => true
  | 8 => true
  | 12 => true
  | 13 => true
  | 15 => true
  | 16 => true
  | 17 => true
  | 18 => true
  | 19 => true
  | 20 => true
  | 28 => true
  | 30 => true
  | 31 => true
  | 32 => true
  | 33 => true
  | 34 => true
  | 37 => true
  | 39 => true
  | 40 => true
  | _ => false
def mIA : Nat → Bool := fun j => match j with
  | 1 => true
  | 2 => true
  | 3 => true
  | 5 => true
  | 6 => true
  | 7 => true
  | 9 => true
  | 10 => true
  | 11 => true
  | 21 => true
  | 22 => true
  | 23 => true
  | 24 => true
  | 25 => true
  | 26 => true
  | 27 => true
  | 35 => true
  | 41 => true
  | 42 => true
  | 43 => true
  | 44 => true
  | 45 => true
  | _ => false
def mLA : Nat → Bool := fun j => match j with
  | 14 => true
  | 29 => true
  | 36 => true
  | 38 => true
  | 46 => true
  | 47 => true
  | _ => false
def mAr : Nat → Bool := fun j => match j with
  | 1 => true
  | 2 => true
  | 3 => true
  | 5 => true
  | 6 => true
  | 7 => true
  | 9 => true
  | 10 => true
  | 11 => true
  | 14 => true
  | 21 => true
  | 22 => true
  | 23 => true
  | 24 => true
  | 25 => true
  | 26 => true
  | 27 => true
  | 29 => true
  | 35 => true
  | 36 => true
  | 38 => true
  | 41 => true
  | 42 => true
  | 43 => true
  | 44 => true
  | 45 => true
  | 46 => true
  | 47 => true
  | _ => false
def mLen : Nat → Nat := fun j => match j with
  | 1 => 16
  | 2 => 16
  | 3 => 16
  | 5 => 5
  | 6 => 5
  | 7 => 5
  | 9 => 6
  | 10 => 6
  | 11 => 48
  | 14 => 5
  | 21 => 50
  | 22 => 50
  | 23 => 50
  | 24 => 50
  | 25 => 50
  | 26 => 48
  | 27 => 40
  | 29 => 5
  | 35 => 5
  | 36 => 5
  | 38 => 150
  | 41 => 8
  | 42 => 8
  | 43 => 8
  | 44 => 8
  | 45 => 8
  | 46 => 800
  | 47 => 100
  | _ => 0
def mPos : Nat → Nat := fun j => match j with
  | 1 => 1
  | 2 => 2
  | 3 => 3
  | 5 => 4
  | 6 => 5
  | 7 => 6
  | 9 => 7
  | 10 => 8
  | 11 => 9
  | 14 => 10
  | 21 => 11
  | 22 => 12
  | 23 => 13
  | 24 => 14
  | 25 => 15
  | 26 => 16
  | 27 => 17
  | 29 => 18
  | 35 => 19
  | 36 => 20
  | 38 => 21
  | 41 => 22
  | 42 => 23
  | 43 => 24
  | 44 => 25
  | 45 => 26
  | 46 => 27
  | 47 => 28
  | _ => 0
theorem mObj_sc {q f : Nat → Nat} : ∀ j : Nat, mSc j = true → (mObj q f)[j]? = some (.int (nI (f j)))
  | 0, h => rfl
  | 1, h => by cases h
  | 2, h => by cases h
  | 3, h => by cases h
  | 4, h => rfl
  | 5, h => by cases h
  | 6, h => by cases h
  | 7, h => by cases h
  | 8, h => rfl
  | 9, h => by cases h
  | 10, h => by cases h
  | 11, h => by cases h
  | 12, h => rfl
  | 13, h => rfl
  | 14, h => by cases h
  | 15, h => rfl
  | 16, h => rfl
  | 17, h => rfl
  | 18, h => rfl
  | 19, h => rfl
  | 20, h => rfl
  | 21, h => by cases h
  | 22, h => by cases h
  | 23, h => by cases h
  | 24, h => by cases h
  | 25, h => by cases h
  | 26, h => by cases h
  | 27, h => by cases h
  | 28, h => rfl
  | 29, h => by cases h
  | 30, h => rfl
  | 31, h => rfl
  | 32, h => rfl
  | 33, h => rfl
  | 34, h => rfl
  | 35, h => by cases h
  | 36, h => by cases h
  | 37, h => rfl
  | 38, h => by cases h
  | 39, h => rfl
  | 40, h => rfl
  | 41, h => by cases h
  | 42, h => by cases h
  | 43, h => by cases h
  | 44, h => by cases h
  | 45, h => by cases h
  | 46, h => by cases h
  | 47, h => by cases h
  | _ + 48, h => by cases h
theorem mObj_ar {q f : Nat → Nat} : ∀ j : Nat, mAr j = true → (mObj q f)[j]? = some (.ref (q j))
  | 0, h => by cases h
  | 1, h => rfl
  | 2, h => rfl
  | 3, h => rfl
  | 4, h => by cases h
  | 5, h => rfl
  | 6, h => rfl
  | 7, h => rfl
  | 8, h => by cases h
  | 9, h => rfl
  | 10, h => rfl
  | 11, h => rfl
  | 12, h => by cases h
  | 13, h => by cases h
  | 14, h => rfl
  | 15, h => by cases h
  | 16, h => by cases h
  | 17, h => by cases h
  | 18, h => by cases h
  | 19, h => by cases h
  | 20, h => by cases h
  | 21, h => rfl
  | 22, h => rfl
  | 23, h => rfl
  | 24, h => rfl
  | 25, h => rfl
  | 26, h => rfl
  | 27, h => rfl
  | 28, h => by cases h
  | 29, h => rfl
  | 30, h => by cases h
  | 31, h => by cases h
  | 32, h => by cases h
  | 33, h => by cases h
  | 34, h => by cases h
  | 35, h => rfl
  | 36, h => rfl
  | 37, h => by cases h
  | 38, h => rfl
  | 39, h => by cases h
  | 40, h => by cases h
  | 41, h => rfl
  | 42, h => rfl
  | 43, h => rfl
  | 44, h => rfl
  | 45, h => rfl
  | 46, h => rfl
  | 47, h => rfl
  | _ + 48, h => by cases h
theorem mw_ia {o : Nat} {q : Nat → Nat} {ci : Nat} {cI cJ : ClassId} {σ : MS} : ∀ j : Nat, mIA j = true → (mw o q ci cI cJ σ)[mPos j]? = some (q j, .inl (cI, mLen j, .inl (mi (σ.2 j))))
  | 0, h => by cases h
  | 1, h => rfl
  | 2, h => rfl
  | 3, h => rfl
  | 4, h => by cases h
  | 5, h => rfl
  | 6, h => rfl
  | 7, h => rfl
  | 8, h => by cases h
  | 9, h => rfl
  | 10, h => rfl
  | 11, h => rfl
  | 12, h => by cases h
  | 13, h => by cases h
  | 14, h => by cases h
  | 15, h => by cases h
  | 16, h => by cases h
  | 17, h => by cases h
  | 18, h => by cases h
  | 19, h => by cases h
  | 20, h => by cases h
  | 21, h => rfl
  | 22, h => rfl
  | 23, h => rfl
  | 24, h => rfl
  | 25, h => rfl
  | 26, h => rfl
  | 27, h => rfl
  | 28, h => by cases h
  | 29, h => by cases h
  | 30, h => by cases h
  | 31, h => by cases h
  | 32, h => by cases h
  | 33, h => by cases h
  | 34, h => by cases h
  | 35, h => rfl
  | 36, h => by cases h
  | 37, h => by cases h
  | 38, h => by cases h
  | 39, h => by cases h
  | 40, h => by cases h
  | 41, h => rfl
  | 42, h => rfl
  | 43, h => rfl
  | 44, h => rfl
  | 45, h => rfl
  | 46, h => by cases h
  | 47, h => by cases h
  | _ + 48, h => by cases h
theorem mw_la {o : Nat} {q : Nat → Nat} {ci : Nat} {cI cJ : ClassId} {σ : MS} : ∀ j : Nat, mLA j = true → (mw o q ci cI cJ σ)[mPos j]? = some (q j, .inl (cJ, mLen j, .inr (.inl (mj (σ.2 j)))))
  | 0, h => by cases h
  | 1, h => by cases h
  | 2, h => by cases h
  | 3, h => by cases h
  | 4, h => by cases h
  | 5, h => by cases h
  | 6, h => by cases h
  | 7, h => by cases h
  | 8, h => by cases h
  | 9, h => by cases h
  | 10, h => by cases h
  | 11, h => by cases h
  | 12, h => by cases h
  | 13, h => by cases h
  | 14, h => rfl
  | 15, h => by cases h
  | 16, h => by cases h
  | 17, h => by cases h
  | 18, h => by cases h
  | 19, h => by cases h
  | 20, h => by cases h
  | 21, h => by cases h
  | 22, h => by cases h
  | 23, h => by cases h
  | 24, h => by cases h
  | 25, h => by cases h
  | 26, h => by cases h
  | 27, h => by cases h
  | 28, h => by cases h
  | 29, h => rfl
  | 30, h => by cases h
  | 31, h => by cases h
  | 32, h => by cases h
  | 33, h => by cases h
  | 34, h => by cases h
  | 35, h => by cases h
  | 36, h => rfl
  | 37, h => by cases h
  | 38, h => rfl
  | 39, h => by cases h
  | 40, h => by cases h
  | 41, h => by cases h
  | 42, h => by cases h
  | 43, h => by cases h
  | 44, h => by cases h
  | 45, h => by cases h
  | 46, h => rfl
  | 47, h => rfl
  | _ + 48, h => by cases h
theorem mw_setF {o : Nat} {q : Nat → Nat} {ci : Nat} {cI cJ : ClassId} {σ : MS} {v : Nat} : ∀ j : Nat, mSc j = true → (mw o q ci cI cJ σ).set 0 (o, .inr (ci, (mObj q σ.1).set j (.int (nI v)))) = mw o q ci cI cJ (sF σ j v)
  | 0, h => rfl
  | 1, h => by cases h
  | 2, h => by cases h
  | 3, h => by cases h
  | 4, h => rfl
  | 5, h => by cases h
  | 6, h => by cases h
  | 7, h => by cases h
  | 8, h => rfl
  | 9, h => by cases h
  | 10, h => by cases h
  | 11, h => by cases h
  | 12, h => rfl
  | 13, h => rfl
  | 14, h => by cases h
  | 15, h => rfl
  | 16, h => rfl
  | 17, h => rfl
  | 18, h => rfl
  | 19, h => rfl
  | 20, h => rfl
  | 21, h => by cases h
  | 22, h => by cases h
  | 23, h => by cases h
  | 24, h => by cases h
  | 25, h => by cases h
  | 26, h => by cases h
  | 27, h => by cases h
  | 28, h => rfl
  | 29, h => by cases h
  | 30, h => rfl
  | 31, h => rfl
  | 32, h => rfl
  | 33, h => rfl
  | 34, h => rfl
  | 35, h => by cases h
  | 36, h => by cases h
  | 37, h => rfl
  | 38, h => by cases h
  | 39, h => rfl
  | 40, h => rfl
  | 41, h => by cases h
  | 42, h => by cases h
  | 43, h => by cases h
  | 44, h => by cases h
  | 45, h => by cases h
  | 46, h => by cases h
  | 47, h => by cases h
  | _ + 48, h => by cases h
theorem mi_up {g : Nat → Nat} {i v : Nat} : upd (mi g) i (nI v) = mi (fun a => if a = i then v else g a) := by
  funext a
  show (if a = i then nI v else nI (g a)) = nI (if a = i then v else g a)
  split <;> rfl
theorem mj_up {g : Nat → Nat} {i v : Nat} : vp_updL (mj g) i (lN v) = mj (fun a => if a = i then v else g a) := by
  funext a
  show (if a = i then lN v else lN (g a)) = lN (if a = i then v else g a)
  split <;> rfl
theorem mw_setI {o : Nat} {q : Nat → Nat} {ci : Nat} {cI cJ : ClassId} {σ : MS} {i v : Nat} : ∀ j : Nat, mIA j = true → (mw o q ci cI cJ σ).set (mPos j) (q j, .inl (cI, mLen j, .inl (upd (mi (σ.2 j)) i (nI v)))) = mw o q ci cI cJ (sE σ j i v)
  | 0, h => by cases h
  | 1, h => by rw [mi_up]; rfl
  | 2, h => by rw [mi_up]; rfl
  | 3, h => by rw [mi_up]; rfl
  | 4, h => by cases h
  | 5, h => by rw [mi_up]; rfl
  | 6, h => by rw [mi_up]; rfl
  | 7, h => by rw [mi_up]; rfl
  | 8, h => by cases h
  | 9, h => by rw [mi_up]; rfl
  | 10, h => by rw [mi_up]; rfl
  | 11, h => by rw [mi_up]; rfl
  | 12, h => by cases h
  | 13, h => by cases h
  | 14, h => by cases h
  | 15, h => by cases h
  | 16, h => by cases h
  | 17, h => by cases h
  | 18, h => by cases h
  | 19, h => by cases h
  | 20, h => by cases h
  | 21, h => by rw [mi_up]; rfl
  | 22, h => by rw [mi_up]; rfl
  | 23, h => by rw [mi_up]; rfl
  | 24, h => by rw [mi_up]; rfl
  | 25, h => by rw [mi_up]; rfl
  | 26, h => by rw [mi_up]; rfl
  | 27, h => by rw [mi_up]; rfl
  | 28, h => by cases h
  | 29, h => by cases h
  | 30, h => by cases h
  | 31, h => by cases h
  | 32, h => by cases h
  | 33, h => by cases h
  | 34, h => by cases h
  | 35, h => by rw [mi_up]; rfl
  | 36, h => by cases h
  | 37, h => by cases h
  | 38, h => by cases h
  | 39, h => by cases h
  | 40, h => by cases h
  | 41, h => by rw [mi_up]; rfl
  | 42, h => by rw [mi_up]; rfl
  | 43, h => by rw [mi_up]; rfl
  | 44, h => by rw [mi_up]; rfl
  | 45, h => by rw [mi_up]; rfl
  | 46, h => by cases h
  | 47, h => by cases h
  | _ + 48, h => by cases h
theorem mw_setJ {o : Nat} {q : Nat → Nat} {ci : Nat} {cI cJ : ClassId} {σ : MS} {i v : Nat} : ∀ j : Nat, mLA j = true → (mw o q ci cI cJ σ).set (mPos j) (q j, .inl (cJ, mLen j, .inr (.inl (vp_updL (mj (σ.2 j)) i (lN v))))) = mw o q ci cI cJ (sE σ j i v)
  | 0, h => by cases h
  | 1, h => by cases h
  | 2, h => by cases h
  | 3, h => by cases h
  | 4, h => by cases h
  | 5, h => by cases h
  | 6, h => by cases h
  | 7, h => by cases h
  | 8, h => by cases h
  | 9, h => by cases h
  | 10, h => by cases h
  | 11, h => by cases h
  | 12, h => by cases h
  | 13, h => by cases h
  | 14, h => by rw [mj_up]; rfl
  | 15, h => by cases h
  | 16, h => by cases h
  | 17, h => by cases h
  | 18, h => by cases h
  | 19, h => by cases h
  | 20, h => by cases h
  | 21, h => by cases h
  | 22, h => by cases h
  | 23, h => by cases h
  | 24, h => by cases h
  | 25, h => by cases h
  | 26, h => by cases h
  | 27, h => by cases h
  | 28, h => by cases h
  | 29, h => by rw [mj_up]; rfl
  | 30, h => by cases h
  | 31, h => by cases h
  | 32, h => by cases h
  | 33, h => by cases h
  | 34, h => by cases h
  | 35, h => by cases h
  | 36, h => by rw [mj_up]; rfl
  | 37, h => by cases h
  | 38, h => by rw [mj_up]; rfl
  | 39, h => by cases h
  | 40, h => by cases h
  | 41, h => by cases h
  | 42, h => by cases h
  | 43, h => by cases h
  | 44, h => by cases h
  | 45, h => by cases h
  | 46, h => by rw [mj_up]; rfl
  | 47, h => by rw [mj_up]; rfl
  | _ + 48, h => by cases h
theorem mSc_ok : ∀ j : Nat, mSc j = true → j < 48 ∧ (TX12 j).2.2.2 = false ∧ (parseFieldDescriptor (TX12 j).2.2.1 = some .int ∨ parseFieldDescriptor (TX12 j).2.2.1 = some .boolean)
  | 0, h => ⟨by decide, rfl, Or.inl (by decide +kernel)⟩
  | 1, h => by cases h
  | 2, h => by cases h
  | 3, h => by cases h
  | 4, h => ⟨by decide, rfl, Or.inl (by decide +kernel)⟩
  | 5, h => by cases h
  | 6, h => by cases h
  | 7, h => by cases h
  | 8, h => ⟨by decide, rfl, Or.inl (by decide +kernel)⟩
  | 9, h => by cases h
  | 10, h => by cases h
  | 11, h => by cases h
  | 12, h => ⟨by decide, rfl, Or.inl (by decide +kernel)⟩
  | 13, h => ⟨by decide, rfl, Or.inl (by decide +kernel)⟩
  | 14, h => by cases h
  | 15, h => ⟨by decide, rfl, Or.inl (by decide +kernel)⟩
  | 16, h => ⟨by decide, rfl, Or.inl (by decide +kernel)⟩
  | 17, h => ⟨by decide, rfl, Or.inl (by decide +kernel)⟩
  | 18, h => ⟨by decide, rfl, Or.inl (by decide +kernel)⟩
  | 19, h => ⟨by decide, rfl, Or.inr (by decide +kernel)⟩
  | 20, h => ⟨by decide, rfl, Or.inl (by decide +kernel)⟩
  | 21, h => by cases h
  | 22, h => by cases h
  | 23, h => by cases h
  | 24, h => by cases h
  | 25, h => by cases h
  | 26, h => by cases h
  | 27, h => by cases h
  | 28, h => ⟨by decide, rfl, Or.inl (by decide +kernel)⟩
  | 29, h => by cases h
  | 30, h => ⟨by decide, rfl, Or.inl (by decide +kernel)⟩
  | 31, h => ⟨by decide, rfl, Or.inl (by decide +kernel)⟩
  | 32, h => ⟨by decide, rfl, Or.inl (by decide +kernel)⟩
  | 33, h => ⟨by decide, rfl, Or.inr (by decide +kernel)⟩
  | 34, h => ⟨by decide, rfl, Or.inl (by decide +kernel)⟩
  | 35, h => by cases h
  | 36, h => by cases h
  | 37, h => ⟨by decide, rfl, Or.inr (by decide +kernel)⟩
  | 38, h => by cases h
  | 39, h => ⟨by decide, rfl, Or.inl (by decide +kernel)⟩
  | 40, h => ⟨by decide, rfl, Or.inr (by decide +kernel)⟩
  | 41, h => by cases h
  | 42, h => by cases h
  | 43, h => by cases h
  | 44, h => by cases h
  | 45, h => by cases h
  | 46, h => by cases h
  | 47, h => by cases h
  | _ + 48, h => by cases h
theorem mAr_ok : ∀ j : Nat, mAr j = true → j < 48
  | 0, h => by cases h
  | 1, h => by decide
  | 2, h => by decide
  | 3, h => by decide
  | 4, h => by cases h
  | 5, h => by decide
  | 6, h => by decide
  | 7, h => by decide
  | 8, h => by cases h
  | 9, h => by decide
  | 10, h => by decide
  | 11, h => by decide
  | 12, h => by cases h
  | 13, h => by cases h
  | 14, h => by decide
  | 15, h => by cases h
  | 16, h => by cases h
  | 17, h => by cases h
  | 18, h => by cases h
  | 19, h => by cases h
  | 20, h => by cases h
  | 21, h => by decide
  | 22, h => by decide
  | 23, h => by decide
  | 24, h => by decide
  | 25, h => by decide
  | 26, h => by decide
  | 27, h => by decide
  | 28, h => by cases h
  | 29, h => by decide
  | 30, h => by cases h
  | 31, h => by cases h
  | 32, h => by cases h
  | 33, h => by cases h
  | 34, h => by cases h
  | 35, h => by decide
  | 36, h => by decide
  | 37, h => by cases h
  | 38, h => by decide
  | 39, h => by cases h
  | 40, h => by cases h
  | 41, h => by decide
  | 42, h => by decide
  | 43, h => by decide
  | 44, h => by decide
  | 45, h => by decide
  | 46, h => by decide
  | 47, h => by decide
  | _ + 48, h => by cases h
section GM
variable {p : Program} {l : Launch} {e : Env} {R : Room} {s : State} {m : MethodId} {args : Array Value} {below : List Frame} {meth : Method} {c : Code} {H : Heap} {locs : List Loc} {cells slots : Nat} {Q : State → Prop}
variable {cc : ByteArray} {pc : Nat} {ls : Array Slot} {rest : List Value} {D : va_G} {cl : List vw_C} {A : Nat → Prop} {tys : List (ClassId × FieldType)} {H0 : Heap}
variable {o ci : Nat} {q : Nat → Nat} {cI cJ : ClassId} {σ : MS} {own : String} {idx : Nat}
/-- what stays, all along a method of the model: the machine, the code, the words, the tables of classes and of the int and long arrays -/
def mG (p : Program) (c : Code) (cc : ByteArray) (s : State) (m : MethodId) (args : Array Value) (D : va_G) (cl : List vw_C) (tys : List (ClassId × FieldType)) (ci : Nat) (cI cJ : ClassId) : Prop := p.tables.exec = Jvm.exec ∧ c.code = cc ∧ s.vm.findClass RX12 = some m.cls ∧ (∀ w ∈ mW, w.before args s = true) ∧ va_K D cl tys s ∧ cl[ci]? = some (RX12, TX12, 48) ∧ tys[0]? = some (cI, .int) ∧ tys[1]? = some (cJ, .long)
theorem m_geti (G : mG p c cc s m args D cl tys ci cI cJ) (X : wH D cl A H0 H locs (mw o q ci cI cJ σ)) (j : Nat) (hj : mSc j = true) (hlink : (Cond.fieldLink RX12 idx "AskNextModel" (TX12 j).2.1 (TX12 j).2.2.1).before args s = true) (hsame : (TX12 j).1 = "AskNextModel") (hdg : decode cc pc = .ok (.getfield idx, 3)) (kk : W p l e R s m args below meth c H locs cells slots Q (F0 m (pc + 3) ls (.int (nI (σ.1 j)) :: rest))) : W p l e R s m args below meth c H locs cells slots Q (F0 m pc ls (.ref o :: rest)) := by
  obtain ⟨hx, hb, hown, hw, hK, hc, -, -⟩ := G
  exact va_get hx hb hw mk_base hown hK X.1 0 rfl hc j (mSc_ok j hj).1 hlink (fun x h => by rw [hsame] at h; exact h) (mObj_sc j hj) hdg kk
theorem m_geta (G : mG p c cc s m args D cl tys ci cI cJ) (X : wH D cl A H0 H locs (mw o q ci cI cJ σ)) (j : Nat) (hj : mAr j = true) (hlink : (Cond.fieldLink RX12 idx "AskNextModel" (TX12 j).2.1 (TX12 j).2.2.1).before args s = true) (hsame : (TX12 j).1 = "AskNextModel") (hdg : decode cc pc = .ok (.getfield idx, 3)) (kk : W p l e R s m args below meth c H locs cells slots Q (F0 m (pc + 3) ls (.ref (q j) :: rest))) : W p l e R s m args below meth c H locs cells slots Q (F0 m pc ls (.ref o :: rest)) := by
  obtain ⟨hx, hb, hown, hw, hK, hc, -, -⟩ := G
  exact va_get hx hb hw mk_base hown hK X.1 0 rfl hc j (mAr_ok j hj) hlink (fun x h => by rw [hsame] at h; exact h) (mObj_ar j hj) hdg kk
theorem m_puti (G : mG p c cc s m args D cl tys ci cI cJ) (X : wH D cl A H0 H locs (mw o q ci cI cJ σ)) (j : Nat) (hj : mSc j = true) (hlink : (Cond.fieldLink RX12 idx "AskNextModel" (TX12 j).2.1 (TX12 j).2.2.1).before args s = true) (hsame : (TX12 j).1 = "AskNextModel") {v : Nat} {ty : FieldType} (hty : parseFieldDescriptor (TX12 j).2.2.1 = some ty) (hn : narrow ty (.int (nI v)) = .int (nI v)) (hfit : fits ty (.int (nI v)) = true) (hdg : decode cc pc = .ok (.putfield idx, 3)) (kk : ∀ (H1 : Heap) (locs1 : List Loc), wH D cl A H0 H1 locs1 (mw o q ci cI cJ (sF σ j v)) → W p l e R s m args below meth c H1 locs1 cells slots Q (F0 m (pc + 3) ls rest)) : W p l e R s m args below meth c H locs cells slots Q (F0 m pc ls (.int (nI v) :: .ref o :: rest)) := by
  obtain ⟨hx, hb, hown, hw, hK, hc, -, -⟩ := G
  refine va_put hx hb hw mk_base tyX12 tyX12_ok nmX12 hown hK X.1 X.2.1 X.2.2 0 rfl hc j (mSc_ok j hj).1 hlink (fun x h => by rw [hsame] at h; exact h) (mSc_ok j hj).2.1 hty hn hfit (mSc_ok j hj).1 hdg (fun H1 locs1 hP hD hS => ?_)
  rw [mw_setF j hj] at hP hD
  exact kk H1 locs1 ⟨hP, hD, hS⟩
theorem m_iald (G : mG p c cc s m args D cl tys ci cI cJ) (X : wH D cl A H0 H locs (mw o q ci cI cJ σ)) (j : Nat) (hj : mIA j = true) {i : Nat} (hi : i < mLen j) (hi2 : i < 2147483648) (hdg : decode cc pc = .ok (.iaload, 1)) (kk : W p l e R s m args below meth c H locs cells slots Q (F0 m (pc + 1) ls (.int (nI (σ.2 j i)) :: rest))) : W p l e R s m args below meth c H locs cells slots Q (F0 m pc ls (.int (nI i) :: .ref (q j) :: rest)) := by
  obtain ⟨hx, hb, hown, hw, hK, hc, t0, t1⟩ := G
  have hN : mLen j < 2147483648 := by
    unfold mLen
    split <;> omega
  refine va_iald hx hb hK X.1 (mPos j) 0 (mw_ia j hj) t0 (vp_in_nI hi hN) hdg ?_
  rw [nI_clamp hi2]
  exact kk
theorem m_lald (G : mG p c cc s m args D cl tys ci cI cJ) (X : wH D cl A H0 H locs (mw o q ci cI cJ σ)) (j : Nat) (hj : mLA j = true) {i : Nat} (hi : i < mLen j) (hi2 : i < 2147483648) (hdg : decode cc pc = .ok (.laload, 1)) (kk : W p l e R s m args below meth c H locs cells slots Q (F0 m (pc + 1) ls (.long (lN (σ.2 j i)) :: rest))) : W p l e R s m args below meth c H locs cells slots Q (F0 m pc ls (.int (nI i) :: .ref (q j) :: rest)) := by
  obtain ⟨hx, hb, hown, hw, hK, hc, t0, t1⟩ := G
  have hN : mLen j < 2147483648 := by
    unfold mLen
    split <;> omega
  refine va_lald hx hb hK X.1 (mPos j) 1 (mw_la j hj) t1 (vp_in_nI hi hN) hdg ?_
  rw [nI_clamp hi2]
  exact kk
theorem m_iast (G : mG p c cc s m args D cl tys ci cI cJ) (X : wH D cl A H0 H locs (mw o q ci cI cJ σ)) (j : Nat) (hj : mIA j = true) {i v : Nat} (hi : i < mLen j) (hi2 : i < 2147483648) (hdg : decode cc pc = .ok (.iastore, 1)) (kk : ∀ (H1 : Heap) (locs1 : List Loc), wH D cl A H0 H1 locs1 (mw o q ci cI cJ (sE σ j i v)) → W p l e R s m args below meth c H1 locs1 cells slots Q (F0 m (pc + 1) ls rest)) : W p l e R s m args below meth c H locs cells slots Q (F0 m pc ls (.int (nI v) :: .int (nI i) :: .ref (q j) :: rest)) := by
  obtain ⟨hx, hb, hown, hw, hK, hc, t0, t1⟩ := G
  have hN : mLen j < 2147483648 := by
    unfold mLen
    split <;> omega
  refine va_iast hx hb hK X.1 X.2.1 X.2.2 (mPos j) 0 (mw_ia j hj) t0 (vp_in_nI hi hN) hdg (fun H1 locs1 hP hD hS => ?_)
  rw [nI_clamp hi2, mw_setI j hj] at hP hD
  exact kk H1 locs1 ⟨hP, hD, hS⟩
theorem m_last (G : mG p c cc s m args D cl tys ci cI cJ) (X : wH D cl A H0 H locs (mw o q ci cI cJ σ)) (j : Nat) (hj : mLA j = true) {i v : Nat} (hi : i < mLen j) (hi2 : i < 2147483648) (hdg : decode cc pc = .ok (.lastore, 1)) (kk : ∀ (H1 : Heap) (locs1 : List Loc), wH D cl A H0 H1 locs1 (mw o q ci cI cJ (sE σ j i v)) → W p l e R s m args below meth c H1 locs1 cells slots Q (F0 m (pc + 1) ls rest)) : W p l e R s m args below meth c H locs cells slots Q (F0 m pc ls (.long (lN v) :: .int (nI i) :: .ref (q j) :: rest)) := by
  obtain ⟨hx, hb, hown, hw, hK, hc, t0, t1⟩ := G
  have hN : mLen j < 2147483648 := by
    unfold mLen
    split <;> omega
  refine va_last hx hb hK X.1 X.2.1 X.2.2 (mPos j) 1 (mw_la j hj) t1 (vp_in_nI hi hN) hdg (fun H1 locs1 hP hD hS => ?_)
  rw [nI_clamp hi2, mw_setJ j hj] at hP hD
  exact kk H1 locs1 ⟨hP, hD, hS⟩
/-- the model itself receives a call -/
theorem m_recv (G : mG p c cc s m args D cl tys ci cI cJ) (X : wH D cl A H0 H locs (mw o q ci cI cJ σ)) : ∃ cell : Cell, H[o]? = some cell ∧ cell.vm.isStatics = false ∧ s.vm.findClass RX12 = some cell.cls := va_recv G.2.2.2.2.1 X.1 G.2.2.2.2.2.1 (q0 := 0) rfl
theorem ap_nil {w : va_W} (h : wH D cl A H0 H locs w) : wH D cl A H0 H locs (w ++ []) := by rw [List.append_nil]; exact h
theorem ap_nil' {w : va_W} (h : wH D cl A H0 H locs (w ++ [])) : wH D cl A H0 H locs w := by rw [List.append_nil] at h; exact h
theorem gn_ldc (hexec : p.tables.exec = Jvm.exec) (hb : c.code = cc) {own : String} {index : Nat} {v : Int32} {k : Nat} (hown : s.vm.findClass own = some m.cls) (hconst : (Jvm.Cond.constant own index v).before args s = true) (hv : v = nI k) (hdg : decode cc pc = .ok (.ldc index, 2)) (kk : W p l e R s m args below meth c H locs cells slots Q (F0 m (pc + 2) ls (.int (nI k) :: rest))) : W p l e R s m args below meth c H locs cells slots Q (F0 m pc ls rest) := lv_ldc hexec hb hown hconst hdg (by rw [hv]; exact kk)
theorem gn_ldcw (hexec : p.tables.exec = Jvm.exec) (hb : c.code = cc) {own : String} {index : Nat} {v : Int32} {k : Nat} (hown : s.vm.findClass own = some m.cls) (hconst : (Jvm.Cond.constant own index v).before args s = true) (hv : v = nI k) (hdg : decode cc pc = .ok (.ldc_w index, 3)) (kk : W p l e R s m args below meth c H locs cells slots Q (F0 m (pc + 3) ls (.int (nI k) :: rest))) : W p l e R s m args below meth c H locs cells slots Q (F0 m pc ls rest) := lv_ldcw hexec hb hown hconst hdg (by rw [hv]; exact kk)
theorem gn_ldc2 (hexec : p.tables.exec = Jvm.exec) (hb : c.code = cc) {own : String} {index : Nat} {v : Int64} {k : Nat} (hown : s.vm.findClass own = some m.cls) (hconst : (Jvm.Cond.constantLong own index v).before args s = true) (hv : v = lN k) (hdg : decode cc pc = .ok (.ldc2_w index, 3)) (kk : W p l e R s m args below meth c H locs cells slots Q (F0 m (pc + 3) ls (.long (lN k) :: rest))) : W p l e R s m args below meth c H locs cells slots Q (F0 m pc ls rest) := lv_ldc2 hexec hb hown hconst hdg (by rw [hv]; exact kk)
/-- an int, as a number -/
def iN (x : Int32) : Nat := x.toBitVec.toNat
theorem nI_iN (x : Int32) : nI (iN x) = x := by
  apply Int32.toBitVec_inj.mp
  show BitVec.ofNat 32 x.toBitVec.toNat = _
  simp
theorem iN_lt (x : Int32) : iN x < 4294967296 := x.toBitVec.isLt
def lNN (x : Int64) : Nat := x.toBitVec.toNat
theorem lN_lNN (x : Int64) : lN (lNN x) = x := by
  apply Int64.toBitVec_inj.mp
  show BitVec.ofNat 64 x.toBitVec.toNat = _
  simp
theorem gi_asN {x : Int32} (k : W p l e R s m args below meth c H locs cells slots Q (F0 m pc ls (.int (nI (iN x)) :: rest))) : W p l e R s m args below meth c H locs cells slots Q (F0 m pc ls (.int x :: rest)) := by
  rw [nI_iN] at k
  exact k
theorem gl_asN {x : Int64} (k : W p l e R s m args below meth c H locs cells slots Q (F0 m pc ls (.long (lN (lNN x)) :: rest))) : W p l e R s m args below meth c H locs cells slots Q (F0 m pc ls (.long x :: rest)) := by
  rw [lN_lNN] at k
  exact k
/-- the number on top under another name -/
theorem gi_eq {a b : Nat} (h : b = a) (k : W p l e R s m args below meth c H locs cells slots Q (F0 m pc ls (.int (nI a) :: rest))) : W p l e R s m args below meth c H locs cells slots Q (F0 m pc ls (.int (nI b) :: rest)) := by
  rw [h]
  exact k
theorem gl_eq {a b : Nat} (h : b = a) (k : W p l e R s m args below meth c H locs cells slots Q (F0 m pc ls (.long (lN a) :: rest))) : W p l e R s m args below meth c H locs cells slots Q (F0 m pc ls (.long (lN b) :: rest)) := by
  rw [h]
  exact k
theorem gi_to {x : Int32} {a : Nat} (h : x = nI a) (k : W p l e R s m args below meth c H locs cells slots Q (F0 m pc ls (.int (nI a) :: rest))) : W p l e R s m args below meth c H locs cells slots Q (F0 m pc ls (.int x :: rest)) := by
  rw [h]
  exact k
theorem gi_raw {x y : Int32} (h : x = y) (k : W p l e R s m args below meth c H locs cells slots Q (F0 m pc ls (.int y :: rest))) : W p l e R s m args below meth c H locs cells slots Q (F0 m pc ls (.int x :: rest)) := by
  rw [h]
  exact k
theorem gl_raw {x y : Int64} (h : x = y) (k : W p l e R s m args below meth c H locs cells slots Q (F0 m pc ls (.long y :: rest))) : W p l e R s m args below meth c H locs cells slots Q (F0 m pc ls (.long x :: rest)) := by
  rw [h]
  exact k
theorem gl_to {x : Int64} {a : Nat} (h : x = lN a) (k : W p l e R s m args below meth c H locs cells slots Q (F0 m pc ls (.long (lN a) :: rest))) : W p l e R s m args below meth c H locs cells slots Q (F0 m pc ls (.long x :: rest)) := by
  rw [h]
  exact k
theorem zb_nar {v : Nat} (h : v < 2) : narrow .boolean (.int (nI v)) = .int (nI v) := by
  rcases (show v = 0 ∨ v = 1 by omega) with rfl | rfl <;> rfl
theorem zb_fit {v : Nat} (h : v < 2) : fits .boolean (.int (nI v)) = true := by
  rcases (show v = 0 ∨ v = 1 by omega) with rfl | rfl <;> rfl
theorem zb_ite {c : Prop} [Decidable c] : narrow .boolean (.int (if c then 1 else 0)) = .int (if c then 1 else 0) := by
  split <;> rfl
theorem gb_asN {P : Prop} [Decidable P] (k : W p l e R s m args below meth c H locs cells slots Q (F0 m pc ls (.int (nI (if P then 1 else 0)) :: rest))) : W p l e R s m args below meth c H locs cells slots Q (F0 m pc ls (.int (if P then 1 else 0) :: rest)) := by
  have e2 : (if P then (1 : Int32) else 0) = nI (if P then 1 else 0) := by split <;> rfl
  rw [e2]
  exact k
theorem gb_if_eq {P : Prop} [Decidable P] (hx : p.tables.exec = Jvm.exec) (hb : c.code = cc) {off : Int} {tgt : Nat} (hdg : decode cc pc = .ok (.ifCond .eq off, 3)) (ht : (pc : Int) + off = (tgt : Int)) (kt : ¬ P → W p l e R s m args below meth c H locs cells slots Q (F0 m tgt ls rest)) (kf : P → W p l e R s m args below meth c H locs cells slots Q (F0 m (pc + 3) ls rest)) : W p l e R s m args below meth c H locs cells slots Q (F0 m pc ls (.int (if P then 1 else 0) :: rest)) := by
  refine lv_if_eq hx hb hdg ht (fun h => kt ?_) (fun h => kf ?_)
  · intro hp
    rw [if_pos hp] at h
    exact absurd h (by decide)
  · by_cases hp : P
    · exact hp
    · rw [if_neg hp] at h
      exact absurd rfl h
theorem gb_if_ne {P : Prop} [Decidable P] (hx : p.tables.exec = Jvm.exec) (hb : c.code = cc) {off : Int} {tgt : Nat} (hdg : decode cc pc = .ok (.ifCond .ne off, 3)) (ht : (pc : Int) + off = (tgt : Int)) (kt : P → W p l e R s m args below meth c H locs cells slots Q (F0 m tgt ls rest)) (kf : ¬ P → W p l e R s m args below meth c H locs cells slots Q (F0 m (pc + 3) ls rest)) : W p l e R s m args below meth c H locs cells slots Q (F0 m pc ls (.int (if P then 1 else 0) :: rest)) := by
  refine lv_if_ne hx hb hdg ht (fun h => kt ?_) (fun h => kf ?_)
  · by_cases hp : P
    · exact hp
    · rw [if_neg hp] at h
      exact absurd rfl h
  · intro hp
    rw [if_pos hp] at h
    exact absurd h (by decide)
theorem gn_tableIn {dflt lo hi : Int} {offs : Array Int} {len : Nat} {a : Nat} {off : Int} {tgt : Nat} (hx : p.tables.exec = Jvm.exec) (hb : c.code = cc) (hdg : decode cc pc = .ok (.tableswitch dflt lo hi offs, len)) (ha : a < 2147483648) (h1 : ¬ (a : Int) < lo) (h2 : ¬ hi < (a : Int)) (ho : offs[((a : Int) - lo).toNat]? = some off) (ht : (pc : Int) + off = (tgt : Int)) (k : W p l e R s m args below meth c H locs cells slots Q (F0 m tgt ls rest)) : W p l e R s m args below meth c H locs cells slots Q (F0 m pc ls (.int (nI a) :: rest)) := lv_tableIn hx hb hdg (by rw [nI_toInt ha]; exact h1) (by rw [nI_toInt ha]; exact h2) (by rw [nI_toInt ha]; exact ho) ht k
theorem gn_tableOut {dflt lo hi : Int} {offs : Array Int} {len : Nat} {a : Nat} {tgt : Nat} (hx : p.tables.exec = Jvm.exec) (hb : c.code = cc) (hdg : decode cc pc = .ok (.tableswitch dflt lo hi offs, len)) (ha : a < 2147483648) (h : (a : Int) < lo ∨ hi < (a : Int)) (ht : (pc : Int) + dflt = (tgt : Int)) (k : W p l e R s m args below meth c H locs cells slots Q (F0 m tgt ls rest)) : W p l e R s m args below meth c H locs cells slots Q (F0 m pc ls (.int (nI a) :: rest)) := lv_tableOut hx hb hdg (by rw [nI_toInt ha]; exact h) ht k
theorem wh_eq {σ σ' : MS} (h : σ = σ') (X : wH D cl A H0 H locs (mw o q ci cI cJ σ)) : wH D cl A H0 H locs (mw o q ci cI cJ σ') := h ▸ X
theorem mw_eq {σ σ' : MS} (h : σ = σ') : mw o q ci cI cJ σ = mw o q ci cI cJ σ' := h ▸ rfl
theorem fin_of {r x : Int32} {w w' : va_W} (hw : w = w') (hr : x = r) (X : wH D cl A H0 H locs w) (hdg : decode cc pc = .ok (.ireturn, 1)) (fin : ∀ (pc : Nat) (H : Heap) (locs : List Loc) (ls : Array Slot), wH D cl A H0 H locs w' → decode cc pc = .ok (.ireturn, 1) → W p l e R s m args below meth c H locs cells slots Q (F0 m pc ls [.int r])) : W p l e R s m args below meth c H locs cells slots Q (F0 m pc ls [.int x]) := by
  subst hw
  subst hr
  exact fin _ _ _ _ X hdg
theorem finL_of {r x : Int64} {w w' : va_W} (hw : w = w') (hr : x = r) (X : wH D cl A H0 H locs w) (hdg : decode cc pc = .ok (.lreturn, 1)) (fin : ∀ (pc : Nat) (H : Heap) (locs : List Loc) (ls : Array Slot), wH D cl A H0 H locs w' → decode cc pc = .ok (.lreturn, 1) → W p l e R s m args below meth c H locs cells slots Q (F0 m pc ls [.long r])) : W p l e R s m args below meth c H locs cells slots Q (F0 m pc ls [.long x]) := by
  subst hw
  subst hr
  exact fin _ _ _ _ X hdg
theorem finIP_of {post : MS → Prop} {u : MS} {r x : Int32} (hr : x = r) (hu : post u) (X : wH D cl A H0 H locs (mw o q ci cI cJ u)) (hdg : decode cc pc = .ok (.ireturn, 1)) (fin : ∀ (pc : Nat) (H : Heap) (locs : List Loc) (ls : Array Slot) (u : MS), post u → wH D cl A H0 H locs (mw o q ci cI cJ u) → decode cc pc = .ok (.ireturn, 1) → W p l e R s m args below meth c H locs cells slots Q (F0 m pc ls [.int r])) : W p l e R s m args below meth c H locs cells slots Q (F0 m pc ls [.int x]) := by
  subst hr
  exact fin _ _ _ _ u hu X hdg
theorem finLP_of {post : MS → Prop} {u : MS} {r x : Int64} (hr : x = r) (hu : post u) (X : wH D cl A H0 H locs (mw o q ci cI cJ u)) (hdg : decode cc pc = .ok (.lreturn, 1)) (fin : ∀ (pc : Nat) (H : Heap) (locs : List Loc) (ls : Array Slot) (u : MS), post u → wH D cl A H0 H locs (mw o q ci cI cJ u) → decode cc pc = .ok (.lreturn, 1) → W p l e R s m args below meth c H locs cells slots Q (F0 m pc ls [.long r])) : W p l e R s m args below meth c H locs cells slots Q (F0 m pc ls [.long x]) := by
  subst hr
  exact fin _ _ _ _ u hu X hdg
theorem finV_of {w w' : va_W} (hw : w = w') (X : wH D cl A H0 H locs w) (hdg : decode cc pc = .ok (.return_, 1)) (fin : ∀ (pc : Nat) (H : Heap) (locs : List Loc) (ls : Array Slot), wH D cl A H0 H locs w' → decode cc pc = .ok (.return_, 1) → W p l e R s m args below meth c H locs cells slots Q (F0 m pc ls [])) : W p l e R s m args below meth c H locs cells slots Q (F0 m pc ls []) := by
  subst hw
  exact fin _ _ _ _ X hdg
end GM
