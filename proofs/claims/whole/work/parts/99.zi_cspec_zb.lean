/-! OBJECTS JUST MADE -/
theorem zcl_0 {n : Nat} : zcl n (fun _ => 0) = fun _ => 0 := funext fun i => by unfold zcl; split <;> rfl
theorem mj_0 : mj (fun _ => 0) = fun _ => 0 := rfl
theorem mi_0 : mi (fun _ => 0) = fun _ => 0 := rfl
theorem thP_0 {Z : Nat → ClassId} {t : Nat × Nat × Nat} : thP Z t (fun _ => 0) (fun _ => 0) = [(t.1, .inr (8, [.ref t.2.1, .ref t.2.2])), (t.2.1, .inl (Z 1, 5, .inr (.inl (fun _ => 0)))), (t.2.2, .inl (Z 1, 5, .inr (.inl (fun _ => 0))))] := by
  unfold thP
  rw [zcl_0, mj_0]
theorem rdP_0 {Z : Nat → ClassId} {o : Nat × Nat} {b : Nat} : rdP Z o b (fun _ => 0) = [(o.1, .inr (4, [.ref b, .ref o.2])), (o.2, .inl (Z 0, 3, .inl (fun _ => 0)))] := by
  unfold rdP
  rw [zcl_0, mi_0]
