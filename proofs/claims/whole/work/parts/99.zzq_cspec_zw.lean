/-! AT THE START BOTH SIDES STAND ALIKE -/
theorem zRel_0 : zRel zσ0 zσ0 zσ0 (fun _ => 0) (fun _ => 0) 0 := by
  have h00 : zσ0.1 0 = 0 := rfl
  have h04 : zσ0.1 4 = 0 := rfl
  have h08 : zσ0.1 8 = 0 := rfl
  have hl : lOk zσ0 := by
    refine ⟨⟨by rw [h00]; decide, by rw [h04]; decide, by rw [h08]; decide, fun r hr => by rw [h00] at hr; omega, fun r hr => by rw [h04] at hr; omega, fun r hr => by rw [h08] at hr; omega, fun k _ => by show 0 ≤ 100; decide, fun c _ => by show zsum (fun _ => 0) 6 ≤ 100; decide, by show 0 < 8; decide, by show 2 ≤ 30; decide⟩, by rw [h04]; decide, fun c s _ _ _ => rfl, fun w _ => by show 0 < 65536; decide, fun w _ => by show 0 < 8; decide⟩
  have hW : zWok (zσ0.2 27) := fun a => by show 0 ≤ 99999; decide
  have hM : zTh 0 (fun _ => 0) (fun _ => 0) := ⟨⟨fun w _ => by show 0 ≤ 100000000000; decide, fun w _ _ => rfl⟩, fun w _ => rfl⟩
  refine ⟨⟨hl, ⟨fun d _ => by show 0 < 3; decide, fun d _ q => absurd (show (0 : Nat) = 1 from q) (by decide), fun d _ q => absurd (show (0 : Nat) = 2 from q) (by decide), fun w _ => by show 0 ≤ 100000000000; decide, hW, rfl, fun q => absurd (show (0 : Nat) = 100 from q) (by decide)⟩, fun j i _ _ => by show 0 < 2147483648; decide, fun d i _ q => absurd (show (0 : Nat) = 2 from q) (by decide), fun d i _ q => absurd (show (0 : Nat) = 2 from q) (by decide)⟩, ⟨zLd_r, hl, ⟨hl.1, ?_, fun k _ => by show 0 ≤ 100; decide, fun c a w _ _ hw => by rw [h04] at hw; omega, fun w c hw => by rw [h04] at hw; omega, fun w _ => by show 0 < 65536; decide, fun w _ => by show 0 < 8; decide⟩, fun w c hw => by rw [h04] at hw; omega, hW, rfl, hM⟩, ⟨hl, by decide, rfl, fun q => absurd q (by decide)⟩⟩
  intro c hc
  rfl
