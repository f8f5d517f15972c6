/-! THE CLASSES AND THE ARRAYS, AT THE ENTRY -/
theorem l_arrP {ty : FieldType} {args : Array Value} {s : State} (h : (Cond.arrayClass ty).before args s = true) : ∃ cA : ClassId, ArrOfT s cA ty ∧ s.vm.findClass ("[" ++ ty.toString) = some cA := by
  obtain ⟨c, k, comp, h1, h2, h3⟩ := Cond.arrayClass_spec h
  exact ⟨c, fun n z => ⟨(fun k h => by cases h), k, h2, comp, h3⟩, h1⟩
theorem l_arrQ {C : String} {args : Array Value} {s : State} (h : (Cond.arrayOver (.object C)).before args s = true) : ∃ cA : ClassId, ArrOfT s cA (.object C) ∧ va_RA s cA (.object C) := by
  obtain ⟨comp, c, k, h1, -, h3, h4, h5⟩ := Cond.arrayOver_spec h
  exact ⟨c, fun n z => ⟨(fun k h => by cases h), k, h3, comp, h4⟩, k, comp, h3, h4, h1, h5⟩
theorem l_arrA {t : FieldType} {args : Array Value} {s : State} (h : (Cond.arrayOver (.array t)).before args s = true) : ∃ cA : ClassId, ArrOfT s cA (.array t) ∧ s.vm.findClass ("[" ++ (FieldType.array t).toString) = some cA := by
  obtain ⟨comp, c, k, h1, h3, h4, h5⟩ := Cond.arrayOver_specA h
  exact ⟨c, fun n z => ⟨(fun k h => by cases h), k, h3, comp, h4⟩, h5⟩
set_option maxHeartbeats 4000000 in
set_option maxRecDepth 100000 in
theorem l_K {args : Array Value} {s : State} (hts : ∀ w ∈ lw_tbl, w.before args s = true) (ha : lAr s) : ∃ (D : va_G) (Z : Nat → ClassId), va_K D vwCl (cT Z) s := by
  have h1 : ∀ k : Nat, ∃ d : ClassId × (Nat → Nat), ∀ q : vw_C, vwCl[k]? = some q → u_Kn s q.1 q.2.1 q.2.2 d.1 d.2 := by
    intro k
    have h0 : ∀ q : vw_C, vwCl[k]? = some q → ∃ (cC : ClassId) (iS : Nat → Nat), u_Kn s q.1 q.2.1 q.2.2 cC iS := by
      intro q hq
      match k, hq with
      | 0, hq => cases hq; exact u_known (C := RX0) (T := TX0) (N := 1) (n := 1) hts (fun w h => lT_tbl w (lT_c (cbase_0 w h))) (hts (.instantiable RX0 1) (List.mem_of_getElem? (i := 920) (by decide +kernel)))
      | 1, hq => cases hq; exact u_known (C := RX1) (T := TX1) (N := 1) (n := 1) hts (fun w h => lT_tbl w (lT_c (cbase_1 w h))) (hts (.instantiable RX1 1) (List.mem_of_getElem? (i := 904) (by decide +kernel)))
      | 2, hq => cases hq; exact u_known (C := RX2) (T := TX2) (N := 18) (n := 18) hts (fun w h => lT_tbl w (lT_c (cbase_2 w h))) (hts (.instantiable RX2 18) (List.mem_of_getElem? (i := 120) (by decide +kernel)))
      | 3, hq => cases hq; exact u_known (C := RX3) (T := TX3) (N := 1) (n := 1) hts (fun w h => lT_tbl w (lT_c (cbase_3 w h))) (hts (.instantiable RX3 1) (List.mem_of_getElem? (i := 912) (by decide +kernel)))
      | 4, hq => cases hq; exact u_known (C := RX4) (T := TX4) (N := 2) (n := 2) hts (fun w h => lT_tbl w (lT_c (cbase_4 w h))) (hts (.instantiable RX4 2) (List.mem_of_getElem? (i := 284) (by decide +kernel)))
      | 5, hq => cases hq; exact u_known (C := RX5) (T := TX5) (N := 2) (n := 2) hts (fun w h => lT_tbl w (lT_c (cbase_5 w h))) (hts (.instantiable RX5 2) (List.mem_of_getElem? (i := 964) (by decide +kernel)))
      | 6, hq => cases hq; exact u_known (C := RX6) (T := TX6) (N := 1) (n := 1) hts (fun w h => lT_tbl w (lT_c (cbase_6 w h))) (hts (.instantiable RX6 1) (List.mem_of_getElem? (i := 223) (by decide +kernel)))
      | 7, hq => cases hq; exact u_known (C := RX7) (T := TX7) (N := 1) (n := 1) hts (fun w h => lT_tbl w (lT_c (cbase_7 w h))) (hts (.instantiable RX7 1) (List.mem_of_getElem? (i := 299) (by decide +kernel)))
      | 8, hq => cases hq; exact u_known (C := RX8) (T := TX8) (N := 2) (n := 2) hts (fun w h => lT_tbl w (lT_c (cbase_8 w h))) (hts (.instantiable RX8 2) (List.mem_of_getElem? (i := 207) (by decide +kernel)))
      | 9, hq => cases hq; exact u_known (C := RX9) (T := TX9) (N := 1) (n := 1) hts (fun w h => lT_tbl w (lT_c (cbase_9 w h))) (hts (.instantiable RX9 1) (List.mem_of_getElem? (i := 928) (by decide +kernel)))
      | 10, hq => cases hq; exact u_known (C := RX10) (T := TX10) (N := 12) (n := 12) hts (fun w h => lT_tbl w (lT_c (cbase_10 w h))) (hts (.instantiable RX10 12) (List.mem_of_getElem? (i := 114) (by decide +kernel)))
      | 11, hq => cases hq; exact u_known (C := RX11) (T := TX11) (N := 13) (n := 13) hts (fun w h => lT_tbl w (lT_c (cbase_11 w h))) (hts (.instantiable RX11 13) (List.mem_of_getElem? (i := 106) (by decide +kernel)))
      | 12, hq => cases hq; exact u_known (C := RX12) (T := TX12) (N := 48) (n := 48) hts (fun w h => in_wsX120 w h) (hts (.instantiable RX12 48) (List.mem_of_getElem? (i := 1180) (by decide +kernel)))
      | k + 13, hq => simp [vwCl] at hq
    cases e : vwCl[k]? with
    | none => exact ⟨(0, fun _ => 0), fun q hq => by cases hq⟩
    | some q0 =>
      obtain ⟨cC, iS, h⟩ := h0 q0 e
      exact ⟨(cC, iS), fun q hq => by cases hq; exact h⟩
  obtain ⟨f, hf⟩ := Classical.axiomOfChoice h1
  obtain ⟨z0, a0, b0⟩ := l_arrP (hts (.arrayClass .int) (List.mem_of_getElem? (i := 205) (by decide +kernel)))
  obtain ⟨z1, a1, b1⟩ := l_arrP (hts (.arrayClass .long) (List.mem_of_getElem? (i := 221) (by decide +kernel)))
  obtain ⟨z2, a2, b2⟩ := l_arrA (args := #[]) ha.1
  obtain ⟨z3, a3, b3⟩ := l_arrQ (args := #[]) ha.2.1
  obtain ⟨z4, a4, b4⟩ := l_arrQ (args := #[]) ha.2.2
  refine ⟨(fun k => (f k).1, fun k => (f k).2), fun k => if k = 0 then z0 else if k = 1 then z1 else if k = 2 then z2 else if k = 3 then z3 else z4, ⟨fun k q hq => hf k q hq, fun k q hq => ?_⟩⟩
  match k, hq with
  | 0, hq => cases hq; exact ⟨a0, b0⟩
  | 1, hq => cases hq; exact ⟨a1, b1⟩
  | 2, hq => cases hq; exact ⟨a2, b2⟩
  | 3, hq => cases hq; exact ⟨a3, b3⟩
  | 4, hq => cases hq; exact ⟨a4, b4⟩
  | k + 5, hq => simp [cT] at hq
