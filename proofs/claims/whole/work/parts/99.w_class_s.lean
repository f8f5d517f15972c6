set_option maxHeartbeats 4000000 in
set_option maxRecDepth 100000 in
theorem k6_heaviness {E : (Nat → Prop) → State → Heap → Prop} (hE : cEok E) {l : Launch} {D : va_G} {Z : Nat → ClassId} {ru k f : Nat}  : dtI E l D Z yX6_heaviness (Cond.code yX6_heaviness cX6_heaviness 1 (some .int) :: cW) { frames := 0, cells := 0, slots := 0, locals := 0 } [.ref ru] (wcat [ruP ru k f]) (S := Unit) (fun _ => wcat [ruP ru k f]) (fun _ => nI 3) (fun _ => True) := by
  refine dtI_of hE (cc := cX6_heaviness) (maxL := 1) (by decide +kernel) (fun w h => List.mem_cons_of_mem _ h) (Nat.le_of_ble_eq_true rfl) ?_
  intro p e s m args below meth c A Q ls hx hb hml hown hts G X hl fin
  replace hl : lv_has ls 1 [(0, .ref ru)] := hl
  refine lv_iconst (v := nI 3) hx hb dX6_heaviness_0 (by decide) ?_
  exact cfin_I (()) (trivial) (rfl) (rfl) X dX6_heaviness_1 fin
set_option maxHeartbeats 4000000 in
set_option maxRecDepth 100000 in
theorem k1_heaviness {E : (Nat → Prop) → State → Heap → Prop} (hE : cEok E) {l : Launch} {D : va_G} {Z : Nat → ClassId} {ru k f : Nat} (hk : k = 1 ∨ k = 2) : dtI E l D Z yX1_heaviness (Cond.code yX1_heaviness cX1_heaviness 1 (some .int) :: cW) { frames := 1, cells := 0, slots := 0, locals := 20 } [.ref ru] (wcat [ruP ru k f]) (S := Unit) (fun _ => wcat [ruP ru k f]) (fun _ => nI 4) (fun _ => True) := by
  refine dtI_of hE (cc := cX1_heaviness) (maxL := 1) (by decide +kernel) (fun w h => List.mem_cons_of_mem _ h) (Nat.le_of_ble_eq_true rfl) ?_
  intro p e s m args below meth c A Q ls hx hb hml hown hts G X hl fin
  replace hl : lv_has ls 1 [(0, .ref ru)] := hl
  refine lv_aload_n hx hb dX1_heaviness_0 rfl (lv_at hl 0 rfl) ?_
  obtain ⟨rc_1, hrc_1⟩ := ru_cl k
  refine dtI_go (w := wcat [ruP ru k f]) (wf := wcat []) (W1 := fun _ => wcat [ruP ru k f]) G X (wsel [0] rfl rfl) (run_SU (As := []) (rest := []) (n := 0) hrc_1 G hml hts hl.1 (p_recv G X 0 0 rfl rfl hrc_1) (k6_heaviness hE (ru := ru) (k := k) (f := f) _) (va_cwSU 0 hts (cg_SU ck_13 ck_45 ck_16 ck_46 ck_18 ck_8) rfl rfl rfl (by decide +kernel) ⟨Nat.le_of_ble_eq_true rfl, Nat.le_of_ble_eq_true rfl⟩) rfl (Nat.le_of_ble_eq_true rfl) dX1_heaviness_1 ⟨Nat.le_refl _, Nat.le_refl _⟩) (fun _ => wback [0] rfl rfl) (fun H locs _ _ X => ?_)
  refine lv_iconst (v := nI 1) hx hb dX1_heaviness_4 (by decide) ?_
  refine gn_iadd hx hb dX1_heaviness_5  ?_
  exact cfin_I (()) (trivial) (rfl) (rfl) X dX1_heaviness_6 fin
set_option maxHeartbeats 4000000 in
set_option maxRecDepth 100000 in
theorem k7_heaviness {E : (Nat → Prop) → State → Heap → Prop} (hE : cEok E) {l : Launch} {D : va_G} {Z : Nat → ClassId} {ru k f : Nat} (hk : k = 3 ∨ k = 4) : dtI E l D Z yX7_heaviness (Cond.code yX7_heaviness cX7_heaviness 1 (some .int) :: cW) { frames := 1, cells := 0, slots := 0, locals := 20 } [.ref ru] (wcat [ruP ru k f]) (S := Unit) (fun _ => wcat [ruP ru k f]) (fun _ => nI 6) (fun _ => True) := by
  refine dtI_of hE (cc := cX7_heaviness) (maxL := 1) (by decide +kernel) (fun w h => List.mem_cons_of_mem _ h) (Nat.le_of_ble_eq_true rfl) ?_
  intro p e s m args below meth c A Q ls hx hb hml hown hts G X hl fin
  replace hl : lv_has ls 1 [(0, .ref ru)] := hl
  refine lv_iconst (v := nI 2) hx hb dX7_heaviness_0 (by decide) ?_
  refine lv_aload_n hx hb dX7_heaviness_1 rfl (lv_at hl 0 rfl) ?_
  obtain ⟨rc_2, hrc_2⟩ := ru_cl k
  refine dtI_go (w := wcat [ruP ru k f]) (wf := wcat []) (W1 := fun _ => wcat [ruP ru k f]) G X (wsel [0] rfl rfl) (run_SU (As := []) (rest := [.int (nI 2)]) (n := 0) hrc_2 G hml hts hl.1 (p_recv G X 0 0 rfl rfl hrc_2) (k6_heaviness hE (ru := ru) (k := k) (f := f) _) (va_cwSU 0 hts (cg_SU ck_13 ck_15 ck_16 ck_17 ck_18 ck_8) rfl rfl rfl (by decide +kernel) ⟨Nat.le_of_ble_eq_true rfl, Nat.le_of_ble_eq_true rfl⟩) rfl (Nat.le_of_ble_eq_true rfl) dX7_heaviness_2 ⟨Nat.le_refl _, Nat.le_refl _⟩) (fun _ => wback [0] rfl rfl) (fun H locs _ _ X => ?_)
  refine gn_imul hx hb dX7_heaviness_5  ?_
  exact cfin_I (()) (trivial) (rfl) (rfl) X dX7_heaviness_6 fin
set_option maxHeartbeats 4000000 in
set_option maxRecDepth 100000 in
theorem k3_heaviness {E : (Nat → Prop) → State → Heap → Prop} (hE : cEok E) {l : Launch} {D : va_G} {Z : Nat → ClassId} {ru k f : Nat} (hk : k = 2) : dtI E l D Z yX3_heaviness (Cond.code yX3_heaviness cX3_heaviness 1 (some .int) :: cW) { frames := 2, cells := 0, slots := 0, locals := 40 } [.ref ru] (wcat [ruP ru k f]) (S := Unit) (fun _ => wcat [ruP ru k f]) (fun _ => nI (4 + f)) (fun _ => True) := by
  refine dtI_of hE (cc := cX3_heaviness) (maxL := 1) (by decide +kernel) (fun w h => List.mem_cons_of_mem _ h) (Nat.le_of_ble_eq_true rfl) ?_
  intro p e s m args below meth c A Q ls hx hb hml hown hts G X hl fin
  replace hl : lv_has ls 1 [(0, .ref ru)] := hl
  refine lv_aload_n hx hb dX3_heaviness_0 rfl (lv_at hl 0 rfl) ?_
  obtain ⟨rc_1, hrc_1⟩ := ru_cl k
  refine dtI_go (w := wcat [ruP ru k f]) (wf := wcat []) (W1 := fun _ => wcat [ruP ru k f]) G X (wsel [0] rfl rfl) (run_SU (As := []) (rest := []) (n := 0) hrc_1 G hml hts hl.1 (p_recv G X 0 0 rfl rfl hrc_1) (k1_heaviness hE (ru := ru) (k := k) (f := f) (Or.inr hk) _) (va_cwSU 0 hts (cg_SU ck_44 ck_149 ck_150 ck_151 ck_152 ck_145) rfl rfl rfl (by decide +kernel) ⟨Nat.le_of_ble_eq_true rfl, Nat.le_of_ble_eq_true rfl⟩) rfl (Nat.le_of_ble_eq_true rfl) dX3_heaviness_1 ⟨Nat.le_refl _, Nat.le_refl _⟩) (fun _ => wback [0] rfl rfl) (fun H locs _ _ X => ?_)
  refine lv_aload_n hx hb dX3_heaviness_4 rfl (lv_at hl 0 rfl) ?_
  refine cf_3 G (by rw [hk]; rfl) X 0 rfl (G.2.2.2.1 _ ck_147) (fun x h => u_same (G.2.2.2.1 _ ck_148) x h) dX3_heaviness_5 ?_
  refine gn_iadd hx hb dX3_heaviness_8  ?_
  exact cfin_I (()) (trivial) (rfl) (rfl) X dX3_heaviness_9 fin
set_option maxHeartbeats 4000000 in
set_option maxRecDepth 100000 in
theorem k0_heaviness {E : (Nat → Prop) → State → Heap → Prop} (hE : cEok E) {l : Launch} {D : va_G} {Z : Nat → ClassId} {ru k f : Nat} (hk : k = 4) : dtI E l D Z yX0_heaviness (Cond.code yX0_heaviness cX0_heaviness 1 (some .int) :: cW) { frames := 2, cells := 0, slots := 0, locals := 40 } [.ref ru] (wcat [ruP ru k f]) (S := Unit) (fun _ => wcat [ruP ru k f]) (fun _ => nI (6 + f)) (fun _ => True) := by
  refine dtI_of hE (cc := cX0_heaviness) (maxL := 1) (by decide +kernel) (fun w h => List.mem_cons_of_mem _ h) (Nat.le_of_ble_eq_true rfl) ?_
  intro p e s m args below meth c A Q ls hx hb hml hown hts G X hl fin
  replace hl : lv_has ls 1 [(0, .ref ru)] := hl
  refine lv_aload_n hx hb dX0_heaviness_0 rfl (lv_at hl 0 rfl) ?_
  obtain ⟨rc_1, hrc_1⟩ := ru_cl k
  refine dtI_go (w := wcat [ruP ru k f]) (wf := wcat []) (W1 := fun _ => wcat [ruP ru k f]) G X (wsel [0] rfl rfl) (run_SU (As := []) (rest := []) (n := 0) hrc_1 G hml hts hl.1 (p_recv G X 0 0 rfl rfl hrc_1) (k7_heaviness hE (ru := ru) (k := k) (f := f) (Or.inr hk) _) (va_cwSU 0 hts (cg_SU ck_14 ck_22 ck_23 ck_24 ck_25 ck_12) rfl rfl rfl (by decide +kernel) ⟨Nat.le_of_ble_eq_true rfl, Nat.le_of_ble_eq_true rfl⟩) rfl (Nat.le_of_ble_eq_true rfl) dX0_heaviness_1 ⟨Nat.le_refl _, Nat.le_refl _⟩) (fun _ => wback [0] rfl rfl) (fun H locs _ _ X => ?_)
  refine lv_aload_n hx hb dX0_heaviness_4 rfl (lv_at hl 0 rfl) ?_
  refine cf_0 G (by rw [hk]; rfl) X 0 rfl (G.2.2.2.1 _ ck_20) (fun x h => u_same (G.2.2.2.1 _ ck_21) x h) dX0_heaviness_5 ?_
  refine gn_iadd hx hb dX0_heaviness_8  ?_
  exact cfin_I (()) (trivial) (rfl) (rfl) X dX0_heaviness_9 fin
set_option maxHeartbeats 4000000 in
set_option maxRecDepth 100000 in
theorem k9_heaviness {E : (Nat → Prop) → State → Heap → Prop} (hE : cEok E) {l : Launch} {D : va_G} {Z : Nat → ClassId} {ru k f : Nat} (hk : k = 5) : dtI E l D Z yX9_heaviness (Cond.code yX9_heaviness cX9_heaviness 1 (some .int) :: cW) { frames := 1, cells := 0, slots := 0, locals := 20 } [.ref ru] (wcat [ruP ru k f]) (S := Unit) (fun _ => wcat [ruP ru k f]) (fun _ => nI (3 + 10 * f)) (fun _ => True) := by
  refine dtI_of hE (cc := cX9_heaviness) (maxL := 1) (by decide +kernel) (fun w h => List.mem_cons_of_mem _ h) (Nat.le_of_ble_eq_true rfl) ?_
  intro p e s m args below meth c A Q ls hx hb hml hown hts G X hl fin
  replace hl : lv_has ls 1 [(0, .ref ru)] := hl
  refine lv_aload_n hx hb dX9_heaviness_0 rfl (lv_at hl 0 rfl) ?_
  obtain ⟨rc_1, hrc_1⟩ := ru_cl k
  refine dtI_go (w := wcat [ruP ru k f]) (wf := wcat []) (W1 := fun _ => wcat [ruP ru k f]) G X (wsel [0] rfl rfl) (run_SU (As := []) (rest := []) (n := 0) hrc_1 G hml hts hl.1 (p_recv G X 0 0 rfl rfl hrc_1) (k6_heaviness hE (ru := ru) (k := k) (f := f) _) (va_cwSU 0 hts (cg_SU ck_13 ck_333 ck_16 ck_334 ck_18 ck_8) rfl rfl rfl (by decide +kernel) ⟨Nat.le_of_ble_eq_true rfl, Nat.le_of_ble_eq_true rfl⟩) rfl (Nat.le_of_ble_eq_true rfl) dX9_heaviness_1 ⟨Nat.le_refl _, Nat.le_refl _⟩) (fun _ => wback [0] rfl rfl) (fun H locs _ _ X => ?_)
  refine lv_bipush (v := nI 10) hx hb dX9_heaviness_4 (by decide) ?_
  refine lv_aload_n hx hb dX9_heaviness_6 rfl (lv_at hl 0 rfl) ?_
  refine cf_9 G (by rw [hk]; rfl) X 0 rfl (G.2.2.2.1 _ ck_331) (fun x h => u_same (G.2.2.2.1 _ ck_332) x h) dX9_heaviness_7 ?_
  refine gn_imul hx hb dX9_heaviness_10  ?_
  refine gn_iadd hx hb dX9_heaviness_11  ?_
  exact cfin_I (()) (trivial) (rfl) (rfl) X dX9_heaviness_12 fin
set_option maxHeartbeats 4000000 in
theorem vr_11_heaviness {p : Program} {l : Launch} {e : Env} {R : Room} {s : State} {m : MethodId} {args : Array Value} {below : List Frame} {meth : Method} {c : Code} {H : Heap} {locs : List Loc} {cells slots : Nat} {cc : ByteArray} {pc : Nat} {ls : Array Slot} {rest : List Value} {D : va_G} {A : Nat → Prop} {E : (Nat → Prop) → State → Heap → Prop} {Z : Nat → ClassId} {nL : Nat} {wf : va_W} {y0 : MethodName} {c0 : ByteArray} {m0 : Nat} {r0 : Option FieldType} {ru k f : Nat} (hE : cEok E) (G : cG E p c cc s m args D Z RX11 A) (hml : c.maxLocals = nL) (hts : ∀ w ∈ (Cond.code y0 c0 m0 r0 :: cW), w.before args s = true) (hl : ls.size = nL) (hk : k < 6)  (hrs : (rest.map fun v => v.category).sum ≤ 8) (hdg : decode cc pc = .ok (.invokevirtual 339, 3)) (hf : cells ≤ R.cells ∧ slots ≤ R.slots) (hR : 3 ≤ R.frames ∧ 60 ≤ R.locals) (X : wH D vwCl A s.heap H locs (wcat [ruP ru k f] ++ wf)) :
    va_Run p l e R s m args below meth c H locs cells slots 0 0 (F0 m pc ls ([].reverse ++ .ref ru :: rest)) rest (va_Qi (fun x (u : Unit) => x = nI (zweigh k f) ∧ True) (fun _ t => dtB D (wcat [ruP ru k f]) H.size (wcat [ruP ru k f]) t) (va_A (wcat [ruP ru k f]) H.size) (Value.ref ru :: []).toArray) (va_A (wcat [ruP ru k f]) H.size) := by
  have hR1 := hR.1
  have hR2 := hR.2
  have hrec : ∀ (n : Nat) (r : vw_C), ciR k = n → vwCl[n]? = some r → ∃ cell : Cell, H[ru]? = some cell ∧ cell.vm.isStatics = false ∧ s.vm.findClass r.1 = some cell.cls := fun n r h h2 => va_recv G.2.2.2.2.1 (fr_left X.1) h2 (q0 := wpos [ruP ru k f] 0 + 0) (wcat_at rfl (ru_one h))
  rcases (show k = 0 ∨ k = 1 ∨ k = 2 ∨ k = 3 ∨ k = 4 ∨ k = 5 by omega) with rfl | rfl | rfl | rfl | rfl | rfl
  · exact run_V (As := []) (n := 0) (rm := _) G hml hts hl (hrec 6 _ rfl rfl) (k6_heaviness hE  _) (cwV 0 hts (cg_V ck_13 ck_731 ck_18 ck_732 ck_8) rfl rfl rfl (by decide +kernel) ⟨Nat.le_trans (by decide) hR1, Nat.le_trans (by decide) hR2⟩) rfl hrs hdg hf X
  · exact run_U (As := []) (n := 0) (C := RX1) (owner := "AskNext$Rule") (x := ⟨"AskNext$Rule", "heaviness", "()I"⟩) G hml hts hl (hrec 1 _ rfl rfl) (k1_heaviness hE (by decide) _) (va_cwO 0 hts (cg_O ck_44 ck_724 ck_16 ck_725 ck_728 ck_152 ck_145) rfl rfl rfl (List.mem_cons_of_mem _ ck_13) (by decide +kernel) ⟨Nat.le_trans (by decide) hR1, Nat.le_trans (by decide) hR2⟩) rfl hrs hdg hf X
  · exact run_U (As := []) (n := 0) (C := RX3) (owner := "AskNext$Rule") (x := ⟨"AskNext$Rule", "heaviness", "()I"⟩) G hml hts hl (hrec 3 _ rfl rfl) (k3_heaviness hE rfl _) (va_cwO 0 hts (cg_O ck_146 ck_724 ck_16 ck_725 ck_729 ck_730 ck_395) rfl rfl rfl (List.mem_cons_of_mem _ ck_13) (by decide +kernel) ⟨Nat.le_trans (by decide) hR1, Nat.le_trans (by decide) hR2⟩) rfl hrs hdg hf X
  · exact run_U (As := []) (n := 0) (C := RX7) (owner := "AskNext$Rule") (x := ⟨"AskNext$Rule", "heaviness", "()I"⟩) G hml hts hl (hrec 7 _ rfl rfl) (k7_heaviness hE (by decide) _) (va_cwO 0 hts (cg_O ck_14 ck_724 ck_16 ck_725 ck_733 ck_25 ck_12) rfl rfl rfl (List.mem_cons_of_mem _ ck_13) (by decide +kernel) ⟨Nat.le_trans (by decide) hR1, Nat.le_trans (by decide) hR2⟩) rfl hrs hdg hf X
  · exact run_U (As := []) (n := 0) (C := RX0) (owner := "AskNext$Rule") (x := ⟨"AskNext$Rule", "heaviness", "()I"⟩) G hml hts hl (hrec 0 _ rfl rfl) (k0_heaviness hE rfl _) (va_cwO 0 hts (cg_O ck_19 ck_724 ck_16 ck_725 ck_726 ck_727 ck_439) rfl rfl rfl (List.mem_cons_of_mem _ ck_13) (by decide +kernel) ⟨Nat.le_trans (by decide) hR1, Nat.le_trans (by decide) hR2⟩) rfl hrs hdg hf X
  · exact run_U (As := []) (n := 0) (C := RX9) (owner := "AskNext$Rule") (x := ⟨"AskNext$Rule", "heaviness", "()I"⟩) G hml hts hl (hrec 9 _ rfl rfl) (k9_heaviness hE rfl _) (va_cwO 0 hts (cg_O ck_330 ck_724 ck_16 ck_725 ck_734 ck_735 ck_415) rfl rfl rfl (List.mem_cons_of_mem _ ck_13) (by decide +kernel) ⟨Nat.le_trans (by decide) hR1, Nat.le_trans (by decide) hR2⟩) rfl hrs hdg hf X
set_option maxHeartbeats 4000000 in
set_option maxRecDepth 100000 in
theorem k11_weight {E : (Nat → Prop) → State → Heap → Prop} (hE : cEok E) {l : Launch} {D : va_G} {Z : Nat → ClassId} {an : Nat × Nat × Nat} {x0 x1 x2 x3 x4 x5 x6 x7 x8 x9 hi : Nat} {sb sc : Nat → Nat} {ρ : MS} (xd : Int32) (hzs : zSh ρ) : dtI E l D Z yX11_weight (Cond.code yX11_weight cX11_weight 3 (some .int) :: cW) { frames := 4, cells := 0, slots := 0, locals := 83 } [.ref an.1, .int xd] (wcat [anP Z an x0 x1 x2 x3 x4 x5 x6 x7 x8 x9 hi sb (ρ.2 41), shOn (shF Z sb sc ρ) 8]) (S := Unit) (fun _ => wcat [anP Z an x0 x1 x2 x3 x4 x5 x6 x7 x8 x9 hi sb (ρ.2 41), shOn (shF Z sb sc ρ) 8]) (fun _ => zweightS ρ xd) (fun _ => True) := by
  refine dtI_of hE (cc := cX11_weight) (maxL := 3) (by decide +kernel) (fun w h => List.mem_cons_of_mem _ h) (Nat.le_of_ble_eq_true rfl) ?_
  intro p e s m args below meth c A Q ls hx hb hml hown hts G X hl fin
  replace hl : lv_has ls 3 [(0, .ref an.1), (1, .int xd)] := hl
  refine lv_aload_n hx hb dX11_weight_0 rfl (lv_at hl 0 rfl) ?_
  refine lv_iload_n hx hb dX11_weight_1 rfl (lv_at hl 1 rfl) ?_
  refine dtQ_go (w := wcat [anP Z an x0 x1 x2 x3 x4 x5 x6 x7 x8 x9 hi sb (ρ.2 41)]) (wf := wcat [shOn (shF Z sb sc ρ) 8]) (W1 := fun _ => wcat [anP Z an x0 x1 x2 x3 x4 x5 x6 x7 x8 x9 hi sb (ρ.2 41), shOn (shF Z sb sc ρ) 8]) G X (wsel [0, 1] rfl rfl) (run_V (As := [.int xd]) (rest := []) (n := 1) G hml hts hl.1 (p_recv G X 0 0 rfl rfl rfl) (k11_ruleOn hE xd _) (cwV 1 hts (cg_V ck_529 ck_531 ck_532 ck_533 ck_89) rfl rfl rfl (by decide +kernel) ⟨Nat.le_of_ble_eq_true rfl, Nat.le_of_ble_eq_true rfl⟩) rfl (Nat.le_of_ble_eq_true rfl) dX11_weight_2 ⟨Nat.le_refl _, Nat.le_refl _⟩) (fun _ => wback [0, 1] rfl rfl) (fun H locs _ _ X => ?_)
  by_cases q_2 : zir xd 8 ∧ (ρ.2 41) xd.toInt.toNat = 1
  · obtain ⟨jd, hjd, rfl⟩ := zir_of (by decide) q_2.1
    rw [nI_N (by omega)] at q_2
    refine gq_s (shQ_s hjd q_2.2) ?_
    replace q_2 := q_2.2
    replace X := sh_out (qs := [anP Z an x0 x1 x2 x3 x4 x5 x6 x7 x8 x9 hi sb (ρ.2 41)]) hjd (shF_1 (show ρ.2 41 jd = 1 from q_2)) X
    refine lv_astore_n (lv' := [(2, .ref (sb jd)), (0, .ref an.1), (1, .int (nI jd))]) hx hb dX11_weight_5 rfl hl (by decide) rfl (fun ls hl => ?_)
    refine lv_aload_n hx hb dX11_weight_6 rfl (lv_at hl 0 rfl) ?_
    refine lv_ifnonnull (tgt := 16) hx hb dX11_weight_7 (by decide) ?_
    refine lv_aload_n hx hb dX11_weight_16 rfl (lv_at hl 0 rfl) ?_
    refine dtI_go (mc := 0) (ms := 0) (w := wcat [ruP (sb jd) (ρ.2 42 jd) (ρ.2 43 jd)]) (wf := wcat [anP Z an x0 x1 x2 x3 x4 x5 x6 x7 x8 x9 hi sb (ρ.2 41), shOn (shNo (shF Z sb sc ρ) jd) 8]) (W1 := fun _ => wcat [anP Z an x0 x1 x2 x3 x4 x5 x6 x7 x8 x9 hi sb (ρ.2 41), ruP (sb jd) (ρ.2 42 jd) (ρ.2 43 jd), shOn (shNo (shF Z sb sc ρ) jd) 8]) G X (wsel [1, 0, 2] rfl rfl) (vr_11_heaviness (rest := []) (wf := wcat [anP Z an x0 x1 x2 x3 x4 x5 x6 x7 x8 x9 hi sb (ρ.2 41), shOn (shNo (shF Z sb sc ρ) jd) 8]) hE G hml hts hl.1 (hzs.2.1 jd hjd q_2).1 (Nat.le_of_ble_eq_true rfl) dX11_weight_17 ⟨Nat.le_refl _, Nat.le_refl _⟩ ⟨Nat.le_of_ble_eq_true rfl, Nat.le_of_ble_eq_true rfl⟩) (fun _ => wback [1, 0, 2] rfl rfl) (fun H locs _ _ X => ?_)
    replace X := sh_in (qs := [anP Z an x0 x1 x2 x3 x4 x5 x6 x7 x8 x9 hi sb (ρ.2 41)]) hjd (shF_1 (show ρ.2 41 jd = 1 from q_2)) X
    exact cfin_I (()) (trivial) (rfl) (zweig_v hjd q_2) X dX11_weight_20 fin
  · refine gq_n (shQ_n q_2) ?_
    refine lv_astore_nN (lv' := [(2, .null), (0, .ref an.1), (1, .int xd)]) hx hb dX11_weight_5 rfl hl (by decide) rfl (fun ls hl => ?_)
    refine lv_aload_nN hx hb dX11_weight_6 rfl (lv_at hl 0 rfl) ?_
    refine lv_ifnonnullN hx hb dX11_weight_7 ?_
    refine lv_aload_n hx hb dX11_weight_10 rfl (lv_at hl 1 rfl) ?_
    refine lv_iload_n hx hb dX11_weight_11 rfl (lv_at hl 2 rfl) ?_
    refine dtI_go (w := wcat [anP Z an x0 x1 x2 x3 x4 x5 x6 x7 x8 x9 hi sb (ρ.2 41)]) (wf := wcat [shOn (shF Z sb sc ρ) 8]) (W1 := fun _ => wcat [anP Z an x0 x1 x2 x3 x4 x5 x6 x7 x8 x9 hi sb (ρ.2 41), shOn (shF Z sb sc ρ) 8]) G X (wsel [0, 1] rfl rfl) (run_V (As := [.int xd]) (rest := []) (n := 1) G hml hts hl.1 (p_recv G X 0 0 rfl rfl rfl) (k11_lackOn hE xd _) (cwV 1 hts (cg_V ck_537 ck_542 ck_543 ck_544 ck_89) rfl rfl rfl (by decide +kernel) ⟨Nat.le_of_ble_eq_true rfl, Nat.le_of_ble_eq_true rfl⟩) rfl (Nat.le_of_ble_eq_true rfl) dX11_weight_12 ⟨Nat.le_refl _, Nat.le_refl _⟩) (fun _ => wback [0, 1] rfl rfl) (fun H locs _ _ X => ?_)
    exact cfin_I (()) (trivial) (rfl) (zweig_l hzs q_2) X dX11_weight_15 fin
set_option maxHeartbeats 4000000 in
set_option maxRecDepth 100000 in
theorem k6_init {E : (Nat → Prop) → State → Heap → Prop} (hE : cEok E) {l : Launch} {D : va_G} {Z : Nat → ClassId} {ru k f : Nat} (xf : Nat) (hk : k < 6) : dtV E l D Z yX6_init (Cond.code yX6_init cX6_init 2 none :: cW) { frames := 1, cells := 0, slots := 0, locals := 20 } [.ref ru, .int (nI xf)] (wcat [ruP ru k f]) (S := Unit) (fun _ => wcat [ruP ru k xf]) (fun _ => True) := by
  refine dtVi_of hE (cc := cX6_init) (maxL := 2) rfl (by decide +kernel) (fun w h => List.mem_cons_of_mem _ h) (Nat.le_of_ble_eq_true rfl) ?_
  intro p e s m args below meth c A Q ls hin2 hx hb hml hown hts G X hl fin
  replace hl : lv_has ls 2 [(0, .ref ru), (1, .int (nI xf))] := hl
  refine lv_aload_n hx hb dX6_init_0 rfl (lv_at hl 0 rfl) ?_
  refine cx_obj (hml.trans hl.1.symm) G (G.2.2.2.1 _ ck_1) (Nat.le_of_ble_eq_true rfl) (Nat.le_of_ble_eq_true rfl) dX6_init_1 ?_
  refine lv_aload_n hx hb dX6_init_4 rfl (lv_at hl 0 rfl) ?_
  refine lv_iload_n hx hb dX6_init_5 rfl (lv_at hl 1 rfl) ?_
  refine cx_fig (ps' := [ruP ru k xf]) hin2 G X 0 rfl (hk) (G.2.2.2.1 _ ck_4) rfl dX6_init_6 (fun H locs X => ?_)
  exact cfin_V (()) (trivial) (rfl) X dX6_init_9 fin
set_option maxHeartbeats 4000000 in
set_option maxRecDepth 100000 in
theorem k1_init {E : (Nat → Prop) → State → Heap → Prop} (hE : cEok E) {l : Launch} {D : va_G} {Z : Nat → ClassId} {ru k f : Nat} (xf : Nat) (hk : k < 6) : dtV E l D Z yX1_init (Cond.code yX1_init cX1_init 2 none :: cW) { frames := 2, cells := 0, slots := 0, locals := 41 } [.ref ru, .int (nI xf)] (wcat [ruP ru k f]) (S := Unit) (fun _ => wcat [ruP ru k xf]) (fun _ => True) := by
  refine dtVi_of hE (cc := cX1_init) (maxL := 2) rfl (by decide +kernel) (fun w h => List.mem_cons_of_mem _ h) (Nat.le_of_ble_eq_true rfl) ?_
  intro p e s m args below meth c A Q ls hin2 hx hb hml hown hts G X hl fin
  replace hl : lv_has ls 2 [(0, .ref ru), (1, .int (nI xf))] := hl
  refine lv_aload_n hx hb dX1_init_0 rfl (lv_at hl 0 rfl) ?_
  refine lv_iload_n hx hb dX1_init_1 rfl (lv_at hl 1 rfl) ?_
  refine dtV_go (w := wcat [ruP ru k f]) (wf := wcat []) (W1 := fun _ => wcat [ruP ru k xf]) G X (wsel [0] rfl rfl) (run_I (As := [.int (nI xf)]) (rest := []) (n := 1) G hml hts hl.1 (k6_init hE (ru := ru) (k := k) (f := f) xf (by first | exact hk | omega) _) (cwI 1 hts (cg_0 ck_0) rfl rfl rfl (G.2.2.2.1 _ ck_8) (G.2.2.2.1 _ ck_43) (G.2.2.2.1 _ ck_7) rfl (by decide +kernel) ⟨Nat.le_of_ble_eq_true rfl, Nat.le_of_ble_eq_true rfl⟩) rfl (Nat.le_of_ble_eq_true rfl) dX1_init_2 ⟨Nat.le_refl _, Nat.le_refl _⟩) (fun _ => wback [0] rfl rfl) (fun H locs _ _ X => ?_)
  exact cfin_V (()) (trivial) (rfl) X dX1_init_5 fin
set_option maxHeartbeats 4000000 in
set_option maxRecDepth 100000 in
theorem k7_init {E : (Nat → Prop) → State → Heap → Prop} (hE : cEok E) {l : Launch} {D : va_G} {Z : Nat → ClassId} {ru k f : Nat} (xf : Nat) (hk : k < 6) : dtV E l D Z yX7_init (Cond.code yX7_init cX7_init 2 none :: cW) { frames := 2, cells := 0, slots := 0, locals := 41 } [.ref ru, .int (nI xf)] (wcat [ruP ru k f]) (S := Unit) (fun _ => wcat [ruP ru k xf]) (fun _ => True) := by
  refine dtVi_of hE (cc := cX7_init) (maxL := 2) rfl (by decide +kernel) (fun w h => List.mem_cons_of_mem _ h) (Nat.le_of_ble_eq_true rfl) ?_
  intro p e s m args below meth c A Q ls hin2 hx hb hml hown hts G X hl fin
  replace hl : lv_has ls 2 [(0, .ref ru), (1, .int (nI xf))] := hl
  refine lv_aload_n hx hb dX7_init_0 rfl (lv_at hl 0 rfl) ?_
  refine lv_iload_n hx hb dX7_init_1 rfl (lv_at hl 1 rfl) ?_
  refine dtV_go (w := wcat [ruP ru k f]) (wf := wcat []) (W1 := fun _ => wcat [ruP ru k xf]) G X (wsel [0] rfl rfl) (run_I (As := [.int (nI xf)]) (rest := []) (n := 1) G hml hts hl.1 (k6_init hE (ru := ru) (k := k) (f := f) xf (by first | exact hk | omega) _) (cwI 1 hts (cg_0 ck_0) rfl rfl rfl (G.2.2.2.1 _ ck_8) (G.2.2.2.1 _ ck_6) (G.2.2.2.1 _ ck_7) rfl (by decide +kernel) ⟨Nat.le_of_ble_eq_true rfl, Nat.le_of_ble_eq_true rfl⟩) rfl (Nat.le_of_ble_eq_true rfl) dX7_init_2 ⟨Nat.le_refl _, Nat.le_refl _⟩) (fun _ => wback [0] rfl rfl) (fun H locs _ _ X => ?_)
  exact cfin_V (()) (trivial) (rfl) X dX7_init_5 fin
set_option maxHeartbeats 4000000 in
set_option maxRecDepth 100000 in
theorem k3_init {E : (Nat → Prop) → State → Heap → Prop} (hE : cEok E) {l : Launch} {D : va_G} {Z : Nat → ClassId} {ru k f : Nat} (xf : Nat) (hk : k < 6) : dtV E l D Z yX3_init (Cond.code yX3_init cX3_init 2 none :: cW) { frames := 3, cells := 0, slots := 0, locals := 62 } [.ref ru, .int (nI xf)] (wcat [ruP ru k f]) (S := Unit) (fun _ => wcat [ruP ru k xf]) (fun _ => True) := by
  refine dtVi_of hE (cc := cX3_init) (maxL := 2) rfl (by decide +kernel) (fun w h => List.mem_cons_of_mem _ h) (Nat.le_of_ble_eq_true rfl) ?_
  intro p e s m args below meth c A Q ls hin2 hx hb hml hown hts G X hl fin
  replace hl : lv_has ls 2 [(0, .ref ru), (1, .int (nI xf))] := hl
  refine lv_aload_n hx hb dX3_init_0 rfl (lv_at hl 0 rfl) ?_
  refine lv_iload_n hx hb dX3_init_1 rfl (lv_at hl 1 rfl) ?_
  refine dtV_go (w := wcat [ruP ru k f]) (wf := wcat []) (W1 := fun _ => wcat [ruP ru k xf]) G X (wsel [0] rfl rfl) (run_I (As := [.int (nI xf)]) (rest := []) (n := 1) G hml hts hl.1 (k1_init hE (ru := ru) (k := k) (f := f) xf (by first | exact hk | omega) _) (cwI 1 hts (cg_0 ck_42) rfl rfl rfl (G.2.2.2.1 _ ck_145) (G.2.2.2.1 _ ck_143) (G.2.2.2.1 _ ck_144) rfl (by decide +kernel) ⟨Nat.le_of_ble_eq_true rfl, Nat.le_of_ble_eq_true rfl⟩) rfl (Nat.le_of_ble_eq_true rfl) dX3_init_2 ⟨Nat.le_refl _, Nat.le_refl _⟩) (fun _ => wback [0] rfl rfl) (fun H locs _ _ X => ?_)
  exact cfin_V (()) (trivial) (rfl) X dX3_init_5 fin
set_option maxHeartbeats 4000000 in
set_option maxRecDepth 100000 in
theorem k0_init {E : (Nat → Prop) → State → Heap → Prop} (hE : cEok E) {l : Launch} {D : va_G} {Z : Nat → ClassId} {ru k f : Nat} (xf : Nat) (hk : k < 6) : dtV E l D Z yX0_init (Cond.code yX0_init cX0_init 2 none :: cW) { frames := 3, cells := 0, slots := 0, locals := 62 } [.ref ru, .int (nI xf)] (wcat [ruP ru k f]) (S := Unit) (fun _ => wcat [ruP ru k xf]) (fun _ => True) := by
  refine dtVi_of hE (cc := cX0_init) (maxL := 2) rfl (by decide +kernel) (fun w h => List.mem_cons_of_mem _ h) (Nat.le_of_ble_eq_true rfl) ?_
  intro p e s m args below meth c A Q ls hin2 hx hb hml hown hts G X hl fin
  replace hl : lv_has ls 2 [(0, .ref ru), (1, .int (nI xf))] := hl
  refine lv_aload_n hx hb dX0_init_0 rfl (lv_at hl 0 rfl) ?_
  refine lv_iload_n hx hb dX0_init_1 rfl (lv_at hl 1 rfl) ?_
  refine dtV_go (w := wcat [ruP ru k f]) (wf := wcat []) (W1 := fun _ => wcat [ruP ru k xf]) G X (wsel [0] rfl rfl) (run_I (As := [.int (nI xf)]) (rest := []) (n := 1) G hml hts hl.1 (k7_init hE (ru := ru) (k := k) (f := f) xf (by first | exact hk | omega) _) (cwI 1 hts (cg_0 ck_5) rfl rfl rfl (G.2.2.2.1 _ ck_12) (G.2.2.2.1 _ ck_10) (G.2.2.2.1 _ ck_11) rfl (by decide +kernel) ⟨Nat.le_of_ble_eq_true rfl, Nat.le_of_ble_eq_true rfl⟩) rfl (Nat.le_of_ble_eq_true rfl) dX0_init_2 ⟨Nat.le_refl _, Nat.le_refl _⟩) (fun _ => wback [0] rfl rfl) (fun H locs _ _ X => ?_)
  exact cfin_V (()) (trivial) (rfl) X dX0_init_5 fin
set_option maxHeartbeats 4000000 in
set_option maxRecDepth 100000 in
theorem k9_init {E : (Nat → Prop) → State → Heap → Prop} (hE : cEok E) {l : Launch} {D : va_G} {Z : Nat → ClassId} {ru k f : Nat} (xf : Nat) (hk : k < 6) : dtV E l D Z yX9_init (Cond.code yX9_init cX9_init 2 none :: cW) { frames := 2, cells := 0, slots := 0, locals := 41 } [.ref ru, .int (nI xf)] (wcat [ruP ru k f]) (S := Unit) (fun _ => wcat [ruP ru k xf]) (fun _ => True) := by
  refine dtVi_of hE (cc := cX9_init) (maxL := 2) rfl (by decide +kernel) (fun w h => List.mem_cons_of_mem _ h) (Nat.le_of_ble_eq_true rfl) ?_
  intro p e s m args below meth c A Q ls hin2 hx hb hml hown hts G X hl fin
  replace hl : lv_has ls 2 [(0, .ref ru), (1, .int (nI xf))] := hl
  refine lv_aload_n hx hb dX9_init_0 rfl (lv_at hl 0 rfl) ?_
  refine lv_iload_n hx hb dX9_init_1 rfl (lv_at hl 1 rfl) ?_
  refine dtV_go (w := wcat [ruP ru k f]) (wf := wcat []) (W1 := fun _ => wcat [ruP ru k xf]) G X (wsel [0] rfl rfl) (run_I (As := [.int (nI xf)]) (rest := []) (n := 1) G hml hts hl.1 (k6_init hE (ru := ru) (k := k) (f := f) xf (by first | exact hk | omega) _) (cwI 1 hts (cg_0 ck_0) rfl rfl rfl (G.2.2.2.1 _ ck_8) (G.2.2.2.1 _ ck_329) (G.2.2.2.1 _ ck_7) rfl (by decide +kernel) ⟨Nat.le_of_ble_eq_true rfl, Nat.le_of_ble_eq_true rfl⟩) rfl (Nat.le_of_ble_eq_true rfl) dX9_init_2 ⟨Nat.le_refl _, Nat.le_refl _⟩) (fun _ => wback [0] rfl rfl) (fun H locs _ _ X => ?_)
  exact cfin_V (()) (trivial) (rfl) X dX9_init_5 fin
set_option maxHeartbeats 4000000 in
set_option maxRecDepth 100000 in
theorem k5_init {E : (Nat → Prop) → State → Heap → Prop} (hE : cEok E) {l : Launch} {D : va_G} {Z : Nat → ClassId} {ob : Nat} (xt : Nat) (xn : Nat) (hn : xn ≤ 100) : dtV E l D Z yX5_init (Cond.code yX5_init cX5_init 3 none :: cW) { frames := 1, cells := 1, slots := 100, locals := 20 } [.ref ob, .int (nI xt), .int (nI xn)] (wcat [[(ob, Sum.inr (5, [.int 0, .null]))]]) (S := Nat) (fun u => wcat [roP Z (ob, u) xt xn (fun _ => 0)]) (fun _ => True) := by
  refine dtVi_of hE (cc := cX5_init) (maxL := 3) rfl (by decide +kernel) (fun w h => List.mem_cons_of_mem _ h) (Nat.le_of_ble_eq_true rfl) ?_
  intro p e s m args below meth c A Q ls hin2 hx hb hml hown hts G X hl fin
  replace hl : lv_has ls 3 [(0, .ref ob), (1, .int (nI xt)), (2, .int (nI xn))] := hl
  refine lv_aload_n hx hb dX5_init_0 rfl (lv_at hl 0 rfl) ?_
  refine cx_obj (hml.trans hl.1.symm) G (G.2.2.2.1 _ ck_274) (Nat.le_of_ble_eq_true rfl) (Nat.le_of_ble_eq_true rfl) dX5_init_1 ?_
  refine lv_aload_n hx hb dX5_init_4 rfl (lv_at hl 0 rfl) ?_
  refine lv_iload_n hx hb dX5_init_5 rfl (lv_at hl 1 rfl) ?_
  refine cx_putF (ps' := [[(ob, Sum.inr (5, [.int (nI xt), .null]))]]) (ci := 5) (C := RX5) (T := TX5) (N := 2) rfl cbase_5 tyX5 tyX5_ok nmX5 hin2 G X 0 0 rfl rfl 0 (by decide) (G.2.2.2.1 _ ck_275) rfl rfl rfl (ty := .int) (by decide +kernel) rfl rfl (Nat.le_of_ble_eq_true rfl) rfl dX5_init_6 (fun H locs X => ?_)
  refine lv_aload_n hx hb dX5_init_9 rfl (lv_at hl 0 rfl) ?_
  refine lv_iload_n hx hb dX5_init_10 rfl (lv_at hl 2 rfl) ?_
  refine gn_if_ge (tgt := 18) hx hb dX5_init_11 (by decide) (by omega) ?_
  refine lv_iload_n hx hb dX5_init_18 rfl (lv_at hl 2 rfl) ?_
  refine cx_newi (n := xn) G X (by omega) (by decide) (by show 0 + xn ≤ 100; omega) dX5_init_19 (fun q_19 H X => ?_)
  refine cx_putF (ps' := [[(ob, Sum.inr (5, [.int (nI xt), .ref q_19]))], [(q_19, Sum.inl (Z 0, xn, Sum.inl (fun _ => 0)))]]) (ci := 5) (C := RX5) (T := TX5) (N := 2) rfl cbase_5 tyX5 tyX5_ok nmX5 hin2 G X 0 0 rfl rfl 1 (by decide) (G.2.2.2.1 _ ck_276) rfl rfl rfl (ty := .array .int) (by decide +kernel) rfl rfl (Nat.le_of_ble_eq_true rfl) rfl dX5_init_21 (fun H locs X => ?_)
  refine W.widen (k := 1) (n := 100) (by decide) (by omega) ?_
  exact cfin_V (q_19) (trivial) (rfl) X dX5_init_24 fin
