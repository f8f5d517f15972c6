set_option maxHeartbeats 4000000 in
set_option maxRecDepth 100000 in
theorem k6_asksOnComing {E : (Nat → Prop) → State → Heap → Prop} (hE : cEok E) {l : Launch} {D : va_G} {Z : Nat → ClassId} {ru k f : Nat} {ta : Nat × Nat × Nat} {F K : Nat → Nat} (hk : k ≠ 3 ∧ k ≠ 4) : dtI E l D Z yX6_asksOnComing (Cond.code yX6_asksOnComing cX6_asksOnComing 2 (some .boolean) :: cW) { frames := 0, cells := 0, slots := 0, locals := 0 } [.ref ru, .ref ta.1] (wcat [ruP ru k f, thP Z ta F K]) (S := Unit) (fun _ => wcat [ruP ru k f, thP Z ta F K]) (fun _ => if zwk k f F then 1 else 0) (fun _ => True) := by
  refine dtZ_of hE (cc := cX6_asksOnComing) (maxL := 2) (hnar := fun _ _ => zb_ite) (by decide +kernel) (fun w h => List.mem_cons_of_mem _ h) (Nat.le_of_ble_eq_true rfl) ?_
  intro p e s m args below meth c A Q ls hx hb hml hown hts G X hl fin
  replace hl : lv_has ls 2 [(0, .ref ru), (1, .ref ta.1)] := hl
  refine lv_iconst (v := nI 0) hx hb dX6_asksOnComing_0 (by decide) ?_
  exact cfin_I (()) (trivial) (rfl) (zb_f (by omega)) X dX6_asksOnComing_1 fin
set_option maxHeartbeats 4000000 in
set_option maxRecDepth 100000 in
theorem k7_asksOnComing {E : (Nat → Prop) → State → Heap → Prop} (hE : cEok E) {l : Launch} {D : va_G} {Z : Nat → ClassId} {ru k f : Nat} {ta : Nat × Nat × Nat} {F K : Nat → Nat} (hk : k = 3) : dtI E l D Z yX7_asksOnComing (Cond.code yX7_asksOnComing cX7_asksOnComing 2 (some .boolean) :: cW) { frames := 0, cells := 0, slots := 0, locals := 0 } [.ref ru, .ref ta.1] (wcat [ruP ru k f, thP Z ta F K]) (S := Unit) (fun _ => wcat [ruP ru k f, thP Z ta F K]) (fun _ => if zwk k f F then 1 else 0) (fun _ => True) := by
  refine dtZ_of hE (cc := cX7_asksOnComing) (maxL := 2) (hnar := fun _ _ => zb_ite) (by decide +kernel) (fun w h => List.mem_cons_of_mem _ h) (Nat.le_of_ble_eq_true rfl) ?_
  intro p e s m args below meth c A Q ls hx hb hml hown hts G X hl fin
  replace hl : lv_has ls 2 [(0, .ref ru), (1, .ref ta.1)] := hl
  refine lv_iconst (v := nI 1) hx hb dX7_asksOnComing_0 (by decide) ?_
  exact cfin_I (()) (trivial) (rfl) (zb_t (Or.inl hk)) X dX7_asksOnComing_1 fin
set_option maxHeartbeats 4000000 in
set_option maxRecDepth 100000 in
theorem k0_asksOnComing {E : (Nat → Prop) → State → Heap → Prop} (hE : cEok E) {l : Launch} {D : va_G} {Z : Nat → ClassId} {ru k f : Nat} {ta : Nat × Nat × Nat} {F K : Nat → Nat} (hk : k = 4) (hF : ∀ w, w < 5 → F w ≤ 100000000000) (hf : f < 100) : dtI E l D Z yX0_asksOnComing (Cond.code yX0_asksOnComing cX0_asksOnComing 2 (some .boolean) :: cW) { frames := 1, cells := 0, slots := 0, locals := 23 } [.ref ru, .ref ta.1] (wcat [ruP ru k f, thP Z ta F K]) (S := Unit) (fun _ => wcat [ruP ru k f, thP Z ta F K]) (fun _ => if zwk k f F then 1 else 0) (fun _ => True) := by
  refine dtZ_of hE (cc := cX0_asksOnComing) (maxL := 2) (hnar := fun _ _ => zb_ite) (by decide +kernel) (fun w h => List.mem_cons_of_mem _ h) (Nat.le_of_ble_eq_true rfl) ?_
  intro p e s m args below meth c A Q ls hx hb hml hown hts G X hl fin
  replace hl : lv_has ls 2 [(0, .ref ru), (1, .ref ta.1)] := hl
  have hF2 : ∀ w, w < 5 → F w < 9223372036854775808 := fun w hw => Nat.lt_of_le_of_lt (hF w hw) (by decide)
  have hz := zbest_lt F 5 (by decide)
  have q1 := hF _ hz
  have q2 := zsum_le (f := F) (b := 100000000000) 5 hF
  have q3 := Nat.mul_le_mul (show f ≤ 99 by omega) q2
  refine gn_ldc2 (v := 100) (k := 100) hx hb G.2.2.1 (G.2.2.2.1 _ ck_30) (by decide) dX0_asksOnComing_0 ?_
  refine lv_aload_n hx hb dX0_asksOnComing_3 rfl (lv_at hl 1 rfl) ?_
  refine cg_8 G X 1 0 rfl rfl 0 (by decide) (G.2.2.2.1 _ ck_31) rfl rfl dX0_asksOnComing_4 ?_
  refine lv_aload_n hx hb dX0_asksOnComing_7 rfl (lv_at hl 1 rfl) ?_
  refine dtI_go (w := wcat [thP Z ta F K]) (wf := wcat [ruP ru k f]) (W1 := fun _ => wcat [ruP ru k f, thP Z ta F K]) G X (wsel [1, 0] rfl rfl) (run_V (As := []) (rest := [.ref ta.2.1, .long (lN 100)]) (n := 0) G hml hts hl.1 (p_recv G X 1 0 rfl rfl rfl) (k8_likeliest hE hF2 _) (cwV 0 hts (cg_V ck_26 ck_32 ck_33 ck_34 ck_35) rfl rfl rfl (by decide +kernel) ⟨Nat.le_of_ble_eq_true rfl, Nat.le_of_ble_eq_true rfl⟩) rfl (Nat.le_of_ble_eq_true rfl) dX0_asksOnComing_8 ⟨Nat.le_refl _, Nat.le_refl _⟩) (fun _ => wback [1, 0] rfl rfl) (fun H locs _ _ X => ?_)
  refine cr_lald G X 1 1 rfl rfl (by omega) (by decide) dX0_asksOnComing_11 ?_
  refine gl_eq (a := (F (zbest F 5))) (zcl_in (by omega)) ?_
  refine gn_lmul hx hb dX0_asksOnComing_12  ?_
  refine lv_aload_n hx hb dX0_asksOnComing_13 rfl (lv_at hl 0 rfl) ?_
  refine cf_0 G (by rw [hk]; rfl) X 0 rfl (G.2.2.2.1 _ ck_20) (fun x h => u_same (G.2.2.2.1 _ ck_21) x h) dX0_asksOnComing_14 ?_
  refine gn_i2l hx hb dX0_asksOnComing_17 (by omega) ?_
  refine lv_aload_n hx hb dX0_asksOnComing_18 rfl (lv_at hl 1 rfl) ?_
  refine dtL_go (w := wcat [thP Z ta F K]) (wf := wcat [ruP ru k f]) (W1 := fun _ => wcat [ruP ru k f, thP Z ta F K]) G X (wsel [1, 0] rfl rfl) (run_V (As := []) (rest := [.long (lN f), .long (lN (100 * (F (zbest F 5))))]) (n := 0) G hml hts hl.1 (p_recv G X 1 0 rfl rfl rfl) (k8_all hE  _) (cwV 0 hts (cg_V ck_28 ck_36 ck_37 ck_38 ck_35) rfl rfl rfl (by decide +kernel) ⟨Nat.le_of_ble_eq_true rfl, Nat.le_of_ble_eq_true rfl⟩) rfl (Nat.le_of_ble_eq_true rfl) dX0_asksOnComing_19 ⟨Nat.le_refl _, Nat.le_refl _⟩) (fun _ => wback [1, 0] rfl rfl) (fun H locs _ _ X => ?_)
  refine gn_lmul hx hb dX0_asksOnComing_22  ?_
  refine gn_lc_ge (tgt := 31) hx hb dX0_asksOnComing_23 dX0_asksOnComing_24 (by decide) (by omega) (by omega) (fun c_23 => ?_) (fun c_23 => ?_)
  ·
    refine lv_iconst (v := nI 0) hx hb dX0_asksOnComing_31 (by decide) ?_
    exact cfin_I (()) (trivial) (rfl) (by first | exact zb_t (Or.inr ⟨hk, by rw [Nat.mul_comm]; exact c_23⟩) | exact zb_f (by rintro (h | ⟨-, h⟩); omega; rw [Nat.mul_comm] at h; omega)) X dX0_asksOnComing_32 fin
  ·
    refine lv_iconst (v := nI 1) hx hb dX0_asksOnComing_27 (by decide) ?_
    refine lv_goto (tgt := 32) hx hb dX0_asksOnComing_28 (by decide) ?_
    exact cfin_I (()) (trivial) (rfl) (by first | exact zb_t (Or.inr ⟨hk, by rw [Nat.mul_comm]; exact c_23⟩) | exact zb_f (by rintro (h | ⟨-, h⟩); omega; rw [Nat.mul_comm] at h; omega)) X dX0_asksOnComing_32 fin
set_option maxHeartbeats 4000000 in
set_option maxRecDepth 100000 in
theorem k6_hasSecondThoughts {E : (Nat → Prop) → State → Heap → Prop} (hE : cEok E) {l : Launch} {D : va_G} {Z : Nat → ClassId} {ru k f : Nat} (hk : ¬ zsec k) : dtI E l D Z yX6_hasSecondThoughts (Cond.code yX6_hasSecondThoughts cX6_hasSecondThoughts 1 (some .boolean) :: cW) { frames := 0, cells := 0, slots := 0, locals := 0 } [.ref ru] (wcat [ruP ru k f]) (S := Unit) (fun _ => wcat [ruP ru k f]) (fun _ => if zsec k then 1 else 0) (fun _ => True) := by
  refine dtZ_of hE (cc := cX6_hasSecondThoughts) (maxL := 1) (hnar := fun _ _ => zb_ite) (by decide +kernel) (fun w h => List.mem_cons_of_mem _ h) (Nat.le_of_ble_eq_true rfl) ?_
  intro p e s m args below meth c A Q ls hx hb hml hown hts G X hl fin
  replace hl : lv_has ls 1 [(0, .ref ru)] := hl
  refine lv_iconst (v := nI 0) hx hb dX6_hasSecondThoughts_0 (by decide) ?_
  exact cfin_I (()) (trivial) (rfl) (zb_f hk) X dX6_hasSecondThoughts_1 fin
set_option maxHeartbeats 4000000 in
set_option maxRecDepth 100000 in
theorem k1_hasSecondThoughts {E : (Nat → Prop) → State → Heap → Prop} (hE : cEok E) {l : Launch} {D : va_G} {Z : Nat → ClassId} {ru k f : Nat} (hk : k = 1 ∨ k = 2) : dtI E l D Z yX1_hasSecondThoughts (Cond.code yX1_hasSecondThoughts cX1_hasSecondThoughts 1 (some .boolean) :: cW) { frames := 0, cells := 0, slots := 0, locals := 0 } [.ref ru] (wcat [ruP ru k f]) (S := Unit) (fun _ => wcat [ruP ru k f]) (fun _ => if zsec k then 1 else 0) (fun _ => True) := by
  refine dtZ_of hE (cc := cX1_hasSecondThoughts) (maxL := 1) (hnar := fun _ _ => zb_ite) (by decide +kernel) (fun w h => List.mem_cons_of_mem _ h) (Nat.le_of_ble_eq_true rfl) ?_
  intro p e s m args below meth c A Q ls hx hb hml hown hts G X hl fin
  replace hl : lv_has ls 1 [(0, .ref ru)] := hl
  refine lv_iconst (v := nI 1) hx hb dX1_hasSecondThoughts_0 (by decide) ?_
  exact cfin_I (()) (trivial) (rfl) (zb_t (by unfold zsec; omega)) X dX1_hasSecondThoughts_1 fin
set_option maxHeartbeats 4000000 in
set_option maxRecDepth 100000 in
theorem k9_hasSecondThoughts {E : (Nat → Prop) → State → Heap → Prop} (hE : cEok E) {l : Launch} {D : va_G} {Z : Nat → ClassId} {ru k f : Nat} (hk : k = 5) : dtI E l D Z yX9_hasSecondThoughts (Cond.code yX9_hasSecondThoughts cX9_hasSecondThoughts 1 (some .boolean) :: cW) { frames := 0, cells := 0, slots := 0, locals := 0 } [.ref ru] (wcat [ruP ru k f]) (S := Unit) (fun _ => wcat [ruP ru k f]) (fun _ => if zsec k then 1 else 0) (fun _ => True) := by
  refine dtZ_of hE (cc := cX9_hasSecondThoughts) (maxL := 1) (hnar := fun _ _ => zb_ite) (by decide +kernel) (fun w h => List.mem_cons_of_mem _ h) (Nat.le_of_ble_eq_true rfl) ?_
  intro p e s m args below meth c A Q ls hx hb hml hown hts G X hl fin
  replace hl : lv_has ls 1 [(0, .ref ru)] := hl
  refine lv_iconst (v := nI 1) hx hb dX9_hasSecondThoughts_0 (by decide) ?_
  exact cfin_I (()) (trivial) (rfl) (zb_t (by unfold zsec; omega)) X dX9_hasSecondThoughts_1 fin
set_option maxHeartbeats 4000000 in
set_option maxRecDepth 100000 in
theorem k6_asksAtStart {E : (Nat → Prop) → State → Heap → Prop} (hE : cEok E) {l : Launch} {D : va_G} {Z : Nat → ClassId} {ru k f : Nat} (hk : k ≠ 1 ∧ k ≠ 2) : dtI E l D Z yX6_asksAtStart (Cond.code yX6_asksAtStart cX6_asksAtStart 1 (some .int) :: cW) { frames := 0, cells := 0, slots := 0, locals := 0 } [.ref ru] (wcat [ruP ru k f]) (S := Unit) (fun _ => wcat [ruP ru k f]) (fun _ => nI (zasks k f)) (fun _ => True) := by
  refine dtI_of hE (cc := cX6_asksAtStart) (maxL := 1) (by decide +kernel) (fun w h => List.mem_cons_of_mem _ h) (Nat.le_of_ble_eq_true rfl) ?_
  intro p e s m args below meth c A Q ls hx hb hml hown hts G X hl fin
  replace hl : lv_has ls 1 [(0, .ref ru)] := hl
  refine lv_iconst (v := nI 0) hx hb dX6_asksAtStart_0 (by decide) ?_
  exact cfin_I (()) (trivial) (rfl) (by unfold zasks; rw [if_neg hk.1, if_neg hk.2]) X dX6_asksAtStart_1 fin
set_option maxHeartbeats 4000000 in
set_option maxRecDepth 100000 in
theorem k1_asksAtStart {E : (Nat → Prop) → State → Heap → Prop} (hE : cEok E) {l : Launch} {D : va_G} {Z : Nat → ClassId} {ru k f : Nat} (hk : k = 1) : dtI E l D Z yX1_asksAtStart (Cond.code yX1_asksAtStart cX1_asksAtStart 1 (some .int) :: cW) { frames := 0, cells := 0, slots := 0, locals := 0 } [.ref ru] (wcat [ruP ru k f]) (S := Unit) (fun _ => wcat [ruP ru k f]) (fun _ => nI (zasks k f)) (fun _ => True) := by
  refine dtI_of hE (cc := cX1_asksAtStart) (maxL := 1) (by decide +kernel) (fun w h => List.mem_cons_of_mem _ h) (Nat.le_of_ble_eq_true rfl) ?_
  intro p e s m args below meth c A Q ls hx hb hml hown hts G X hl fin
  replace hl : lv_has ls 1 [(0, .ref ru)] := hl
  refine lv_iconst (v := nI 1) hx hb dX1_asksAtStart_0 (by decide) ?_
  exact cfin_I (()) (trivial) (rfl) (by unfold zasks; rw [if_pos hk]) X dX1_asksAtStart_1 fin
set_option maxHeartbeats 4000000 in
set_option maxRecDepth 100000 in
theorem k3_asksAtStart {E : (Nat → Prop) → State → Heap → Prop} (hE : cEok E) {l : Launch} {D : va_G} {Z : Nat → ClassId} {ru k f : Nat} (hk : k = 2) : dtI E l D Z yX3_asksAtStart (Cond.code yX3_asksAtStart cX3_asksAtStart 1 (some .int) :: cW) { frames := 0, cells := 0, slots := 0, locals := 0 } [.ref ru] (wcat [ruP ru k f]) (S := Unit) (fun _ => wcat [ruP ru k f]) (fun _ => nI (zasks k f)) (fun _ => True) := by
  refine dtI_of hE (cc := cX3_asksAtStart) (maxL := 1) (by decide +kernel) (fun w h => List.mem_cons_of_mem _ h) (Nat.le_of_ble_eq_true rfl) ?_
  intro p e s m args below meth c A Q ls hx hb hml hown hts G X hl fin
  replace hl : lv_has ls 1 [(0, .ref ru)] := hl
  refine lv_aload_n hx hb dX3_asksAtStart_0 rfl (lv_at hl 0 rfl) ?_
  refine cf_3 G (by rw [hk]; rfl) X 0 rfl (G.2.2.2.1 _ ck_147) (fun x h => u_same (G.2.2.2.1 _ ck_148) x h) dX3_asksAtStart_1 ?_
  exact cfin_I (()) (trivial) (rfl) (by unfold zasks; rw [if_neg (by omega), if_pos hk]) X dX3_asksAtStart_4 fin
set_option maxHeartbeats 4000000 in
set_option maxRecDepth 100000 in
theorem k6_toldWorld {E : (Nat → Prop) → State → Heap → Prop} (hE : cEok E) {l : Launch} {D : va_G} {Z : Nat → ClassId} {ru k f : Nat} (hk : k ≠ 5) : dtI E l D Z yX6_toldWorld (Cond.code yX6_toldWorld cX6_toldWorld 1 (some .int) :: cW) { frames := 0, cells := 0, slots := 0, locals := 0 } [.ref ru] (wcat [ruP ru k f]) (S := Unit) (fun _ => wcat [ruP ru k f]) (fun _ => nI (ztw k f)) (fun _ => True) := by
  refine dtI_of hE (cc := cX6_toldWorld) (maxL := 1) (by decide +kernel) (fun w h => List.mem_cons_of_mem _ h) (Nat.le_of_ble_eq_true rfl) ?_
  intro p e s m args below meth c A Q ls hx hb hml hown hts G X hl fin
  replace hl : lv_has ls 1 [(0, .ref ru)] := hl
  refine lv_iconst (v := nI 4294967295) hx hb dX6_toldWorld_0 (by decide) ?_
  exact cfin_I (()) (trivial) (rfl) (by unfold ztw; rw [if_neg hk]) X dX6_toldWorld_1 fin
set_option maxHeartbeats 4000000 in
set_option maxRecDepth 100000 in
theorem k9_toldWorld {E : (Nat → Prop) → State → Heap → Prop} (hE : cEok E) {l : Launch} {D : va_G} {Z : Nat → ClassId} {ru k f : Nat} (hk : k = 5) : dtI E l D Z yX9_toldWorld (Cond.code yX9_toldWorld cX9_toldWorld 1 (some .int) :: cW) { frames := 0, cells := 0, slots := 0, locals := 0 } [.ref ru] (wcat [ruP ru k f]) (S := Unit) (fun _ => wcat [ruP ru k f]) (fun _ => nI (ztw k f)) (fun _ => True) := by
  refine dtI_of hE (cc := cX9_toldWorld) (maxL := 1) (by decide +kernel) (fun w h => List.mem_cons_of_mem _ h) (Nat.le_of_ble_eq_true rfl) ?_
  intro p e s m args below meth c A Q ls hx hb hml hown hts G X hl fin
  replace hl : lv_has ls 1 [(0, .ref ru)] := hl
  refine lv_aload_n hx hb dX9_toldWorld_0 rfl (lv_at hl 0 rfl) ?_
  refine cf_9 G (by rw [hk]; rfl) X 0 rfl (G.2.2.2.1 _ ck_331) (fun x h => u_same (G.2.2.2.1 _ ck_332) x h) dX9_toldWorld_1 ?_
  exact cfin_I (()) (trivial) (rfl) (by unfold ztw; rw [if_pos hk]) X dX9_toldWorld_4 fin
set_option maxHeartbeats 4000000 in
theorem vr_10_asksOnComing {p : Program} {l : Launch} {e : Env} {R : Room} {s : State} {m : MethodId} {args : Array Value} {below : List Frame} {meth : Method} {c : Code} {H : Heap} {locs : List Loc} {cells slots : Nat} {cc : ByteArray} {pc : Nat} {ls : Array Slot} {rest : List Value} {D : va_G} {A : Nat → Prop} {E : (Nat → Prop) → State → Heap → Prop} {Z : Nat → ClassId} {nL : Nat} {wf : va_W} {y0 : MethodName} {c0 : ByteArray} {m0 : Nat} {r0 : Option FieldType} {ru k f : Nat} {ta : Nat × Nat × Nat} {F K : Nat → Nat} (hE : cEok E) (G : cG E p c cc s m args D Z RX10 A) (hml : c.maxLocals = nL) (hts : ∀ w ∈ (Cond.code y0 c0 m0 r0 :: cW), w.before args s = true) (hl : ls.size = nL) (hk : k < 6) (hF : ∀ w, w < 5 → F w ≤ 100000000000) (hf9 : f < 100) (hrs : (rest.map fun v => v.category).sum ≤ 8) (hdg : decode cc pc = .ok (.invokevirtual 102, 3)) (hf : cells ≤ R.cells ∧ slots ≤ R.slots) (hR : 2 ≤ R.frames ∧ 44 ≤ R.locals) (X : wH D vwCl A s.heap H locs (wcat [ruP ru k f, thP Z ta F K] ++ wf)) :
    va_Run p l e R s m args below meth c H locs cells slots 0 0 (F0 m pc ls ([.ref ta.1].reverse ++ .ref ru :: rest)) rest (va_Qi (fun x (u : Unit) => x = (if zwk k f F then 1 else 0) ∧ True) (fun _ t => dtB D (wcat [ruP ru k f, thP Z ta F K]) H.size (wcat [ruP ru k f, thP Z ta F K]) t) (va_A (wcat [ruP ru k f, thP Z ta F K]) H.size) (Value.ref ru :: [.ref ta.1]).toArray) (va_A (wcat [ruP ru k f, thP Z ta F K]) H.size) := by
  have hR1 := hR.1
  have hR2 := hR.2
  have hrec : ∀ (n : Nat) (r : vw_C), ciR k = n → vwCl[n]? = some r → ∃ cell : Cell, H[ru]? = some cell ∧ cell.vm.isStatics = false ∧ s.vm.findClass r.1 = some cell.cls := fun n r h h2 => va_recv G.2.2.2.2.1 (fr_left X.1) h2 (q0 := wpos [ruP ru k f, thP Z ta F K] 0 + 0) (wcat_at rfl (ru_one h))
  rcases (show k = 0 ∨ k = 1 ∨ k = 2 ∨ k = 3 ∨ k = 4 ∨ k = 5 by omega) with rfl | rfl | rfl | rfl | rfl | rfl
  · exact run_V (As := [.ref ta.1]) (n := 1) (rm := _) G hml hts hl (hrec 6 _ rfl rfl) (k6_asksOnComing hE (by decide) _) (cwV 1 hts (cg_V ck_283 ck_443 ck_441 ck_444 ck_8) rfl rfl rfl (by decide +kernel) ⟨Nat.le_trans (by decide) hR1, Nat.le_trans (by decide) hR2⟩) rfl hrs hdg hf X
  · exact run_U (As := [.ref ta.1]) (n := 1) (C := RX1) (owner := "AskNext$Rule") (x := ⟨"AskNext$Rule", "asksOnComing", "(LAskNext$Thought;)Z"⟩) G hml hts hl (hrec 1 _ rfl rfl) (k6_asksOnComing hE (by decide) _) (va_cwU 1 hts (cg_U ck_283 ck_434 ck_435 ck_440 ck_441 ck_8) rfl rfl rfl rfl (by decide +kernel) ⟨Nat.le_trans (by decide) hR1, Nat.le_trans (by decide) hR2⟩) rfl hrs hdg hf X
  · exact run_U (As := [.ref ta.1]) (n := 1) (C := RX3) (owner := "AskNext$Rule") (x := ⟨"AskNext$Rule", "asksOnComing", "(LAskNext$Thought;)Z"⟩) G hml hts hl (hrec 3 _ rfl rfl) (k6_asksOnComing hE (by decide) _) (va_cwU 1 hts (cg_U ck_283 ck_434 ck_435 ck_442 ck_441 ck_8) rfl rfl rfl rfl (by decide +kernel) ⟨Nat.le_trans (by decide) hR1, Nat.le_trans (by decide) hR2⟩) rfl hrs hdg hf X
  · exact run_U (As := [.ref ta.1]) (n := 1) (C := RX7) (owner := "AskNext$Rule") (x := ⟨"AskNext$Rule", "asksOnComing", "(LAskNext$Thought;)Z"⟩) G hml hts hl (hrec 7 _ rfl rfl) (k7_asksOnComing hE rfl _) (va_cwO 1 hts (cg_O ck_289 ck_434 ck_435 ck_436 ck_445 ck_446 ck_12) rfl rfl rfl (List.mem_cons_of_mem _ ck_283) (by decide +kernel) ⟨Nat.le_trans (by decide) hR1, Nat.le_trans (by decide) hR2⟩) rfl hrs hdg hf X
  · exact run_U (As := [.ref ta.1]) (n := 1) (C := RX0) (owner := "AskNext$Rule") (x := ⟨"AskNext$Rule", "asksOnComing", "(LAskNext$Thought;)Z"⟩) G hml hts hl (hrec 0 _ rfl rfl) (k0_asksOnComing hE rfl hF hf9 _) (va_cwO 1 hts (cg_O ck_29 ck_434 ck_435 ck_436 ck_437 ck_438 ck_439) rfl rfl rfl (List.mem_cons_of_mem _ ck_283) (by decide +kernel) ⟨Nat.le_trans (by decide) hR1, Nat.le_trans (by decide) hR2⟩) rfl hrs hdg hf X
  · exact run_U (As := [.ref ta.1]) (n := 1) (C := RX9) (owner := "AskNext$Rule") (x := ⟨"AskNext$Rule", "asksOnComing", "(LAskNext$Thought;)Z"⟩) G hml hts hl (hrec 9 _ rfl rfl) (k6_asksOnComing hE (by decide) _) (va_cwU 1 hts (cg_U ck_283 ck_434 ck_435 ck_447 ck_441 ck_8) rfl rfl rfl rfl (by decide +kernel) ⟨Nat.le_trans (by decide) hR1, Nat.le_trans (by decide) hR2⟩) rfl hrs hdg hf X
set_option maxHeartbeats 4000000 in
theorem vr_10_hasSecondThoughts {p : Program} {l : Launch} {e : Env} {R : Room} {s : State} {m : MethodId} {args : Array Value} {below : List Frame} {meth : Method} {c : Code} {H : Heap} {locs : List Loc} {cells slots : Nat} {cc : ByteArray} {pc : Nat} {ls : Array Slot} {rest : List Value} {D : va_G} {A : Nat → Prop} {E : (Nat → Prop) → State → Heap → Prop} {Z : Nat → ClassId} {nL : Nat} {wf : va_W} {y0 : MethodName} {c0 : ByteArray} {m0 : Nat} {r0 : Option FieldType} {ru k f : Nat} (hE : cEok E) (G : cG E p c cc s m args D Z RX10 A) (hml : c.maxLocals = nL) (hts : ∀ w ∈ (Cond.code y0 c0 m0 r0 :: cW), w.before args s = true) (hl : ls.size = nL) (hk : k < 6)  (hrs : (rest.map fun v => v.category).sum ≤ 8) (hdg : decode cc pc = .ok (.invokevirtual 149, 3)) (hf : cells ≤ R.cells ∧ slots ≤ R.slots) (hR : 1 ≤ R.frames ∧ 20 ≤ R.locals) (X : wH D vwCl A s.heap H locs (wcat [ruP ru k f] ++ wf)) :
    va_Run p l e R s m args below meth c H locs cells slots 0 0 (F0 m pc ls ([].reverse ++ .ref ru :: rest)) rest (va_Qi (fun x (u : Unit) => x = (if zsec k then 1 else 0) ∧ True) (fun _ t => dtB D (wcat [ruP ru k f]) H.size (wcat [ruP ru k f]) t) (va_A (wcat [ruP ru k f]) H.size) (Value.ref ru :: []).toArray) (va_A (wcat [ruP ru k f]) H.size) := by
  have hR1 := hR.1
  have hR2 := hR.2
  have hrec : ∀ (n : Nat) (r : vw_C), ciR k = n → vwCl[n]? = some r → ∃ cell : Cell, H[ru]? = some cell ∧ cell.vm.isStatics = false ∧ s.vm.findClass r.1 = some cell.cls := fun n r h h2 => va_recv G.2.2.2.2.1 (fr_left X.1) h2 (q0 := wpos [ruP ru k f] 0 + 0) (wcat_at rfl (ru_one h))
  rcases (show k = 0 ∨ k = 1 ∨ k = 2 ∨ k = 3 ∨ k = 4 ∨ k = 5 by omega) with rfl | rfl | rfl | rfl | rfl | rfl
  · exact run_V (As := []) (n := 0) (rm := _) G hml hts hl (hrec 6 _ rfl rfl) (k6_hasSecondThoughts hE (by decide) _) (cwV 0 hts (cg_V ck_285 ck_478 ck_473 ck_479 ck_8) rfl rfl rfl (by decide +kernel) ⟨Nat.le_trans (by decide) hR1, Nat.le_trans (by decide) hR2⟩) rfl hrs hdg hf X
  · exact run_U (As := []) (n := 0) (C := RX1) (owner := "AskNext$Rule") (x := ⟨"AskNext$Rule", "hasSecondThoughts", "()Z"⟩) G hml hts hl (hrec 1 _ rfl rfl) (k1_hasSecondThoughts hE (by decide) _) (va_cwO 0 hts (cg_O ck_48 ck_470 ck_471 ck_474 ck_475 ck_476 ck_145) rfl rfl rfl (List.mem_cons_of_mem _ ck_285) (by decide +kernel) ⟨Nat.le_trans (by decide) hR1, Nat.le_trans (by decide) hR2⟩) rfl hrs hdg hf X
  · exact run_U (As := []) (n := 0) (C := RX3) (owner := "AskNext$Rule") (x := ⟨"AskNext$Rule", "hasSecondThoughts", "()Z"⟩) G hml hts hl (hrec 3 _ rfl rfl) (k1_hasSecondThoughts hE (by decide) _) (va_cwO 0 hts (cg_O ck_48 ck_470 ck_471 ck_474 ck_477 ck_476 ck_145) rfl rfl rfl (List.mem_cons_of_mem _ ck_285) (by decide +kernel) ⟨Nat.le_trans (by decide) hR1, Nat.le_trans (by decide) hR2⟩) rfl hrs hdg hf X
  · exact run_U (As := []) (n := 0) (C := RX7) (owner := "AskNext$Rule") (x := ⟨"AskNext$Rule", "hasSecondThoughts", "()Z"⟩) G hml hts hl (hrec 7 _ rfl rfl) (k6_hasSecondThoughts hE (by decide) _) (va_cwU 0 hts (cg_U ck_285 ck_470 ck_471 ck_480 ck_473 ck_8) rfl rfl rfl rfl (by decide +kernel) ⟨Nat.le_trans (by decide) hR1, Nat.le_trans (by decide) hR2⟩) rfl hrs hdg hf X
  · exact run_U (As := []) (n := 0) (C := RX0) (owner := "AskNext$Rule") (x := ⟨"AskNext$Rule", "hasSecondThoughts", "()Z"⟩) G hml hts hl (hrec 0 _ rfl rfl) (k6_hasSecondThoughts hE (by decide) _) (va_cwU 0 hts (cg_U ck_285 ck_470 ck_471 ck_472 ck_473 ck_8) rfl rfl rfl rfl (by decide +kernel) ⟨Nat.le_trans (by decide) hR1, Nat.le_trans (by decide) hR2⟩) rfl hrs hdg hf X
  · exact run_U (As := []) (n := 0) (C := RX9) (owner := "AskNext$Rule") (x := ⟨"AskNext$Rule", "hasSecondThoughts", "()Z"⟩) G hml hts hl (hrec 9 _ rfl rfl) (k9_hasSecondThoughts hE (by decide) _) (va_cwO 0 hts (cg_O ck_336 ck_470 ck_471 ck_474 ck_481 ck_482 ck_415) rfl rfl rfl (List.mem_cons_of_mem _ ck_285) (by decide +kernel) ⟨Nat.le_trans (by decide) hR1, Nat.le_trans (by decide) hR2⟩) rfl hrs hdg hf X
set_option maxHeartbeats 4000000 in
theorem vr_10_asksAtStart {p : Program} {l : Launch} {e : Env} {R : Room} {s : State} {m : MethodId} {args : Array Value} {below : List Frame} {meth : Method} {c : Code} {H : Heap} {locs : List Loc} {cells slots : Nat} {cc : ByteArray} {pc : Nat} {ls : Array Slot} {rest : List Value} {D : va_G} {A : Nat → Prop} {E : (Nat → Prop) → State → Heap → Prop} {Z : Nat → ClassId} {nL : Nat} {wf : va_W} {y0 : MethodName} {c0 : ByteArray} {m0 : Nat} {r0 : Option FieldType} {ru k f : Nat} (hE : cEok E) (G : cG E p c cc s m args D Z RX10 A) (hml : c.maxLocals = nL) (hts : ∀ w ∈ (Cond.code y0 c0 m0 r0 :: cW), w.before args s = true) (hl : ls.size = nL) (hk : k < 6)  (hrs : (rest.map fun v => v.category).sum ≤ 8) (hdg : decode cc pc = .ok (.invokevirtual 152, 3)) (hf : cells ≤ R.cells ∧ slots ≤ R.slots) (hR : 1 ≤ R.frames ∧ 20 ≤ R.locals) (X : wH D vwCl A s.heap H locs (wcat [ruP ru k f] ++ wf)) :
    va_Run p l e R s m args below meth c H locs cells slots 0 0 (F0 m pc ls ([].reverse ++ .ref ru :: rest)) rest (va_Qi (fun x (u : Unit) => x = nI (zasks k f) ∧ True) (fun _ t => dtB D (wcat [ruP ru k f]) H.size (wcat [ruP ru k f]) t) (va_A (wcat [ruP ru k f]) H.size) (Value.ref ru :: []).toArray) (va_A (wcat [ruP ru k f]) H.size) := by
  have hR1 := hR.1
  have hR2 := hR.2
  have hrec : ∀ (n : Nat) (r : vw_C), ciR k = n → vwCl[n]? = some r → ∃ cell : Cell, H[ru]? = some cell ∧ cell.vm.isStatics = false ∧ s.vm.findClass r.1 = some cell.cls := fun n r h h2 => va_recv G.2.2.2.2.1 (fr_left X.1) h2 (q0 := wpos [ruP ru k f] 0 + 0) (wcat_at rfl (ru_one h))
  rcases (show k = 0 ∨ k = 1 ∨ k = 2 ∨ k = 3 ∨ k = 4 ∨ k = 5 by omega) with rfl | rfl | rfl | rfl | rfl | rfl
  · exact run_V (As := []) (n := 0) (rm := _) G hml hts hl (hrec 6 _ rfl rfl) (k6_asksAtStart hE (by decide) _) (cwV 0 hts (cg_V ck_282 ck_396 ck_389 ck_397 ck_8) rfl rfl rfl (by decide +kernel) ⟨Nat.le_trans (by decide) hR1, Nat.le_trans (by decide) hR2⟩) rfl hrs hdg hf X
  · exact run_U (As := []) (n := 0) (C := RX1) (owner := "AskNext$Rule") (x := ⟨"AskNext$Rule", "asksAtStart", "()I"⟩) G hml hts hl (hrec 1 _ rfl rfl) (k1_asksAtStart hE (by decide) _) (va_cwO 0 hts (cg_O ck_47 ck_386 ck_387 ck_390 ck_391 ck_392 ck_145) rfl rfl rfl (List.mem_cons_of_mem _ ck_282) (by decide +kernel) ⟨Nat.le_trans (by decide) hR1, Nat.le_trans (by decide) hR2⟩) rfl hrs hdg hf X
  · exact run_U (As := []) (n := 0) (C := RX3) (owner := "AskNext$Rule") (x := ⟨"AskNext$Rule", "asksAtStart", "()I"⟩) G hml hts hl (hrec 3 _ rfl rfl) (k3_asksAtStart hE (by decide) _) (va_cwO 0 hts (cg_O ck_153 ck_386 ck_387 ck_390 ck_393 ck_394 ck_395) rfl rfl rfl (List.mem_cons_of_mem _ ck_282) (by decide +kernel) ⟨Nat.le_trans (by decide) hR1, Nat.le_trans (by decide) hR2⟩) rfl hrs hdg hf X
  · exact run_U (As := []) (n := 0) (C := RX7) (owner := "AskNext$Rule") (x := ⟨"AskNext$Rule", "asksAtStart", "()I"⟩) G hml hts hl (hrec 7 _ rfl rfl) (k6_asksAtStart hE (by decide) _) (va_cwU 0 hts (cg_U ck_282 ck_386 ck_387 ck_398 ck_389 ck_8) rfl rfl rfl rfl (by decide +kernel) ⟨Nat.le_trans (by decide) hR1, Nat.le_trans (by decide) hR2⟩) rfl hrs hdg hf X
  · exact run_U (As := []) (n := 0) (C := RX0) (owner := "AskNext$Rule") (x := ⟨"AskNext$Rule", "asksAtStart", "()I"⟩) G hml hts hl (hrec 0 _ rfl rfl) (k6_asksAtStart hE (by decide) _) (va_cwU 0 hts (cg_U ck_282 ck_386 ck_387 ck_388 ck_389 ck_8) rfl rfl rfl rfl (by decide +kernel) ⟨Nat.le_trans (by decide) hR1, Nat.le_trans (by decide) hR2⟩) rfl hrs hdg hf X
  · exact run_U (As := []) (n := 0) (C := RX9) (owner := "AskNext$Rule") (x := ⟨"AskNext$Rule", "asksAtStart", "()I"⟩) G hml hts hl (hrec 9 _ rfl rfl) (k6_asksAtStart hE (by decide) _) (va_cwU 0 hts (cg_U ck_282 ck_386 ck_387 ck_399 ck_389 ck_8) rfl rfl rfl rfl (by decide +kernel) ⟨Nat.le_trans (by decide) hR1, Nat.le_trans (by decide) hR2⟩) rfl hrs hdg hf X
set_option maxHeartbeats 4000000 in
theorem vr_10_toldWorld {p : Program} {l : Launch} {e : Env} {R : Room} {s : State} {m : MethodId} {args : Array Value} {below : List Frame} {meth : Method} {c : Code} {H : Heap} {locs : List Loc} {cells slots : Nat} {cc : ByteArray} {pc : Nat} {ls : Array Slot} {rest : List Value} {D : va_G} {A : Nat → Prop} {E : (Nat → Prop) → State → Heap → Prop} {Z : Nat → ClassId} {nL : Nat} {wf : va_W} {y0 : MethodName} {c0 : ByteArray} {m0 : Nat} {r0 : Option FieldType} {ru k f : Nat} (hE : cEok E) (G : cG E p c cc s m args D Z RX10 A) (hml : c.maxLocals = nL) (hts : ∀ w ∈ (Cond.code y0 c0 m0 r0 :: cW), w.before args s = true) (hl : ls.size = nL) (hk : k < 6)  (hrs : (rest.map fun v => v.category).sum ≤ 8) (hdg : decode cc pc = .ok (.invokevirtual 159, 3)) (hf : cells ≤ R.cells ∧ slots ≤ R.slots) (hR : 1 ≤ R.frames ∧ 20 ≤ R.locals) (X : wH D vwCl A s.heap H locs (wcat [ruP ru k f] ++ wf)) :
    va_Run p l e R s m args below meth c H locs cells slots 0 0 (F0 m pc ls ([].reverse ++ .ref ru :: rest)) rest (va_Qi (fun x (u : Unit) => x = nI (ztw k f) ∧ True) (fun _ t => dtB D (wcat [ruP ru k f]) H.size (wcat [ruP ru k f]) t) (va_A (wcat [ruP ru k f]) H.size) (Value.ref ru :: []).toArray) (va_A (wcat [ruP ru k f]) H.size) := by
  have hR1 := hR.1
  have hR2 := hR.2
  have hrec : ∀ (n : Nat) (r : vw_C), ciR k = n → vwCl[n]? = some r → ∃ cell : Cell, H[ru]? = some cell ∧ cell.vm.isStatics = false ∧ s.vm.findClass r.1 = some cell.cls := fun n r h h2 => va_recv G.2.2.2.2.1 (fr_left X.1) h2 (q0 := wpos [ruP ru k f] 0 + 0) (wcat_at rfl (ru_one h))
  rcases (show k = 0 ∨ k = 1 ∨ k = 2 ∨ k = 3 ∨ k = 4 ∨ k = 5 by omega) with rfl | rfl | rfl | rfl | rfl | rfl
  · exact run_V (As := []) (n := 0) (rm := _) G hml hts hl (hrec 6 _ rfl rfl) (k6_toldWorld hE (by decide) _) (cwV 0 hts (cg_V ck_284 ck_409 ck_406 ck_410 ck_8) rfl rfl rfl (by decide +kernel) ⟨Nat.le_trans (by decide) hR1, Nat.le_trans (by decide) hR2⟩) rfl hrs hdg hf X
  · exact run_U (As := []) (n := 0) (C := RX1) (owner := "AskNext$Rule") (x := ⟨"AskNext$Rule", "toldWorld", "()I"⟩) G hml hts hl (hrec 1 _ rfl rfl) (k6_toldWorld hE (by decide) _) (va_cwU 0 hts (cg_U ck_284 ck_403 ck_404 ck_407 ck_406 ck_8) rfl rfl rfl rfl (by decide +kernel) ⟨Nat.le_trans (by decide) hR1, Nat.le_trans (by decide) hR2⟩) rfl hrs hdg hf X
  · exact run_U (As := []) (n := 0) (C := RX3) (owner := "AskNext$Rule") (x := ⟨"AskNext$Rule", "toldWorld", "()I"⟩) G hml hts hl (hrec 3 _ rfl rfl) (k6_toldWorld hE (by decide) _) (va_cwU 0 hts (cg_U ck_284 ck_403 ck_404 ck_408 ck_406 ck_8) rfl rfl rfl rfl (by decide +kernel) ⟨Nat.le_trans (by decide) hR1, Nat.le_trans (by decide) hR2⟩) rfl hrs hdg hf X
  · exact run_U (As := []) (n := 0) (C := RX7) (owner := "AskNext$Rule") (x := ⟨"AskNext$Rule", "toldWorld", "()I"⟩) G hml hts hl (hrec 7 _ rfl rfl) (k6_toldWorld hE (by decide) _) (va_cwU 0 hts (cg_U ck_284 ck_403 ck_404 ck_411 ck_406 ck_8) rfl rfl rfl rfl (by decide +kernel) ⟨Nat.le_trans (by decide) hR1, Nat.le_trans (by decide) hR2⟩) rfl hrs hdg hf X
  · exact run_U (As := []) (n := 0) (C := RX0) (owner := "AskNext$Rule") (x := ⟨"AskNext$Rule", "toldWorld", "()I"⟩) G hml hts hl (hrec 0 _ rfl rfl) (k6_toldWorld hE (by decide) _) (va_cwU 0 hts (cg_U ck_284 ck_403 ck_404 ck_405 ck_406 ck_8) rfl rfl rfl rfl (by decide +kernel) ⟨Nat.le_trans (by decide) hR1, Nat.le_trans (by decide) hR2⟩) rfl hrs hdg hf X
  · exact run_U (As := []) (n := 0) (C := RX9) (owner := "AskNext$Rule") (x := ⟨"AskNext$Rule", "toldWorld", "()I"⟩) G hml hts hl (hrec 9 _ rfl rfl) (k9_toldWorld hE (by decide) _) (va_cwO 0 hts (cg_O ck_335 ck_403 ck_404 ck_412 ck_413 ck_414 ck_415) rfl rfl rfl (List.mem_cons_of_mem _ ck_284) (by decide +kernel) ⟨Nat.le_trans (by decide) hR1, Nat.le_trans (by decide) hR2⟩) rfl hrs hdg hf X
