set_option maxHeartbeats 4000000 in
set_option maxRecDepth 100000 in
theorem k2_hasRoad {E : (Nat → Prop) → State → Heap → Prop} (hE : cEok E) {l : Launch} {D : va_G} {Z : Nat → ClassId} {La : LA} {τ : MS} (x : Int32) (hok : mOk τ) : dtI E l D Z yX2_hasRoad (Cond.code yX2_hasRoad cX2_hasRoad 2 (some .boolean) :: cW) { frames := 0, cells := 0, slots := 0, locals := 0 } [.ref La.1, .int x] (wcat [landP Z La τ]) (S := Unit) (fun _ => wcat [landP Z La τ]) (fun _ => if zir x (τ.1 0) then 1 else 0) (fun _ => True) := by
  refine dtZ_of hE (cc := cX2_hasRoad) (maxL := 2) (hnar := fun _ _ => zb_ite) (by decide +kernel) (fun w h => List.mem_cons_of_mem _ h) (Nat.le_of_ble_eq_true rfl) ?_
  intro p e s m args below meth c A Q ls hx hb hml hown hts G X hl fin
  replace hl : lv_has ls 2 [(0, .ref La.1), (1, .int x)] := hl
  obtain ⟨k0, k4, k8, kr, kw, ks, kmet, kmt, k12, k13⟩ := id hok
  refine lv_iload_n hx hb dX2_hasRoad_0 rfl (lv_at hl 1 rfl) ?_
  refine lv_if_lt (tgt := 16) hx hb dX2_hasRoad_1 (by decide) (fun c_1 => ?_) (fun c_1 => ?_)
  ·
    refine lv_iconst (v := nI 0) hx hb dX2_hasRoad_16 (by decide) ?_
    exact cfin_I (()) (trivial) (rfl) (by first | exact zb_t (zir_t (by omega) c_1 c_9) | exact zb_f (zir_f1 c_1) | exact zb_f (zir_f2 (by omega) c_9)) X dX2_hasRoad_17 fin
  ·
    refine lv_iload_n hx hb dX2_hasRoad_4 rfl (lv_at hl 1 rfl) ?_
    refine lv_aload_n hx hb dX2_hasRoad_5 rfl (lv_at hl 0 rfl) ?_
    refine cg_2 G X 0 0 rfl rfl 0 (by decide) (G.2.2.2.1 _ ck_51) rfl rfl dX2_hasRoad_6 ?_
    refine lv_icmp_ge (tgt := 16) hx hb dX2_hasRoad_9 (by decide) (fun c_9 => ?_) (fun c_9 => ?_)
    ·
      refine lv_iconst (v := nI 0) hx hb dX2_hasRoad_16 (by decide) ?_
      exact cfin_I (()) (trivial) (rfl) (by first | exact zb_t (zir_t (by omega) c_1 c_9) | exact zb_f (zir_f1 c_1) | exact zb_f (zir_f2 (by omega) c_9)) X dX2_hasRoad_17 fin
    ·
      refine lv_iconst (v := nI 1) hx hb dX2_hasRoad_12 (by decide) ?_
      refine lv_goto (tgt := 17) hx hb dX2_hasRoad_13 (by decide) ?_
      exact cfin_I (()) (trivial) (rfl) (by first | exact zb_t (zir_t (by omega) c_1 c_9) | exact zb_f (zir_f1 c_1) | exact zb_f (zir_f2 (by omega) c_9)) X dX2_hasRoad_17 fin
set_option maxHeartbeats 4000000 in
set_option maxRecDepth 100000 in
theorem k2_hasWorld {E : (Nat → Prop) → State → Heap → Prop} (hE : cEok E) {l : Launch} {D : va_G} {Z : Nat → ClassId} {La : LA} {τ : MS} (x : Int32) (hok : mOk τ) : dtI E l D Z yX2_hasWorld (Cond.code yX2_hasWorld cX2_hasWorld 2 (some .boolean) :: cW) { frames := 0, cells := 0, slots := 0, locals := 0 } [.ref La.1, .int x] (wcat [landP Z La τ]) (S := Unit) (fun _ => wcat [landP Z La τ]) (fun _ => if zir x (τ.1 4) then 1 else 0) (fun _ => True) := by
  refine dtZ_of hE (cc := cX2_hasWorld) (maxL := 2) (hnar := fun _ _ => zb_ite) (by decide +kernel) (fun w h => List.mem_cons_of_mem _ h) (Nat.le_of_ble_eq_true rfl) ?_
  intro p e s m args below meth c A Q ls hx hb hml hown hts G X hl fin
  replace hl : lv_has ls 2 [(0, .ref La.1), (1, .int x)] := hl
  obtain ⟨k0, k4, k8, kr, kw, ks, kmet, kmt, k12, k13⟩ := id hok
  refine lv_iload_n hx hb dX2_hasWorld_0 rfl (lv_at hl 1 rfl) ?_
  refine lv_if_lt (tgt := 16) hx hb dX2_hasWorld_1 (by decide) (fun c_1 => ?_) (fun c_1 => ?_)
  ·
    refine lv_iconst (v := nI 0) hx hb dX2_hasWorld_16 (by decide) ?_
    exact cfin_I (()) (trivial) (rfl) (by first | exact zb_t (zir_t (by omega) c_1 c_9) | exact zb_f (zir_f1 c_1) | exact zb_f (zir_f2 (by omega) c_9)) X dX2_hasWorld_17 fin
  ·
    refine lv_iload_n hx hb dX2_hasWorld_4 rfl (lv_at hl 1 rfl) ?_
    refine lv_aload_n hx hb dX2_hasWorld_5 rfl (lv_at hl 0 rfl) ?_
    refine cg_2 G X 0 0 rfl rfl 4 (by decide) (G.2.2.2.1 _ ck_56) rfl rfl dX2_hasWorld_6 ?_
    refine lv_icmp_ge (tgt := 16) hx hb dX2_hasWorld_9 (by decide) (fun c_9 => ?_) (fun c_9 => ?_)
    ·
      refine lv_iconst (v := nI 0) hx hb dX2_hasWorld_16 (by decide) ?_
      exact cfin_I (()) (trivial) (rfl) (by first | exact zb_t (zir_t (by omega) c_1 c_9) | exact zb_f (zir_f1 c_1) | exact zb_f (zir_f2 (by omega) c_9)) X dX2_hasWorld_17 fin
    ·
      refine lv_iconst (v := nI 1) hx hb dX2_hasWorld_12 (by decide) ?_
      refine lv_goto (tgt := 17) hx hb dX2_hasWorld_13 (by decide) ?_
      exact cfin_I (()) (trivial) (rfl) (by first | exact zb_t (zir_t (by omega) c_1 c_9) | exact zb_f (zir_f1 c_1) | exact zb_f (zir_f2 (by omega) c_9)) X dX2_hasWorld_17 fin
set_option maxHeartbeats 4000000 in
set_option maxRecDepth 100000 in
theorem k2_hasSort {E : (Nat → Prop) → State → Heap → Prop} (hE : cEok E) {l : Launch} {D : va_G} {Z : Nat → ClassId} {La : LA} {τ : MS} (x : Int32) (hok : mOk τ) : dtI E l D Z yX2_hasSort (Cond.code yX2_hasSort cX2_hasSort 2 (some .boolean) :: cW) { frames := 0, cells := 0, slots := 0, locals := 0 } [.ref La.1, .int x] (wcat [landP Z La τ]) (S := Unit) (fun _ => wcat [landP Z La τ]) (fun _ => if zir x (τ.1 8) then 1 else 0) (fun _ => True) := by
  refine dtZ_of hE (cc := cX2_hasSort) (maxL := 2) (hnar := fun _ _ => zb_ite) (by decide +kernel) (fun w h => List.mem_cons_of_mem _ h) (Nat.le_of_ble_eq_true rfl) ?_
  intro p e s m args below meth c A Q ls hx hb hml hown hts G X hl fin
  replace hl : lv_has ls 2 [(0, .ref La.1), (1, .int x)] := hl
  obtain ⟨k0, k4, k8, kr, kw, ks, kmet, kmt, k12, k13⟩ := id hok
  refine lv_iload_n hx hb dX2_hasSort_0 rfl (lv_at hl 1 rfl) ?_
  refine lv_if_lt (tgt := 16) hx hb dX2_hasSort_1 (by decide) (fun c_1 => ?_) (fun c_1 => ?_)
  ·
    refine lv_iconst (v := nI 0) hx hb dX2_hasSort_16 (by decide) ?_
    exact cfin_I (()) (trivial) (rfl) (by first | exact zb_t (zir_t (by omega) c_1 c_9) | exact zb_f (zir_f1 c_1) | exact zb_f (zir_f2 (by omega) c_9)) X dX2_hasSort_17 fin
  ·
    refine lv_iload_n hx hb dX2_hasSort_4 rfl (lv_at hl 1 rfl) ?_
    refine lv_aload_n hx hb dX2_hasSort_5 rfl (lv_at hl 0 rfl) ?_
    refine cg_2 G X 0 0 rfl rfl 8 (by decide) (G.2.2.2.1 _ ck_60) rfl rfl dX2_hasSort_6 ?_
    refine lv_icmp_ge (tgt := 16) hx hb dX2_hasSort_9 (by decide) (fun c_9 => ?_) (fun c_9 => ?_)
    ·
      refine lv_iconst (v := nI 0) hx hb dX2_hasSort_16 (by decide) ?_
      exact cfin_I (()) (trivial) (rfl) (by first | exact zb_t (zir_t (by omega) c_1 c_9) | exact zb_f (zir_f1 c_1) | exact zb_f (zir_f2 (by omega) c_9)) X dX2_hasSort_17 fin
    ·
      refine lv_iconst (v := nI 1) hx hb dX2_hasSort_12 (by decide) ?_
      refine lv_goto (tgt := 17) hx hb dX2_hasSort_13 (by decide) ?_
      exact cfin_I (()) (trivial) (rfl) (by first | exact zb_t (zir_t (by omega) c_1 c_9) | exact zb_f (zir_f1 c_1) | exact zb_f (zir_f2 (by omega) c_9)) X dX2_hasSort_17 fin
set_option maxHeartbeats 4000000 in
set_option maxRecDepth 100000 in
theorem k2_chancesTogether {E : (Nat → Prop) → State → Heap → Prop} (hE : cEok E) {l : Launch} {D : va_G} {Z : Nat → ClassId} {La : LA} {τ : MS} (hok : mOk τ) : dtI E l D Z yX2_chancesTogether (Cond.code yX2_chancesTogether cX2_chancesTogether 3 (some .int) :: cW) { frames := 0, cells := 0, slots := 0, locals := 0 } [.ref La.1] (wcat [landP Z La τ]) (S := Unit) (fun _ => wcat [landP Z La τ]) (fun _ => nI (zsum (τ.2 5) (τ.1 4))) (fun _ => True) := by
  refine dtI_of hE (cc := cX2_chancesTogether) (maxL := 3) (by decide +kernel) (fun w h => List.mem_cons_of_mem _ h) (Nat.le_of_ble_eq_true rfl) ?_
  intro p e s m args below meth c A Q ls hx hb hml hown hts G X hl fin
  replace hl : lv_has ls 3 [(0, .ref La.1)] := hl
  obtain ⟨k0, k4, k8, kr, kw, ks, kmet, kmt, k12, k13⟩ := id hok
  refine lv_iconst (v := nI 0) hx hb dX2_chancesTogether_0 (by decide) ?_
  refine lv_istore_n (lv' := [(1, .int (nI 0)), (0, .ref La.1)]) hx hb dX2_chancesTogether_1 rfl hl (by decide) rfl (fun ls hl => ?_)
  refine lv_iconst (v := nI 0) hx hb dX2_chancesTogether_2 (by decide) ?_
  refine lv_istore_n (lv' := [(2, .int (nI 0)), (1, .int (nI 0)), (0, .ref La.1)]) hx hb dX2_chancesTogether_3 rfl hl (by decide) rfl (fun ls hl => ?_)
  have cut_4 : ∀ (NN : Nat) (w1 : Nat) (h1 : w1 ≤ τ.1 4), τ.1 4 - w1 < NN → ∀ (H : Heap) (locs : List Loc) (ls : Array Slot), wH D vwCl A s.heap H locs (wcat [landP Z La τ]) → lv_has ls 3 [(0, .ref La.1), (1, .int (nI (zsum (τ.2 5) w1))), (2, .int (nI w1))] → W p l e { frames := 0, cells := 0, slots := 0, locals := 0 } s m args below meth c H locs 0 0 Q (F0 m 4 ls []) := by
    intro NN
    induction NN with
    | zero => intro w1 h1 hNN; exact absurd hNN (Nat.not_lt_zero _)
    | succ NN ih_4 =>
      intro w1 h1 hNN H locs ls X hl
      refine lv_iload_n hx hb dX2_chancesTogether_4 rfl (lv_at hl 2 rfl) ?_
      refine lv_aload_n hx hb dX2_chancesTogether_5 rfl (lv_at hl 0 rfl) ?_
      refine cg_2 G X 0 0 rfl rfl 4 (by decide) (G.2.2.2.1 _ ck_56) rfl rfl dX2_chancesTogether_6 ?_
      refine gn_icmp_ge (tgt := 27) hx hb dX2_chancesTogether_9 (by decide) (by omega) (by omega) (fun c_9 => ?_) (fun c_9 => ?_)
      ·
        refine lv_iload_n hx hb dX2_chancesTogether_27 rfl (lv_at hl 1 rfl) ?_
        exact cfin_I (()) (trivial) (rfl) (by rw [show w1 = τ.1 4 by omega]) X dX2_chancesTogether_28 fin
      ·
        refine lv_iload_n hx hb dX2_chancesTogether_12 rfl (lv_at hl 1 rfl) ?_
        refine lv_aload_n hx hb dX2_chancesTogether_13 rfl (lv_at hl 0 rfl) ?_
        refine cg_2 G X 0 0 rfl rfl 5 (by decide) (G.2.2.2.1 _ ck_57) rfl rfl dX2_chancesTogether_14 ?_
        refine lv_iload_n hx hb dX2_chancesTogether_17 rfl (lv_at hl 2 rfl) ?_
        refine cr_iald G X 0 4 rfl rfl (by omega) (by decide) dX2_chancesTogether_18 ?_
        refine gi_eq (a := (τ.2 5 w1)) (zcl_in (by omega)) ?_
        refine gn_iadd hx hb dX2_chancesTogether_19  ?_
        refine lv_istore_n (lv' := [(1, .int (nI ((zsum (τ.2 5) w1) + (τ.2 5 w1)))), (0, .ref La.1), (2, .int (nI w1))]) hx hb dX2_chancesTogether_20 rfl hl (by decide) rfl (fun ls hl => ?_)
        refine lv_iinc (v := nI (w1 + 1)) (lv' := [(2, .int (nI (w1 + 1))), (1, .int (nI ((zsum (τ.2 5) w1) + (τ.2 5 w1)))), (0, .ref La.1)]) hx hb dX2_chancesTogether_21 hl (k := 2) rfl (zn_inc _) (by decide) rfl (fun ls hl => ?_)
        refine lv_goto (tgt := 4) hx hb dX2_chancesTogether_24 (by decide) ?_
        refine ih_4 (w1 + 1) (by omega) (by omega) _ _ _ (by exact X) (by exact lv_sub hl [2, 1, 0] rfl)
  refine cut_4 _ 0 (Nat.zero_le _) (Nat.lt_succ_self _) _ _ _ (by exact X) (by exact lv_sub hl [2, 1, 0] rfl)
set_option maxHeartbeats 4000000 in
set_option maxRecDepth 100000 in
theorem k2_minutesTogether {E : (Nat → Prop) → State → Heap → Prop} (hE : cEok E) {l : Launch} {D : va_G} {Z : Nat → ClassId} {La : LA} {τ : MS} (hok : mOk τ) : dtI E l D Z yX2_minutesTogether (Cond.code yX2_minutesTogether cX2_minutesTogether 3 (some .int) :: cW) { frames := 0, cells := 0, slots := 0, locals := 0 } [.ref La.1] (wcat [landP Z La τ]) (S := Unit) (fun _ => wcat [landP Z La τ]) (fun _ => nI (zsum (τ.2 3) (τ.1 0))) (fun _ => True) := by
  refine dtI_of hE (cc := cX2_minutesTogether) (maxL := 3) (by decide +kernel) (fun w h => List.mem_cons_of_mem _ h) (Nat.le_of_ble_eq_true rfl) ?_
  intro p e s m args below meth c A Q ls hx hb hml hown hts G X hl fin
  replace hl : lv_has ls 3 [(0, .ref La.1)] := hl
  obtain ⟨k0, k4, k8, kr, kw, ks, kmet, kmt, k12, k13⟩ := id hok
  refine lv_iconst (v := nI 0) hx hb dX2_minutesTogether_0 (by decide) ?_
  refine lv_istore_n (lv' := [(1, .int (nI 0)), (0, .ref La.1)]) hx hb dX2_minutesTogether_1 rfl hl (by decide) rfl (fun ls hl => ?_)
  refine lv_iconst (v := nI 0) hx hb dX2_minutesTogether_2 (by decide) ?_
  refine lv_istore_n (lv' := [(2, .int (nI 0)), (1, .int (nI 0)), (0, .ref La.1)]) hx hb dX2_minutesTogether_3 rfl hl (by decide) rfl (fun ls hl => ?_)
  have cut_4 : ∀ (NN : Nat) (w1 : Nat) (h1 : w1 ≤ τ.1 0), τ.1 0 - w1 < NN → ∀ (H : Heap) (locs : List Loc) (ls : Array Slot), wH D vwCl A s.heap H locs (wcat [landP Z La τ]) → lv_has ls 3 [(0, .ref La.1), (1, .int (nI (zsum (τ.2 3) w1))), (2, .int (nI w1))] → W p l e { frames := 0, cells := 0, slots := 0, locals := 0 } s m args below meth c H locs 0 0 Q (F0 m 4 ls []) := by
    intro NN
    induction NN with
    | zero => intro w1 h1 hNN; exact absurd hNN (Nat.not_lt_zero _)
    | succ NN ih_4 =>
      intro w1 h1 hNN H locs ls X hl
      refine lv_iload_n hx hb dX2_minutesTogether_4 rfl (lv_at hl 2 rfl) ?_
      refine lv_aload_n hx hb dX2_minutesTogether_5 rfl (lv_at hl 0 rfl) ?_
      refine cg_2 G X 0 0 rfl rfl 0 (by decide) (G.2.2.2.1 _ ck_51) rfl rfl dX2_minutesTogether_6 ?_
      refine gn_icmp_ge (tgt := 27) hx hb dX2_minutesTogether_9 (by decide) (by omega) (by omega) (fun c_9 => ?_) (fun c_9 => ?_)
      ·
        refine lv_iload_n hx hb dX2_minutesTogether_27 rfl (lv_at hl 1 rfl) ?_
        exact cfin_I (()) (trivial) (rfl) (by rw [show w1 = τ.1 0 by omega]) X dX2_minutesTogether_28 fin
      ·
        refine lv_iload_n hx hb dX2_minutesTogether_12 rfl (lv_at hl 1 rfl) ?_
        refine lv_aload_n hx hb dX2_minutesTogether_13 rfl (lv_at hl 0 rfl) ?_
        refine cg_2 G X 0 0 rfl rfl 3 (by decide) (G.2.2.2.1 _ ck_55) rfl rfl dX2_minutesTogether_14 ?_
        refine lv_iload_n hx hb dX2_minutesTogether_17 rfl (lv_at hl 2 rfl) ?_
        refine cr_iald G X 0 3 rfl rfl (by omega) (by decide) dX2_minutesTogether_18 ?_
        refine gi_eq (a := (τ.2 3 w1)) (zcl_in (by omega)) ?_
        refine gn_iadd hx hb dX2_minutesTogether_19  ?_
        refine lv_istore_n (lv' := [(1, .int (nI ((zsum (τ.2 3) w1) + (τ.2 3 w1)))), (0, .ref La.1), (2, .int (nI w1))]) hx hb dX2_minutesTogether_20 rfl hl (by decide) rfl (fun ls hl => ?_)
        refine lv_iinc (v := nI (w1 + 1)) (lv' := [(2, .int (nI (w1 + 1))), (1, .int (nI ((zsum (τ.2 3) w1) + (τ.2 3 w1)))), (0, .ref La.1)]) hx hb dX2_minutesTogether_21 hl (k := 2) rfl (zn_inc _) (by decide) rfl (fun ls hl => ?_)
        refine lv_goto (tgt := 4) hx hb dX2_minutesTogether_24 (by decide) ?_
        refine ih_4 (w1 + 1) (by omega) (by omega) _ _ _ (by exact X) (by exact lv_sub hl [2, 1, 0] rfl)
  refine cut_4 _ 0 (Nat.zero_le _) (Nat.lt_succ_self _) _ _ _ (by exact X) (by exact lv_sub hl [2, 1, 0] rfl)
set_option maxHeartbeats 4000000 in
set_option maxRecDepth 100000 in
theorem k2_isReady {E : (Nat → Prop) → State → Heap → Prop} (hE : cEok E) {l : Launch} {D : va_G} {Z : Nat → ClassId} {La : LA} {τ : MS} (hok : mOk τ) : dtI E l D Z yX2_isReady (Cond.code yX2_isReady cX2_isReady 1 (some .boolean) :: cW) { frames := 1, cells := 0, slots := 0, locals := 22 } [.ref La.1] (wcat [landP Z La τ]) (S := Unit) (fun _ => wcat [landP Z La τ]) (fun _ => if zready τ then 1 else 0) (fun _ => True) := by
  refine dtZ_of hE (cc := cX2_isReady) (maxL := 1) (hnar := fun _ _ => zb_ite) (by decide +kernel) (fun w h => List.mem_cons_of_mem _ h) (Nat.le_of_ble_eq_true rfl) ?_
  intro p e s m args below meth c A Q ls hx hb hml hown hts G X hl fin
  replace hl : lv_has ls 1 [(0, .ref La.1)] := hl
  obtain ⟨k0, k4, k8, kr, kw, ks, kmet, kmt, k12, k13⟩ := id hok
  have hsum := zsum_le (f := τ.2 5) (b := 100) (τ.1 4) (fun k hk => (kw k hk).2.1)
  refine lv_aload_n hx hb dX2_isReady_0 rfl (lv_at hl 0 rfl) ?_
  refine dtI_go (w := wcat [landP Z La τ]) (wf := wcat []) (W1 := fun _ => wcat [landP Z La τ]) G X (wsel [0] rfl rfl) (run_V (As := []) (rest := []) (n := 0) G hml hts hl.1 (p_recv G X 0 0 rfl rfl rfl) (k2_chancesTogether hE hok _) (cwV 0 hts (cg_V ck_74 ck_76 ck_77 ck_78 ck_79) rfl rfl rfl (by decide +kernel) ⟨Nat.le_of_ble_eq_true rfl, Nat.le_of_ble_eq_true rfl⟩) rfl (Nat.le_of_ble_eq_true rfl) dX2_isReady_1 ⟨Nat.le_refl _, Nat.le_refl _⟩) (fun _ => wback [0] rfl rfl) (fun H locs _ _ X => ?_)
  refine lv_bipush (v := nI 100) hx hb dX2_isReady_4 (by decide) ?_
  refine gn_icmp_ne (tgt := 13) hx hb dX2_isReady_6 (by decide) (by omega) (by omega) (fun c_6 => ?_) (fun c_6 => ?_)
  ·
    refine lv_iconst (v := nI 0) hx hb dX2_isReady_13 (by decide) ?_
    exact cfin_I (()) (trivial) (rfl) (by first | exact zb_f c_6 | exact zb_t c_6) X dX2_isReady_14 fin
  ·
    refine lv_iconst (v := nI 1) hx hb dX2_isReady_9 (by decide) ?_
    refine lv_goto (tgt := 14) hx hb dX2_isReady_10 (by decide) ?_
    exact cfin_I (()) (trivial) (rfl) (by first | exact zb_f c_6 | exact zb_t c_6) X dX2_isReady_14 fin
set_option maxHeartbeats 4000000 in
set_option maxRecDepth 100000 in
theorem k2_isShut {E : (Nat → Prop) → State → Heap → Prop} (hE : cEok E) {l : Launch} {D : va_G} {Z : Nat → ClassId} {La : LA} {τ : MS} (xw : Nat) (xr : Nat) (h1 : xw < 5) (h2 : xr < 32) (h3 : τ.2 7 xw < 2147483648) : dtI E l D Z yX2_isShut (Cond.code yX2_isShut cX2_isShut 3 (some .boolean) :: cW) { frames := 0, cells := 0, slots := 0, locals := 0 } [.ref La.1, .int (nI xw), .int (nI xr)] (wcat [landP Z La τ]) (S := Unit) (fun _ => wcat [landP Z La τ]) (fun _ => if zshut τ xw xr then 1 else 0) (fun _ => True) := by
  refine dtZ_of hE (cc := cX2_isShut) (maxL := 3) (hnar := fun _ _ => zb_ite) (by decide +kernel) (fun w h => List.mem_cons_of_mem _ h) (Nat.le_of_ble_eq_true rfl) ?_
  intro p e s m args below meth c A Q ls hx hb hml hown hts G X hl fin
  replace hl : lv_has ls 3 [(0, .ref La.1), (1, .int (nI xw)), (2, .int (nI xr))] := hl
  refine lv_aload_n hx hb dX2_isShut_0 rfl (lv_at hl 0 rfl) ?_
  refine cg_2 G X 0 0 rfl rfl 7 (by decide) (G.2.2.2.1 _ ck_59) rfl rfl dX2_isShut_1 ?_
  refine lv_iload_n hx hb dX2_isShut_4 rfl (lv_at hl 1 rfl) ?_
  refine cr_iald G X 0 6 rfl rfl (by omega) (by decide) dX2_isShut_5 ?_
  refine gi_eq (a := (τ.2 7 xw)) (zcl_in (by omega)) ?_
  refine lv_iload_n hx hb dX2_isShut_6 rfl (lv_at hl 2 rfl) ?_
  refine lv_ishr hx hb dX2_isShut_7 ?_
  refine gi_to (a := (τ.2 7 xw) / 2 ^ xr) (zshr (by omega) (by omega)) ?_
  refine lv_iconst (v := nI 1) hx hb dX2_isShut_8 (by decide) ?_
  refine lv_iand hx hb dX2_isShut_9 ?_
  refine gi_to (a := ((τ.2 7 xw) / 2 ^ xr) % 2) (zand _ 1 (by decide) (by decide)) ?_
  refine gn_if_eq (tgt := 17) hx hb dX2_isShut_10 (by decide) (by omega) (fun c_10 => ?_) (fun c_10 => ?_)
  ·
    refine lv_iconst (v := nI 0) hx hb dX2_isShut_17 (by decide) ?_
    exact cfin_I (()) (trivial) (rfl) (by first | exact zb_f (by show ¬ (_ = 1); omega) | exact zb_t (by show _ = 1; omega)) X dX2_isShut_18 fin
  ·
    refine lv_iconst (v := nI 1) hx hb dX2_isShut_13 (by decide) ?_
    refine lv_goto (tgt := 18) hx hb dX2_isShut_14 (by decide) ?_
    exact cfin_I (()) (trivial) (rfl) (by first | exact zb_f (by show ¬ (_ = 1); omega) | exact zb_t (by show _ = 1; omega)) X dX2_isShut_18 fin
set_option maxHeartbeats 4000000 in
set_option maxRecDepth 100000 in
theorem k2_otherEnd {E : (Nat → Prop) → State → Heap → Prop} (hE : cEok E) {l : Launch} {D : va_G} {Z : Nat → ClassId} {La : LA} {τ : MS} (xr : Nat) (xc : Nat) (h1 : xr < 16) (h2 : τ.2 1 xr < 4294967296) (h3 : xc < 4294967296) : dtI E l D Z yX2_otherEnd (Cond.code yX2_otherEnd cX2_otherEnd 3 (some .int) :: cW) { frames := 0, cells := 0, slots := 0, locals := 0 } [.ref La.1, .int (nI xr), .int (nI xc)] (wcat [landP Z La τ]) (S := Unit) (fun _ => wcat [landP Z La τ]) (fun _ => nI (if τ.2 1 xr = xc then τ.2 2 xr else τ.2 1 xr)) (fun _ => True) := by
  refine dtI_of hE (cc := cX2_otherEnd) (maxL := 3) (by decide +kernel) (fun w h => List.mem_cons_of_mem _ h) (Nat.le_of_ble_eq_true rfl) ?_
  intro p e s m args below meth c A Q ls hx hb hml hown hts G X hl fin
  replace hl : lv_has ls 3 [(0, .ref La.1), (1, .int (nI xr)), (2, .int (nI xc))] := hl
  refine lv_aload_n hx hb dX2_otherEnd_0 rfl (lv_at hl 0 rfl) ?_
  refine cg_2 G X 0 0 rfl rfl 1 (by decide) (G.2.2.2.1 _ ck_53) rfl rfl dX2_otherEnd_1 ?_
  refine lv_iload_n hx hb dX2_otherEnd_4 rfl (lv_at hl 1 rfl) ?_
  refine cr_iald G X 0 1 rfl rfl (by omega) (by decide) dX2_otherEnd_5 ?_
  refine gi_eq (a := (τ.2 1 xr)) (zcl_in (by omega)) ?_
  refine lv_iload_n hx hb dX2_otherEnd_6 rfl (lv_at hl 2 rfl) ?_
  refine gn_icmp_ne (tgt := 19) hx hb dX2_otherEnd_7 (by decide) (by omega) (by omega) (fun c_7 => ?_) (fun c_7 => ?_)
  ·
    refine lv_aload_n hx hb dX2_otherEnd_19 rfl (lv_at hl 0 rfl) ?_
    refine cg_2 G X 0 0 rfl rfl 1 (by decide) (G.2.2.2.1 _ ck_53) rfl rfl dX2_otherEnd_20 ?_
    refine lv_iload_n hx hb dX2_otherEnd_23 rfl (lv_at hl 1 rfl) ?_
    refine cr_iald G X 0 1 rfl rfl (by omega) (by decide) dX2_otherEnd_24 ?_
    refine gi_eq (a := (τ.2 1 xr)) (zcl_in (by omega)) ?_
    exact cfin_I (()) (trivial) (rfl) (by first | rw [if_neg c_7] | rw [if_pos c_7]) X dX2_otherEnd_25 fin
  ·
    refine lv_aload_n hx hb dX2_otherEnd_10 rfl (lv_at hl 0 rfl) ?_
    refine cg_2 G X 0 0 rfl rfl 2 (by decide) (G.2.2.2.1 _ ck_54) rfl rfl dX2_otherEnd_11 ?_
    refine lv_iload_n hx hb dX2_otherEnd_14 rfl (lv_at hl 1 rfl) ?_
    refine cr_iald G X 0 2 rfl rfl (by omega) (by decide) dX2_otherEnd_15 ?_
    refine gi_eq (a := (τ.2 2 xr)) (zcl_in (by omega)) ?_
    refine lv_goto (tgt := 25) hx hb dX2_otherEnd_16 (by decide) ?_
    exact cfin_I (()) (trivial) (rfl) (by first | rw [if_neg c_7] | rw [if_pos c_7]) X dX2_otherEnd_25 fin
set_option maxHeartbeats 4000000 in
set_option maxRecDepth 100000 in
theorem k2_metTogether {E : (Nat → Prop) → State → Heap → Prop} (hE : cEok E) {l : Launch} {D : va_G} {Z : Nat → ClassId} {La : LA} {τ : MS} (xc : Nat) (hok : mOk τ) (hc : xc < 8) : dtI E l D Z yX2_metTogether (Cond.code yX2_metTogether cX2_metTogether 4 (some .int) :: cW) { frames := 0, cells := 0, slots := 0, locals := 0 } [.ref La.1, .int (nI xc)] (wcat [landP Z La τ]) (S := Unit) (fun _ => wcat [landP Z La τ]) (fun _ => nI (zsum (fun s => τ.2 11 (6 * xc + s)) (τ.1 8))) (fun _ => True) := by
  refine dtI_of hE (cc := cX2_metTogether) (maxL := 4) (by decide +kernel) (fun w h => List.mem_cons_of_mem _ h) (Nat.le_of_ble_eq_true rfl) ?_
  intro p e s m args below meth c A Q ls hx hb hml hown hts G X hl fin
  replace hl : lv_has ls 4 [(0, .ref La.1), (1, .int (nI xc))] := hl
  obtain ⟨k0, k4, k8, kr, kw, ks, kmet, kmt, k12, k13⟩ := id hok
  refine lv_iconst (v := nI 0) hx hb dX2_metTogether_0 (by decide) ?_
  refine lv_istore_n (lv' := [(2, .int (nI 0)), (0, .ref La.1), (1, .int (nI xc))]) hx hb dX2_metTogether_1 rfl hl (by decide) rfl (fun ls hl => ?_)
  refine lv_iconst (v := nI 0) hx hb dX2_metTogether_2 (by decide) ?_
  refine lv_istore_n (lv' := [(3, .int (nI 0)), (2, .int (nI 0)), (0, .ref La.1), (1, .int (nI xc))]) hx hb dX2_metTogether_3 rfl hl (by decide) rfl (fun ls hl => ?_)
  have cut_4 : ∀ (NN : Nat) (w1 : Nat) (h1 : w1 ≤ τ.1 8), τ.1 8 - w1 < NN → ∀ (H : Heap) (locs : List Loc) (ls : Array Slot), wH D vwCl A s.heap H locs (wcat [landP Z La τ]) → lv_has ls 4 [(0, .ref La.1), (1, .int (nI xc)), (2, .int (nI (zsum (fun s => τ.2 11 (6 * xc + s)) w1))), (3, .int (nI w1))] → W p l e { frames := 0, cells := 0, slots := 0, locals := 0 } s m args below meth c H locs 0 0 Q (F0 m 4 ls []) := by
    intro NN
    induction NN with
    | zero => intro w1 h1 hNN; exact absurd hNN (Nat.not_lt_zero _)
    | succ NN ih_4 =>
      intro w1 h1 hNN H locs ls X hl
      refine lv_iload_n hx hb dX2_metTogether_4 rfl (lv_at hl 3 rfl) ?_
      refine lv_aload_n hx hb dX2_metTogether_5 rfl (lv_at hl 0 rfl) ?_
      refine cg_2 G X 0 0 rfl rfl 8 (by decide) (G.2.2.2.1 _ ck_60) rfl rfl dX2_metTogether_6 ?_
      refine gn_icmp_ge (tgt := 29) hx hb dX2_metTogether_9 (by decide) (by omega) (by omega) (fun c_9 => ?_) (fun c_9 => ?_)
      ·
        refine lv_iload_n hx hb dX2_metTogether_29 rfl (lv_at hl 2 rfl) ?_
        exact cfin_I (()) (trivial) (rfl) (by rw [show w1 = τ.1 8 by omega]) X dX2_metTogether_30 fin
      ·
        refine lv_iload_n hx hb dX2_metTogether_12 rfl (lv_at hl 2 rfl) ?_
        refine lv_aload_n hx hb dX2_metTogether_13 rfl (lv_at hl 0 rfl) ?_
        refine cg_2 G X 0 0 rfl rfl 11 (by decide) (G.2.2.2.1 _ ck_64) rfl rfl dX2_metTogether_14 ?_
        refine lv_iload_n hx hb dX2_metTogether_17 rfl (lv_at hl 1 rfl) ?_
        refine cr_aald G X 0 10 rfl rfl (by omega) (by decide) (if_pos (by omega)) dX2_metTogether_18 ?_
        refine lv_iload_n hx hb dX2_metTogether_19 rfl (lv_at hl 3 rfl) ?_
        refine cr_iald G X 0 (xc + 14) rfl (landP_r11 (by omega)) (by omega) (by decide) dX2_metTogether_20 ?_
        refine gi_eq (a := (τ.2 11 (6 * xc + w1))) (zrow_in (by omega)) ?_
        refine gn_iadd hx hb dX2_metTogether_21  ?_
        refine lv_istore_n (lv' := [(2, .int (nI ((zsum (fun s => τ.2 11 (6 * xc + s)) w1) + (τ.2 11 (6 * xc + w1))))), (0, .ref La.1), (1, .int (nI xc)), (3, .int (nI w1))]) hx hb dX2_metTogether_22 rfl hl (by decide) rfl (fun ls hl => ?_)
        refine lv_iinc (v := nI (w1 + 1)) (lv' := [(3, .int (nI (w1 + 1))), (2, .int (nI ((zsum (fun s => τ.2 11 (6 * xc + s)) w1) + (τ.2 11 (6 * xc + w1))))), (0, .ref La.1), (1, .int (nI xc))]) hx hb dX2_metTogether_23 hl (k := 3) rfl (zn_inc _) (by decide) rfl (fun ls hl => ?_)
        refine lv_goto (tgt := 4) hx hb dX2_metTogether_26 (by decide) ?_
        refine ih_4 (w1 + 1) (by omega) (by omega) _ _ _ (by exact X) (by exact lv_sub hl [2, 3, 1, 0] rfl)
  refine cut_4 _ 0 (Nat.zero_le _) (Nat.lt_succ_self _) _ _ _ (by exact X) (by exact lv_sub hl [2, 3, 1, 0] rfl)
set_option maxHeartbeats 4000000 in
set_option maxRecDepth 100000 in
theorem k2_oddsPlace {E : (Nat → Prop) → State → Heap → Prop} (hE : cEok E) {l : Launch} {D : va_G} {Z : Nat → ClassId}  (xc : Nat) (xa : Nat)  : dtI E l D Z yX2_oddsPlace (Cond.code yX2_oddsPlace cX2_oddsPlace 2 (some .int) :: cW) { frames := 0, cells := 0, slots := 0, locals := 0 } [.int (nI xc), .int (nI xa)] (wcat []) (S := Unit) (fun _ => wcat []) (fun _ => nI (xc * 6 + 1 + xa)) (fun _ => True) := by
  refine dtI_of hE (cc := cX2_oddsPlace) (maxL := 2) (by decide +kernel) (fun w h => List.mem_cons_of_mem _ h) (Nat.le_of_ble_eq_true rfl) ?_
  intro p e s m args below meth c A Q ls hx hb hml hown hts G X hl fin
  replace hl : lv_has ls 2 [(0, .int (nI xc)), (1, .int (nI xa))] := hl
  refine lv_iload_n hx hb dX2_oddsPlace_0 rfl (lv_at hl 0 rfl) ?_
  refine lv_bipush (v := nI 6) hx hb dX2_oddsPlace_1 (by decide) ?_
  refine gn_imul hx hb dX2_oddsPlace_3  ?_
  refine lv_iconst (v := nI 1) hx hb dX2_oddsPlace_4 (by decide) ?_
  refine gn_iadd hx hb dX2_oddsPlace_5  ?_
  refine lv_iload_n hx hb dX2_oddsPlace_6 rfl (lv_at hl 1 rfl) ?_
  refine gn_iadd hx hb dX2_oddsPlace_7  ?_
  exact cfin_I (()) (trivial) (rfl) (rfl) X dX2_oddsPlace_8 fin
set_option maxHeartbeats 4000000 in
set_option maxRecDepth 100000 in
theorem k2_saidBy {E : (Nat → Prop) → State → Heap → Prop} (hE : cEok E) {l : Launch} {D : va_G} {Z : Nat → ClassId} {La : LA} {τ : MS} (xs : Nat) (xc : Nat) (xw : Nat) (hok : mOk τ) (hpl : zpl τ) (hs : xs < τ.1 8) (hc : xc < 8) (hw : xw < τ.1 4) : dtI E l D Z yX2_saidBy (Cond.code yX2_saidBy cX2_saidBy 5 (some .int) :: cW) { frames := 0, cells := 0, slots := 0, locals := 0 } [.ref La.1, .int (nI xs), .int (nI xc), .int (nI xw)] (wcat [landP Z La τ]) (S := Unit) (fun _ => wcat [landP Z La τ]) (fun _ => nI (zsaid τ xs xc xw)) (fun _ => True) := by
  refine dtI_of hE (cc := cX2_saidBy) (maxL := 5) (by decide +kernel) (fun w h => List.mem_cons_of_mem _ h) (Nat.le_of_ble_eq_true rfl) ?_
  intro p e s m args below meth c A Q ls hx hb hml hown hts G X hl fin
  replace hl : lv_has ls 5 [(0, .ref La.1), (1, .int (nI xs)), (2, .int (nI xc)), (3, .int (nI xw))] := hl
  obtain ⟨k0, k4, k8, kr, kw, ks, kmet, kmt, k12, k13⟩ := id hok
  have q9 := ks xs hs
  refine lv_aload_n hx hb dX2_saidBy_0 rfl (lv_at hl 0 rfl) ?_
  refine cg_2 G X 0 0 rfl rfl 4 (by decide) (G.2.2.2.1 _ ck_56) rfl rfl dX2_saidBy_1 ?_
  refine lv_iconst (v := nI 1) hx hb dX2_saidBy_4 (by decide) ?_
  refine gn_isub hx hb dX2_saidBy_5 (by omega) ?_
  refine lv_istore (lv' := [(4, .int (nI ((τ.1 4) - 1))), (0, .ref La.1), (1, .int (nI xs)), (2, .int (nI xc)), (3, .int (nI xw))]) hx hb dX2_saidBy_6 hl (by decide) rfl (fun ls hl => ?_)
  refine lv_aload_n hx hb dX2_saidBy_8 rfl (lv_at hl 1 rfl) ?_
  refine cg_2 G X 0 0 rfl rfl 9 (by decide) (G.2.2.2.1 _ ck_61) rfl rfl dX2_saidBy_9 ?_
  refine lv_iload_n hx hb dX2_saidBy_12 rfl (lv_at hl 2 rfl) ?_
  refine cr_iald G X 0 7 rfl rfl (by omega) (by decide) dX2_saidBy_13 ?_
  refine gi_eq (a := (τ.2 9 xs)) (zcl_in (by omega)) ?_
  by_cases t_14_1 : (τ.2 9 xs) = 1
  · refine gi_eq t_14_1 ?_
    refine gn_tableIn (a := 1) (tgt := 44) hx hb dX2_saidBy_14 (by decide) (by decide) (by decide) rfl (by decide) ?_
    refine lv_aload_n hx hb dX2_saidBy_44 rfl (lv_at hl 1 rfl) ?_
    refine cg_2 G X 0 0 rfl rfl 10 (by decide) (G.2.2.2.1 _ ck_62) rfl rfl dX2_saidBy_45 ?_
    refine lv_iload_n hx hb dX2_saidBy_48 rfl (lv_at hl 2 rfl) ?_
    refine cr_iald G X 0 8 rfl rfl (by omega) (by decide) dX2_saidBy_49 ?_
    refine gi_eq (a := (τ.2 10 xs)) (zcl_in (by omega)) ?_
    refine lv_iload hx hb dX2_saidBy_50 (lv_at hl 0 rfl) ?_
    refine gn_icmp_ge (tgt := 64) hx hb dX2_saidBy_52 (by decide) (by omega) (by omega) (fun c_52 => ?_) (fun c_52 => ?_)
    ·
      refine lv_iload hx hb dX2_saidBy_64 (lv_at hl 0 rfl) ?_
      exact cfin_I (()) (trivial) (rfl) (by rw [zsaid_1 t_14_1]; first | rw [if_pos (show τ.2 10 xs < τ.1 4 by omega)] | (split <;> first | (congr 1; omega) | rfl)) X dX2_saidBy_66 fin
    ·
      refine lv_aload_n hx hb dX2_saidBy_55 rfl (lv_at hl 1 rfl) ?_
      refine cg_2 G X 0 0 rfl rfl 10 (by decide) (G.2.2.2.1 _ ck_62) rfl rfl dX2_saidBy_56 ?_
      refine lv_iload_n hx hb dX2_saidBy_59 rfl (lv_at hl 2 rfl) ?_
      refine cr_iald G X 0 8 rfl rfl (by omega) (by decide) dX2_saidBy_60 ?_
      refine gi_eq (a := (τ.2 10 xs)) (zcl_in (by omega)) ?_
      refine lv_goto (tgt := 66) hx hb dX2_saidBy_61 (by decide) ?_
      exact cfin_I (()) (trivial) (rfl) (by rw [zsaid_1 t_14_1]; first | rw [if_pos (show τ.2 10 xs < τ.1 4 by omega)] | (split <;> first | (congr 1; omega) | rfl)) X dX2_saidBy_66 fin
  by_cases t_14_2 : (τ.2 9 xs) = 2
  · refine gi_eq t_14_2 ?_
    refine gn_tableIn (a := 2) (tgt := 67) hx hb dX2_saidBy_14 (by decide) (by decide) (by decide) rfl (by decide) ?_
    refine lv_aload_n hx hb dX2_saidBy_67 rfl (lv_at hl 1 rfl) ?_
    refine cg_2 G X 0 0 rfl rfl 16 (by decide) (G.2.2.2.1 _ ck_69) rfl rfl dX2_saidBy_68 ?_
    refine lv_iload_n hx hb dX2_saidBy_71 rfl (lv_at hl 3 rfl) ?_
    refine cr_iald G X 0 9 rfl rfl (by omega) (by decide) dX2_saidBy_72 ?_
    refine gi_eq (a := (τ.2 61 xc)) (zcl_in (by omega)) ?_
    exact cfin_I (()) (trivial) (rfl) (by rw [zsaid_2 t_14_2, hpl xc hc]) X dX2_saidBy_73 fin
  by_cases t_14_3 : (τ.2 9 xs) = 3
  · refine gi_eq t_14_3 ?_
    refine gn_tableIn (a := 3) (tgt := 74) hx hb dX2_saidBy_14 (by decide) (by decide) (by decide) rfl (by decide) ?_
    refine lv_iload_n hx hb dX2_saidBy_74 rfl (lv_at hl 4 rfl) ?_
    refine lv_iload hx hb dX2_saidBy_75 (lv_at hl 0 rfl) ?_
    refine gn_icmp_ne (tgt := 84) hx hb dX2_saidBy_77 (by decide) (by omega) (by omega) (fun c_77 => ?_) (fun c_77 => ?_)
    ·
      refine lv_iload_n hx hb dX2_saidBy_84 rfl (lv_at hl 4 rfl) ?_
      refine lv_iconst (v := nI 1) hx hb dX2_saidBy_85 (by decide) ?_
      refine gn_iadd hx hb dX2_saidBy_86  ?_
      exact cfin_I (()) (trivial) (rfl) (by rw [zsaid_3 t_14_3]; first | rw [if_pos c_77] | rw [if_neg c_77]) X dX2_saidBy_87 fin
    ·
      refine lv_iconst (v := nI 0) hx hb dX2_saidBy_80 (by decide) ?_
      refine lv_goto (tgt := 87) hx hb dX2_saidBy_81 (by decide) ?_
      exact cfin_I (()) (trivial) (rfl) (by rw [zsaid_3 t_14_3]; first | rw [if_pos c_77] | rw [if_neg c_77]) X dX2_saidBy_87 fin
  by_cases t_14_4 : (τ.2 9 xs) = 4
  · refine gi_eq t_14_4 ?_
    refine gn_tableIn (a := 4) (tgt := 88) hx hb dX2_saidBy_14 (by decide) (by decide) (by decide) rfl (by decide) ?_
    refine lv_iload_n hx hb dX2_saidBy_88 rfl (lv_at hl 4 rfl) ?_
    refine gn_if_ne (tgt := 97) hx hb dX2_saidBy_89 (by decide) (by omega) (fun c_89 => ?_) (fun c_89 => ?_)
    ·
      refine lv_iload_n hx hb dX2_saidBy_97 rfl (lv_at hl 4 rfl) ?_
      refine lv_iconst (v := nI 1) hx hb dX2_saidBy_98 (by decide) ?_
      refine gn_isub hx hb dX2_saidBy_99 (by omega) ?_
      exact cfin_I (()) (trivial) (rfl) (by rw [zsaid_4 t_14_4]; first | rw [if_pos c_89] | rw [if_neg (by omega)]) X dX2_saidBy_100 fin
    ·
      refine lv_iload hx hb dX2_saidBy_92 (lv_at hl 0 rfl) ?_
      refine lv_goto (tgt := 100) hx hb dX2_saidBy_94 (by decide) ?_
      exact cfin_I (()) (trivial) (rfl) (by rw [zsaid_4 t_14_4]; first | rw [if_pos c_89] | rw [if_neg (by omega)]) X dX2_saidBy_100 fin
  refine gn_tableOut (a := (τ.2 9 xs)) (tgt := 101) hx hb dX2_saidBy_14 (by omega) (by omega) (by decide) ?_
  refine lv_iload_n hx hb dX2_saidBy_101 rfl (lv_at hl 4 rfl) ?_
  exact cfin_I (()) (trivial) (rfl) (by rw [zsaid_0 (show τ.2 9 xs = 0 by omega)]) X dX2_saidBy_102 fin
set_option maxHeartbeats 4000000 in
set_option maxRecDepth 100000 in
theorem k2_metWith {E : (Nat → Prop) → State → Heap → Prop} (hE : cEok E) {l : Launch} {D : va_G} {Z : Nat → ClassId} {La : LA} {τ : MS} (xc : Nat) (xd : Nat) (hok : mOk τ) (hc : xc < 8) (hd : xd < 100) : dtI E l D Z yX2_metWith (Cond.code yX2_metWith cX2_metWith 5 (some .int) :: cW) { frames := 0, cells := 0, slots := 0, locals := 0 } [.ref La.1, .int (nI xc), .int (nI xd)] (wcat [landP Z La τ]) (S := Unit) (fun _ => wcat [landP Z La τ]) (fun _ => nI (zmetW τ xc xd)) (fun _ => True) := by
  refine dtI_of hE (cc := cX2_metWith) (maxL := 5) (by decide +kernel) (fun w h => List.mem_cons_of_mem _ h) (Nat.le_of_ble_eq_true rfl) ?_
  intro p e s m args below meth c A Q ls hx hb hml hown hts G X hl fin
  replace hl : lv_has ls 5 [(0, .ref La.1), (1, .int (nI xc)), (2, .int (nI xd))] := hl
  obtain ⟨k0, k4, k8, kr, kw, ks, kmet, kmt, k12, k13⟩ := id hok
  refine lv_iconst (v := nI 0) hx hb dX2_metWith_0 (by decide) ?_
  refine lv_istore_n (lv' := [(3, .int (nI 0)), (0, .ref La.1), (1, .int (nI xc)), (2, .int (nI xd))]) hx hb dX2_metWith_1 rfl hl (by decide) rfl (fun ls hl => ?_)
  refine lv_iconst (v := nI 0) hx hb dX2_metWith_2 (by decide) ?_
  refine lv_istore (lv' := [(4, .int (nI 0)), (3, .int (nI 0)), (0, .ref La.1), (1, .int (nI xc)), (2, .int (nI xd))]) hx hb dX2_metWith_3 hl (by decide) rfl (fun ls hl => ?_)
  have cut_5 : ∀ (NN : Nat) (w1 : Nat) (h1 : w1 ≤ τ.1 8) (hno : ∀ j, j < w1 → zmetP τ xc xd j = false), τ.1 8 - w1 < NN → ∀ (H : Heap) (locs : List Loc) (ls : Array Slot), wH D vwCl A s.heap H locs (wcat [landP Z La τ]) → lv_has ls 5 [(0, .ref La.1), (1, .int (nI xc)), (2, .int (nI xd)), (3, .int (nI (zsum (fun s => τ.2 11 (6 * xc + s)) w1))), (4, .int (nI w1))] → W p l e { frames := 0, cells := 0, slots := 0, locals := 0 } s m args below meth c H locs 0 0 Q (F0 m 5 ls []) := by
    intro NN
    induction NN with
    | zero => intro w1 h1 hno hNN; exact absurd hNN (Nat.not_lt_zero _)
    | succ NN ih_5 =>
      intro w1 h1 hno hNN H locs ls X hl
      have hk7 := zsum_le (f := fun t => τ.2 11 (6 * xc + t)) (b := 100) w1 (fun k hk => kmet (6 * xc + k) (by omega))
      refine lv_iload hx hb dX2_metWith_5 (lv_at hl 4 rfl) ?_
      refine lv_aload_n hx hb dX2_metWith_7 rfl (lv_at hl 0 rfl) ?_
      refine cg_2 G X 0 0 rfl rfl 8 (by decide) (G.2.2.2.1 _ ck_60) rfl rfl dX2_metWith_8 ?_
      refine gn_icmp_ge (tgt := 40) hx hb dX2_metWith_11 (by decide) (by omega) (by omega) (fun c_11 => ?_) (fun c_11 => ?_)
      ·
        refine lv_iconst (v := nI 4294967295) hx hb dX2_metWith_40 (by decide) ?_
        exact cfin_I (()) (trivial) (rfl) (by unfold zmetW; rw [zfirst_none (fun j hj => hno j (by omega)), if_neg (Nat.lt_irrefl _)]) X dX2_metWith_41 fin
      ·
        refine lv_iload_n hx hb dX2_metWith_14 rfl (lv_at hl 3 rfl) ?_
        refine lv_aload_n hx hb dX2_metWith_15 rfl (lv_at hl 0 rfl) ?_
        refine cg_2 G X 0 0 rfl rfl 11 (by decide) (G.2.2.2.1 _ ck_64) rfl rfl dX2_metWith_16 ?_
        refine lv_iload_n hx hb dX2_metWith_19 rfl (lv_at hl 1 rfl) ?_
        refine cr_aald G X 0 10 rfl rfl (by omega) (by decide) (if_pos (by omega)) dX2_metWith_20 ?_
        refine lv_iload hx hb dX2_metWith_21 (lv_at hl 4 rfl) ?_
        refine cr_iald G X 0 (xc + 14) rfl (landP_r11 (by omega)) (by omega) (by decide) dX2_metWith_23 ?_
        refine gi_eq (a := (τ.2 11 (6 * xc + w1))) (zrow_in (by omega)) ?_
        refine gn_iadd hx hb dX2_metWith_24  ?_
        refine lv_istore_n (lv' := [(3, .int (nI ((zsum (fun s => τ.2 11 (6 * xc + s)) w1) + (τ.2 11 (6 * xc + w1))))), (0, .ref La.1), (1, .int (nI xc)), (2, .int (nI xd)), (4, .int (nI w1))]) hx hb dX2_metWith_25 rfl hl (by decide) rfl (fun ls hl => ?_)
        have hk8 := kmet (6 * xc + w1) (by omega)
        refine lv_iload_n hx hb dX2_metWith_26 rfl (lv_at hl 3 rfl) ?_
        refine lv_iload_n hx hb dX2_metWith_27 rfl (lv_at hl 0 rfl) ?_
        refine gn_icmp_ge (tgt := 34) hx hb dX2_metWith_28 (by decide) (by omega) (by omega) (fun c_28 => ?_) (fun c_28 => ?_)
        ·
          refine lv_iinc (v := nI (w1 + 1)) (lv' := [(4, .int (nI (w1 + 1))), (3, .int (nI ((zsum (fun s => τ.2 11 (6 * xc + s)) w1) + (τ.2 11 (6 * xc + w1))))), (0, .ref La.1), (1, .int (nI xc)), (2, .int (nI xd))]) hx hb dX2_metWith_34 hl (k := 4) rfl (zn_inc _) (by decide) rfl (fun ls hl => ?_)
          refine lv_goto (tgt := 5) hx hb dX2_metWith_37 (by decide) ?_
          refine ih_5 (w1 + 1) (by omega) (fun j hj => by rcases Nat.lt_or_ge j w1 with h9 | h9; exact hno j h9; rw [show j = w1 by omega]; exact decide_eq_false (Nat.not_lt.mpr c_28)) (by omega) _ _ _ (by exact X) (by exact lv_sub hl [2, 3, 4, 1, 0] rfl)
        ·
          refine lv_iload hx hb dX2_metWith_31 (lv_at hl 4 rfl) ?_
          exact cfin_I (()) (trivial) (rfl) (by unfold zmetW; rw [zfirst_at hno (decide_eq_true c_28) c_11, if_pos c_11]) X dX2_metWith_33 fin
  refine cut_5 _ 0 (Nat.zero_le _) (fun j hj => absurd hj (Nat.not_lt_zero j)) (Nat.lt_succ_self _) _ _ _ (by exact X) (by exact lv_sub hl [2, 3, 4, 1, 0] rfl)
set_option maxHeartbeats 4000000 in
set_option maxRecDepth 100000 in
theorem k11_isShelf {E : (Nat → Prop) → State → Heap → Prop} (hE : cEok E) {l : Launch} {D : va_G} {Z : Nat → ClassId}  (x : Int32)  : dtI E l D Z yX11_isShelf (Cond.code yX11_isShelf cX11_isShelf 1 (some .boolean) :: cW) { frames := 0, cells := 0, slots := 0, locals := 0 } [.int x] (wcat []) (S := Unit) (fun _ => wcat []) (fun _ => if zir x 8 then 1 else 0) (fun _ => True) := by
  refine dtZ_of hE (cc := cX11_isShelf) (maxL := 1) (hnar := fun _ _ => zb_ite) (by decide +kernel) (fun w h => List.mem_cons_of_mem _ h) (Nat.le_of_ble_eq_true rfl) ?_
  intro p e s m args below meth c A Q ls hx hb hml hown hts G X hl fin
  replace hl : lv_has ls 1 [(0, .int x)] := hl
  refine lv_iload_n hx hb dX11_isShelf_0 rfl (lv_at hl 0 rfl) ?_
  refine lv_if_lt (tgt := 14) hx hb dX11_isShelf_1 (by decide) (fun c_1 => ?_) (fun c_1 => ?_)
  ·
    refine lv_iconst (v := nI 0) hx hb dX11_isShelf_14 (by decide) ?_
    exact cfin_I (()) (trivial) (rfl) (by first | exact zb_t (zir_t (by omega) c_1 c_6) | exact zb_f (zir_f1 c_1) | exact zb_f (zir_f2 (by omega) c_6) | exact zb_t (zir_t (by omega) c_1 c_5) | exact zb_f (zir_f2 (by omega) c_5) | exact zb_t (zir_t (by omega) c_1 c_7) | exact zb_f (zir_f2 (by omega) c_7)) X dX11_isShelf_15 fin
  ·
    refine lv_iload_n hx hb dX11_isShelf_4 rfl (lv_at hl 0 rfl) ?_
    refine lv_bipush (v := nI 8) hx hb dX11_isShelf_5 (by decide) ?_
    refine lv_icmp_ge (tgt := 14) hx hb dX11_isShelf_7 (by decide) (fun c_7 => ?_) (fun c_7 => ?_)
    ·
      refine lv_iconst (v := nI 0) hx hb dX11_isShelf_14 (by decide) ?_
      exact cfin_I (()) (trivial) (rfl) (by first | exact zb_t (zir_t (by omega) c_1 c_6) | exact zb_f (zir_f1 c_1) | exact zb_f (zir_f2 (by omega) c_6) | exact zb_t (zir_t (by omega) c_1 c_5) | exact zb_f (zir_f2 (by omega) c_5) | exact zb_t (zir_t (by omega) c_1 c_7) | exact zb_f (zir_f2 (by omega) c_7)) X dX11_isShelf_15 fin
    ·
      refine lv_iconst (v := nI 1) hx hb dX11_isShelf_10 (by decide) ?_
      refine lv_goto (tgt := 15) hx hb dX11_isShelf_11 (by decide) ?_
      exact cfin_I (()) (trivial) (rfl) (by first | exact zb_t (zir_t (by omega) c_1 c_6) | exact zb_f (zir_f1 c_1) | exact zb_f (zir_f2 (by omega) c_6) | exact zb_t (zir_t (by omega) c_1 c_5) | exact zb_f (zir_f2 (by omega) c_5) | exact zb_t (zir_t (by omega) c_1 c_7) | exact zb_f (zir_f2 (by omega) c_7)) X dX11_isShelf_15 fin
set_option maxHeartbeats 4000000 in
set_option maxRecDepth 100000 in
theorem k11_isCrossing {E : (Nat → Prop) → State → Heap → Prop} (hE : cEok E) {l : Launch} {D : va_G} {Z : Nat → ClassId}  (x : Int32)  : dtI E l D Z yX11_isCrossing (Cond.code yX11_isCrossing cX11_isCrossing 1 (some .boolean) :: cW) { frames := 0, cells := 0, slots := 0, locals := 0 } [.int x] (wcat []) (S := Unit) (fun _ => wcat []) (fun _ => if zir x 8 then 1 else 0) (fun _ => True) := by
  refine dtZ_of hE (cc := cX11_isCrossing) (maxL := 1) (hnar := fun _ _ => zb_ite) (by decide +kernel) (fun w h => List.mem_cons_of_mem _ h) (Nat.le_of_ble_eq_true rfl) ?_
  intro p e s m args below meth c A Q ls hx hb hml hown hts G X hl fin
  replace hl : lv_has ls 1 [(0, .int x)] := hl
  refine lv_iload_n hx hb dX11_isCrossing_0 rfl (lv_at hl 0 rfl) ?_
  refine lv_if_lt (tgt := 14) hx hb dX11_isCrossing_1 (by decide) (fun c_1 => ?_) (fun c_1 => ?_)
  ·
    refine lv_iconst (v := nI 0) hx hb dX11_isCrossing_14 (by decide) ?_
    exact cfin_I (()) (trivial) (rfl) (by first | exact zb_t (zir_t (by omega) c_1 c_6) | exact zb_f (zir_f1 c_1) | exact zb_f (zir_f2 (by omega) c_6) | exact zb_t (zir_t (by omega) c_1 c_5) | exact zb_f (zir_f2 (by omega) c_5) | exact zb_t (zir_t (by omega) c_1 c_7) | exact zb_f (zir_f2 (by omega) c_7)) X dX11_isCrossing_15 fin
  ·
    refine lv_iload_n hx hb dX11_isCrossing_4 rfl (lv_at hl 0 rfl) ?_
    refine lv_bipush (v := nI 8) hx hb dX11_isCrossing_5 (by decide) ?_
    refine lv_icmp_ge (tgt := 14) hx hb dX11_isCrossing_7 (by decide) (fun c_7 => ?_) (fun c_7 => ?_)
    ·
      refine lv_iconst (v := nI 0) hx hb dX11_isCrossing_14 (by decide) ?_
      exact cfin_I (()) (trivial) (rfl) (by first | exact zb_t (zir_t (by omega) c_1 c_6) | exact zb_f (zir_f1 c_1) | exact zb_f (zir_f2 (by omega) c_6) | exact zb_t (zir_t (by omega) c_1 c_5) | exact zb_f (zir_f2 (by omega) c_5) | exact zb_t (zir_t (by omega) c_1 c_7) | exact zb_f (zir_f2 (by omega) c_7)) X dX11_isCrossing_15 fin
    ·
      refine lv_iconst (v := nI 1) hx hb dX11_isCrossing_10 (by decide) ?_
      refine lv_goto (tgt := 15) hx hb dX11_isCrossing_11 (by decide) ?_
      exact cfin_I (()) (trivial) (rfl) (by first | exact zb_t (zir_t (by omega) c_1 c_6) | exact zb_f (zir_f1 c_1) | exact zb_f (zir_f2 (by omega) c_6) | exact zb_t (zir_t (by omega) c_1 c_5) | exact zb_f (zir_f2 (by omega) c_5) | exact zb_t (zir_t (by omega) c_1 c_7) | exact zb_f (zir_f2 (by omega) c_7)) X dX11_isCrossing_15 fin
set_option maxHeartbeats 4000000 in
set_option maxRecDepth 100000 in
theorem k11_isRuleKind {E : (Nat → Prop) → State → Heap → Prop} (hE : cEok E) {l : Launch} {D : va_G} {Z : Nat → ClassId}  (x : Int32)  : dtI E l D Z yX11_isRuleKind (Cond.code yX11_isRuleKind cX11_isRuleKind 1 (some .boolean) :: cW) { frames := 0, cells := 0, slots := 0, locals := 0 } [.int x] (wcat []) (S := Unit) (fun _ => wcat []) (fun _ => if zir x 6 then 1 else 0) (fun _ => True) := by
  refine dtZ_of hE (cc := cX11_isRuleKind) (maxL := 1) (hnar := fun _ _ => zb_ite) (by decide +kernel) (fun w h => List.mem_cons_of_mem _ h) (Nat.le_of_ble_eq_true rfl) ?_
  intro p e s m args below meth c A Q ls hx hb hml hown hts G X hl fin
  replace hl : lv_has ls 1 [(0, .int x)] := hl
  refine lv_iload_n hx hb dX11_isRuleKind_0 rfl (lv_at hl 0 rfl) ?_
  refine lv_if_lt (tgt := 14) hx hb dX11_isRuleKind_1 (by decide) (fun c_1 => ?_) (fun c_1 => ?_)
  ·
    refine lv_iconst (v := nI 0) hx hb dX11_isRuleKind_14 (by decide) ?_
    exact cfin_I (()) (trivial) (rfl) (by first | exact zb_t (zir_t (by omega) c_1 c_6) | exact zb_f (zir_f1 c_1) | exact zb_f (zir_f2 (by omega) c_6) | exact zb_t (zir_t (by omega) c_1 c_5) | exact zb_f (zir_f2 (by omega) c_5) | exact zb_t (zir_t (by omega) c_1 c_7) | exact zb_f (zir_f2 (by omega) c_7)) X dX11_isRuleKind_15 fin
  ·
    refine lv_iload_n hx hb dX11_isRuleKind_4 rfl (lv_at hl 0 rfl) ?_
    refine lv_bipush (v := nI 6) hx hb dX11_isRuleKind_5 (by decide) ?_
    refine lv_icmp_ge (tgt := 14) hx hb dX11_isRuleKind_7 (by decide) (fun c_7 => ?_) (fun c_7 => ?_)
    ·
      refine lv_iconst (v := nI 0) hx hb dX11_isRuleKind_14 (by decide) ?_
      exact cfin_I (()) (trivial) (rfl) (by first | exact zb_t (zir_t (by omega) c_1 c_6) | exact zb_f (zir_f1 c_1) | exact zb_f (zir_f2 (by omega) c_6) | exact zb_t (zir_t (by omega) c_1 c_5) | exact zb_f (zir_f2 (by omega) c_5) | exact zb_t (zir_t (by omega) c_1 c_7) | exact zb_f (zir_f2 (by omega) c_7)) X dX11_isRuleKind_15 fin
    ·
      refine lv_iconst (v := nI 1) hx hb dX11_isRuleKind_10 (by decide) ?_
      refine lv_goto (tgt := 15) hx hb dX11_isRuleKind_11 (by decide) ?_
      exact cfin_I (()) (trivial) (rfl) (by first | exact zb_t (zir_t (by omega) c_1 c_6) | exact zb_f (zir_f1 c_1) | exact zb_f (zir_f2 (by omega) c_6) | exact zb_t (zir_t (by omega) c_1 c_5) | exact zb_f (zir_f2 (by omega) c_5) | exact zb_t (zir_t (by omega) c_1 c_7) | exact zb_f (zir_f2 (by omega) c_7)) X dX11_isRuleKind_15 fin
set_option maxHeartbeats 4000000 in
set_option maxRecDepth 100000 in
theorem k11_isFigure {E : (Nat → Prop) → State → Heap → Prop} (hE : cEok E) {l : Launch} {D : va_G} {Z : Nat → ClassId}  (x : Int32)  : dtI E l D Z yX11_isFigure (Cond.code yX11_isFigure cX11_isFigure 1 (some .boolean) :: cW) { frames := 0, cells := 0, slots := 0, locals := 0 } [.int x] (wcat []) (S := Unit) (fun _ => wcat []) (fun _ => if zir x 100 then 1 else 0) (fun _ => True) := by
  refine dtZ_of hE (cc := cX11_isFigure) (maxL := 1) (hnar := fun _ _ => zb_ite) (by decide +kernel) (fun w h => List.mem_cons_of_mem _ h) (Nat.le_of_ble_eq_true rfl) ?_
  intro p e s m args below meth c A Q ls hx hb hml hown hts G X hl fin
  replace hl : lv_has ls 1 [(0, .int x)] := hl
  refine lv_iload_n hx hb dX11_isFigure_0 rfl (lv_at hl 0 rfl) ?_
  refine lv_if_lt (tgt := 14) hx hb dX11_isFigure_1 (by decide) (fun c_1 => ?_) (fun c_1 => ?_)
  ·
    refine lv_iconst (v := nI 0) hx hb dX11_isFigure_14 (by decide) ?_
    exact cfin_I (()) (trivial) (rfl) (by first | exact zb_t (zir_t' (by omega) c_1 c_7) | exact zb_f (zir_f1 c_1) | exact zb_f (zir_f2' (by omega) c_7)) X dX11_isFigure_15 fin
  ·
    refine lv_iload_n hx hb dX11_isFigure_4 rfl (lv_at hl 0 rfl) ?_
    refine lv_bipush (v := nI 99) hx hb dX11_isFigure_5 (by decide) ?_
    refine lv_icmp_gt (tgt := 14) hx hb dX11_isFigure_7 (by decide) (fun c_7 => ?_) (fun c_7 => ?_)
    ·
      refine lv_iconst (v := nI 0) hx hb dX11_isFigure_14 (by decide) ?_
      exact cfin_I (()) (trivial) (rfl) (by first | exact zb_t (zir_t' (by omega) c_1 c_7) | exact zb_f (zir_f1 c_1) | exact zb_f (zir_f2' (by omega) c_7)) X dX11_isFigure_15 fin
    ·
      refine lv_iconst (v := nI 1) hx hb dX11_isFigure_10 (by decide) ?_
      refine lv_goto (tgt := 15) hx hb dX11_isFigure_11 (by decide) ?_
      exact cfin_I (()) (trivial) (rfl) (by first | exact zb_t (zir_t' (by omega) c_1 c_7) | exact zb_f (zir_f1 c_1) | exact zb_f (zir_f2' (by omega) c_7)) X dX11_isFigure_15 fin
set_option maxHeartbeats 4000000 in
set_option maxRecDepth 100000 in
theorem k11_isSeeds {E : (Nat → Prop) → State → Heap → Prop} (hE : cEok E) {l : Launch} {D : va_G} {Z : Nat → ClassId}  (x : Int32)  : dtI E l D Z yX11_isSeeds (Cond.code yX11_isSeeds cX11_isSeeds 1 (some .boolean) :: cW) { frames := 0, cells := 0, slots := 0, locals := 0 } [.int x] (wcat []) (S := Unit) (fun _ => wcat []) (fun _ => if zseeds x then 1 else 0) (fun _ => True) := by
  refine dtZ_of hE (cc := cX11_isSeeds) (maxL := 1) (hnar := fun _ _ => zb_ite) (by decide +kernel) (fun w h => List.mem_cons_of_mem _ h) (Nat.le_of_ble_eq_true rfl) ?_
  intro p e s m args below meth c A Q ls hx hb hml hown hts G X hl fin
  replace hl : lv_has ls 1 [(0, .int x)] := hl
  refine lv_iload_n hx hb dX11_isSeeds_0 rfl (lv_at hl 0 rfl) ?_
  refine lv_iconst (v := nI 1) hx hb dX11_isSeeds_1 (by decide) ?_
  refine lv_icmp_lt (tgt := 15) hx hb dX11_isSeeds_2 (by decide) (fun c_2 => ?_) (fun c_2 => ?_)
  ·
    refine lv_iconst (v := nI 0) hx hb dX11_isSeeds_15 (by decide) ?_
    exact cfin_I (()) (trivial) (rfl) (by first | exact zb_t (zsd_t c_2 c_8) | exact zb_f (zsd_f1 c_2) | exact zb_f (zsd_f2 c_8)) X dX11_isSeeds_16 fin
  ·
    refine lv_iload_n hx hb dX11_isSeeds_5 rfl (lv_at hl 0 rfl) ?_
    refine lv_bipush (v := nI 20) hx hb dX11_isSeeds_6 (by decide) ?_
    refine lv_icmp_gt (tgt := 15) hx hb dX11_isSeeds_8 (by decide) (fun c_8 => ?_) (fun c_8 => ?_)
    ·
      refine lv_iconst (v := nI 0) hx hb dX11_isSeeds_15 (by decide) ?_
      exact cfin_I (()) (trivial) (rfl) (by first | exact zb_t (zsd_t c_2 c_8) | exact zb_f (zsd_f1 c_2) | exact zb_f (zsd_f2 c_8)) X dX11_isSeeds_16 fin
    ·
      refine lv_iconst (v := nI 1) hx hb dX11_isSeeds_11 (by decide) ?_
      refine lv_goto (tgt := 16) hx hb dX11_isSeeds_12 (by decide) ?_
      exact cfin_I (()) (trivial) (rfl) (by first | exact zb_t (zsd_t c_2 c_8) | exact zb_f (zsd_f1 c_2) | exact zb_f (zsd_f2 c_8)) X dX11_isSeeds_16 fin
set_option maxHeartbeats 4000000 in
set_option maxRecDepth 100000 in
theorem k11_inSums {E : (Nat → Prop) → State → Heap → Prop} (hE : cEok E) {l : Launch} {D : va_G} {Z : Nat → ClassId}  (x : Nat) (hx : x < 4294967296) : dtI E l D Z yX11_inSums (Cond.code yX11_inSums cX11_inSums 1 (some .int) :: cW) { frames := 0, cells := 0, slots := 0, locals := 0 } [.int (nI x)] (wcat []) (S := Unit) (fun _ => wcat []) (fun _ => nI (if x = 99999 then 999 else x)) (fun _ => True) := by
  refine dtI_of hE (cc := cX11_inSums) (maxL := 1) (by decide +kernel) (fun w h => List.mem_cons_of_mem _ h) (Nat.le_of_ble_eq_true rfl) ?_
  intro p e s m args below meth c A Q ls hx hb hml hown hts G X hl fin
  replace hl : lv_has ls 1 [(0, .int (nI x))] := hl
  refine lv_iload_n hx hb dX11_inSums_0 rfl (lv_at hl 0 rfl) ?_
  refine gn_ldcw (v := 99999) (k := 99999) hx hb G.2.2.1 (G.2.2.2.1 _ ck_632) (by decide) dX11_inSums_1 ?_
  refine gn_icmp_ne (tgt := 13) hx hb dX11_inSums_4 (by decide) (by omega) (by omega) (fun c_4 => ?_) (fun c_4 => ?_)
  ·
    refine lv_iload_n hx hb dX11_inSums_13 rfl (lv_at hl 0 rfl) ?_
    exact cfin_I (()) (trivial) (rfl) (by first | rw [if_neg c_4] | rw [if_pos c_4]) X dX11_inSums_14 fin
  ·
    refine lv_sipush (v := nI 999) hx hb dX11_inSums_7 (by decide) ?_
    refine lv_goto (tgt := 14) hx hb dX11_inSums_10 (by decide) ?_
    exact cfin_I (()) (trivial) (rfl) (by first | rw [if_neg c_4] | rw [if_pos c_4]) X dX11_inSums_14 fin
