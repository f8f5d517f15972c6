set_option maxHeartbeats 4000000 in
set_option maxRecDepth 100000 in
theorem k11_anew {E : (Nat → Prop) → State → Heap → Prop} (hE : cEok E) {l : Launch} {D : va_G} {Z : Nat → ClassId} {an : Nat × Nat × Nat} {x0 x2 x3 x5 x6 x7 x8 x9 hi : Nat} {sb sh : Nat → Nat} {La : LA} {τ : MS} {ta : Nat × Nat × Nat} {F K : Nat → Nat} (hok : mOk τ) : dtI E l D Z yX11_anew (Cond.code yX11_anew cX11_anew 1 (some .int) :: cW) { frames := 2, cells := 0, slots := 0, locals := 43 } [.ref an.1] (wcat [anP Z an x0 La.1 x2 x3 ta.1 x5 x6 x7 x8 x9 hi sb sh, landP Z La τ, thP Z ta F K]) (S := Unit) (fun _ => wcat [anP Z an x0 La.1 x2 x3 ta.1 x5 x6 x7 x8 x9 hi sb sh, landP Z La τ, thP Z ta (if zready τ then zch5 τ else F) K]) (fun _ => if zready τ then nI (zbest (zch5 τ) 5) else -3) (fun _ => True) := by
  refine dtI_of hE (cc := cX11_anew) (maxL := 1) (by decide +kernel) (fun w h => List.mem_cons_of_mem _ h) (Nat.le_of_ble_eq_true rfl) ?_
  intro p e s m args below meth c A Q ls hx hb hml hown hts G X hl fin
  replace hl : lv_has ls 1 [(0, .ref an.1)] := hl
  obtain ⟨k0, k4, k8, kr, kw, ks, kmet, kmt, k12, k13⟩ := id hok
  refine lv_aload_n hx hb dX11_anew_0 rfl (lv_at hl 0 rfl) ?_
  refine cg_11 G X 0 0 rfl rfl 1 (by decide) (G.2.2.2.1 _ ck_500) rfl rfl dX11_anew_1 ?_
  refine dtI_go (w := wcat [landP Z La τ]) (wf := wcat [anP Z an x0 La.1 x2 x3 ta.1 x5 x6 x7 x8 x9 hi sb sh, thP Z ta F K]) (W1 := fun _ => wcat [anP Z an x0 La.1 x2 x3 ta.1 x5 x6 x7 x8 x9 hi sb sh, landP Z La τ, thP Z ta F K]) G X (wsel [1, 0, 2] rfl rfl) (run_V (As := []) (rest := []) (n := 0) G hml hts hl.1 (p_recv G X 1 0 rfl rfl rfl) (k2_isReady hE hok _) (cwV 0 hts (cg_V ck_75 ck_586 ck_587 ck_588 ck_79) rfl rfl rfl (by decide +kernel) ⟨Nat.le_of_ble_eq_true rfl, Nat.le_of_ble_eq_true rfl⟩) rfl (Nat.le_of_ble_eq_true rfl) dX11_anew_4 ⟨Nat.le_refl _, Nat.le_refl _⟩) (fun _ => wback [1, 0, 2] rfl rfl) (fun H locs _ _ X => ?_)
  refine gb_if_ne (tgt := 13) hx hb dX11_anew_7 (by decide) (fun c_7 => ?_) (fun c_7 => ?_)
  ·
    refine lv_aload_n hx hb dX11_anew_13 rfl (lv_at hl 0 rfl) ?_
    refine cg_11 G X 0 0 rfl rfl 4 (by decide) (G.2.2.2.1 _ ck_505) rfl rfl dX11_anew_14 ?_
    refine lv_aload_n hx hb dX11_anew_17 rfl (lv_at hl 0 rfl) ?_
    refine cg_11 G X 0 0 rfl rfl 1 (by decide) (G.2.2.2.1 _ ck_500) rfl rfl dX11_anew_18 ?_
    refine dtV_go (w := wcat [thP Z ta F K, landP Z La τ]) (wf := wcat [anP Z an x0 La.1 x2 x3 ta.1 x5 x6 x7 x8 x9 hi sb sh]) (W1 := fun _ => wcat [anP Z an x0 La.1 x2 x3 ta.1 x5 x6 x7 x8 x9 hi sb sh, landP Z La τ, thP Z ta (zch5 τ) K]) G X (wsel [2, 1, 0] rfl rfl) (run_V (As := [.ref La.1]) (rest := []) (n := 1) G hml hts hl.1 (p_recv G X 2 0 rfl rfl rfl) (k8_becomeChances hE hok _) (cwV 1 hts (cg_V ck_294 ck_554 ck_425 ck_426 ck_35) rfl rfl rfl (by decide +kernel) ⟨Nat.le_of_ble_eq_true rfl, Nat.le_of_ble_eq_true rfl⟩) rfl (Nat.le_of_ble_eq_true rfl) dX11_anew_21 ⟨Nat.le_refl _, Nat.le_refl _⟩) (fun _ => wback [2, 1, 0] rfl rfl) (fun H locs _ _ X => ?_)
    refine lv_aload_n hx hb dX11_anew_24 rfl (lv_at hl 0 rfl) ?_
    refine cg_11 G X 0 0 rfl rfl 4 (by decide) (G.2.2.2.1 _ ck_505) rfl rfl dX11_anew_25 ?_
    refine dtI_go (w := wcat [thP Z ta (zch5 τ) K]) (wf := wcat [anP Z an x0 La.1 x2 x3 ta.1 x5 x6 x7 x8 x9 hi sb sh, landP Z La τ]) (W1 := fun _ => wcat [anP Z an x0 La.1 x2 x3 ta.1 x5 x6 x7 x8 x9 hi sb sh, landP Z La τ, thP Z ta (zch5 τ) K]) G X (wsel [2, 0, 1] rfl rfl) (run_V (As := []) (rest := []) (n := 0) G hml hts hl.1 (p_recv G X 2 0 rfl rfl rfl) (k8_likeliest hE (fun w hw => by show (if w < τ.1 4 then τ.2 5 w else 0) < _; split; exact Nat.lt_of_le_of_lt (kw w (by assumption)).2.1 (by decide); decide) _) (cwV 0 hts (cg_V ck_26 ck_589 ck_33 ck_34 ck_35) rfl rfl rfl (by decide +kernel) ⟨Nat.le_of_ble_eq_true rfl, Nat.le_of_ble_eq_true rfl⟩) rfl (Nat.le_of_ble_eq_true rfl) dX11_anew_28 ⟨Nat.le_refl _, Nat.le_refl _⟩) (fun _ => wback [2, 0, 1] rfl rfl) (fun H locs _ _ X => ?_)
    exact cfin_I (()) (trivial) (by rw [if_pos c_7]) ((if_pos c_7).symm) X dX11_anew_31 fin
  ·
    refine lv_bipush (v := (-3)) hx hb dX11_anew_10 (by decide) ?_
    exact cfin_I (()) (trivial) (by rw [if_neg c_7]) ((if_neg c_7).symm) X dX11_anew_12 fin
set_option maxHeartbeats 4000000 in
set_option maxRecDepth 100000 in
theorem k11_likeliestAfterwards {E : (Nat → Prop) → State → Heap → Prop} (hE : cEok E) {l : Launch} {D : va_G} {Z : Nat → ClassId} {an : Nat × Nat × Nat} {x0 x2 x3 x5 x6 x7 x8 x9 hi : Nat} {sb sh : Nat → Nat} {La : LA} {τ : MS} {ta : Nat × Nat × Nat} {F K : Nat → Nat} (hok : mOk τ) (hK : ∀ w, w < 5 → K w < 9223372036854775808) : dtI E l D Z yX11_likeliestAfterwards (Cond.code yX11_likeliestAfterwards cX11_likeliestAfterwards 1 (some .int) :: cW) { frames := 2, cells := 0, slots := 0, locals := 65 } [.ref an.1] (wcat [anP Z an x0 La.1 x2 x3 ta.1 x5 x6 x7 x8 x9 hi sb sh, landP Z La τ, thP Z ta F K]) (S := Unit) (fun _ => wcat [anP Z an x0 La.1 x2 x3 ta.1 x5 x6 x7 x8 x9 hi sb sh, landP Z La τ, thP Z ta (zlaF τ F K) K]) (fun _ => zlaR τ K) (fun _ => True) := by
  refine dtI_of hE (cc := cX11_likeliestAfterwards) (maxL := 1) (by decide +kernel) (fun w h => List.mem_cons_of_mem _ h) (Nat.le_of_ble_eq_true rfl) ?_
  intro p e s m args below meth c A Q ls hx hb hml hown hts G X hl fin
  replace hl : lv_has ls 1 [(0, .ref an.1)] := hl
  obtain ⟨k0, k4, k8, kr, kw, ks, kmet, kmt, k12, k13⟩ := id hok
  refine lv_aload_n hx hb dX11_likeliestAfterwards_0 rfl (lv_at hl 0 rfl) ?_
  refine cg_11 G X 0 0 rfl rfl 1 (by decide) (G.2.2.2.1 _ ck_500) rfl rfl dX11_likeliestAfterwards_1 ?_
  refine dtI_go (w := wcat [landP Z La τ]) (wf := wcat [anP Z an x0 La.1 x2 x3 ta.1 x5 x6 x7 x8 x9 hi sb sh, thP Z ta F K]) (W1 := fun _ => wcat [anP Z an x0 La.1 x2 x3 ta.1 x5 x6 x7 x8 x9 hi sb sh, landP Z La τ, thP Z ta F K]) G X (wsel [1, 0, 2] rfl rfl) (run_V (As := []) (rest := []) (n := 0) G hml hts hl.1 (p_recv G X 1 0 rfl rfl rfl) (k2_isReady hE hok _) (cwV 0 hts (cg_V ck_75 ck_586 ck_587 ck_588 ck_79) rfl rfl rfl (by decide +kernel) ⟨Nat.le_of_ble_eq_true rfl, Nat.le_of_ble_eq_true rfl⟩) rfl (Nat.le_of_ble_eq_true rfl) dX11_likeliestAfterwards_4 ⟨Nat.le_refl _, Nat.le_refl _⟩) (fun _ => wback [1, 0, 2] rfl rfl) (fun H locs _ _ X => ?_)
  refine gb_if_eq (tgt := 30) hx hb dX11_likeliestAfterwards_7 (by decide) (fun c_7 => ?_) (fun c_7 => ?_)
  ·
    refine lv_bipush (v := (-3)) hx hb dX11_likeliestAfterwards_30 (by decide) ?_
    exact cfin_I (()) (trivial) (congrArg (fun z => wcat [anP Z an x0 La.1 x2 x3 ta.1 x5 x6 x7 x8 x9 hi sb sh, landP Z La τ, thP Z ta z K]) (zlaF_n c_7)) (by first | exact zlaR_y c_7 c_17 | exact (if_neg (fun q => c_7 q.1)).symm | exact (if_neg (fun q => c_17 q.2)).symm) X dX11_likeliestAfterwards_32 fin
  ·
    refine lv_aload_n hx hb dX11_likeliestAfterwards_10 rfl (lv_at hl 0 rfl) ?_
    refine cg_11 G X 0 0 rfl rfl 4 (by decide) (G.2.2.2.1 _ ck_505) rfl rfl dX11_likeliestAfterwards_11 ?_
    refine dtI_go (w := wcat [thP Z ta F K]) (wf := wcat [anP Z an x0 La.1 x2 x3 ta.1 x5 x6 x7 x8 x9 hi sb sh, landP Z La τ]) (W1 := fun _ => wcat [anP Z an x0 La.1 x2 x3 ta.1 x5 x6 x7 x8 x9 hi sb sh, landP Z La τ, thP Z ta (if zgall K 5 = 0 then F else zset 5 K) K]) G X (wsel [2, 0, 1] rfl rfl) (run_V (As := []) (rest := []) (n := 0) G hml hts hl.1 (p_recv G X 2 0 rfl rfl rfl) (k8_settles hE hK _) (cwV 0 hts (cg_V ck_317 ck_591 ck_420 ck_421 ck_35) rfl rfl rfl (by decide +kernel) ⟨Nat.le_of_ble_eq_true rfl, Nat.le_of_ble_eq_true rfl⟩) rfl (Nat.le_of_ble_eq_true rfl) dX11_likeliestAfterwards_14 ⟨Nat.le_refl _, Nat.le_refl _⟩) (fun _ => wback [2, 0, 1] rfl rfl) (fun H locs _ _ X => ?_)
    refine gb_if_eq (tgt := 30) hx hb dX11_likeliestAfterwards_17 (by decide) (fun c_17 => ?_) (fun c_17 => ?_)
    ·
      refine lv_bipush (v := (-3)) hx hb dX11_likeliestAfterwards_30 (by decide) ?_
      exact cfin_I (()) (trivial) (congrArg (fun z => wcat [anP Z an x0 La.1 x2 x3 ta.1 x5 x6 x7 x8 x9 hi sb sh, landP Z La τ, thP Z ta z K]) (zlaF_r c_7)) (by first | exact zlaR_y c_7 c_17 | exact (if_neg (fun q => c_7 q.1)).symm | exact (if_neg (fun q => c_17 q.2)).symm) X dX11_likeliestAfterwards_32 fin
    ·
      refine lv_aload_n hx hb dX11_likeliestAfterwards_20 rfl (lv_at hl 0 rfl) ?_
      refine cg_11 G X 0 0 rfl rfl 4 (by decide) (G.2.2.2.1 _ ck_505) rfl rfl dX11_likeliestAfterwards_21 ?_
      refine dtI_go (w := wcat [thP Z ta (if zgall K 5 = 0 then F else zset 5 K) K]) (wf := wcat [anP Z an x0 La.1 x2 x3 ta.1 x5 x6 x7 x8 x9 hi sb sh, landP Z La τ]) (W1 := fun _ => wcat [anP Z an x0 La.1 x2 x3 ta.1 x5 x6 x7 x8 x9 hi sb sh, landP Z La τ, thP Z ta (if zgall K 5 = 0 then F else zset 5 K) K]) G X (wsel [2, 0, 1] rfl rfl) (run_V (As := []) (rest := []) (n := 0) G hml hts hl.1 (p_recv G X 2 0 rfl rfl rfl) (k8_likeliest hE (by rw [if_neg c_17]; exact zset5_lt hK) _) (cwV 0 hts (cg_V ck_26 ck_589 ck_33 ck_34 ck_35) rfl rfl rfl (by decide +kernel) ⟨Nat.le_of_ble_eq_true rfl, Nat.le_of_ble_eq_true rfl⟩) rfl (Nat.le_of_ble_eq_true rfl) dX11_likeliestAfterwards_24 ⟨Nat.le_refl _, Nat.le_refl _⟩) (fun _ => wback [2, 0, 1] rfl rfl) (fun H locs _ _ X => ?_)
      refine lv_goto (tgt := 32) hx hb dX11_likeliestAfterwards_27 (by decide) ?_
      exact cfin_I (()) (trivial) (congrArg (fun z => wcat [anP Z an x0 La.1 x2 x3 ta.1 x5 x6 x7 x8 x9 hi sb sh, landP Z La τ, thP Z ta z K]) (zlaF_r c_7)) (by first | exact zlaR_y c_7 c_17 | exact (if_neg (fun q => c_7 q.1)).symm | exact (if_neg (fun q => c_17 q.2)).symm) X dX11_likeliestAfterwards_32 fin
set_option maxHeartbeats 4000000 in
set_option maxRecDepth 100000 in
theorem k11_answer {E : (Nat → Prop) → State → Heap → Prop} (hE : cEok E) {l : Launch} {D : va_G} {Z : Nat → ClassId} {an : Nat × Nat × Nat} {x0 x2 x3 x5 x6 x7 x8 x9 hi : Nat} {sb sh : Nat → Nat} {La : LA} {τ : MS} {ta : Nat × Nat × Nat} {F K : Nat → Nat} (xc : Int32) (xa : Int32) (hok : mOk τ) (hod : ∀ k, k < 240 → τ.2 62 k ≤ 100) (hF : ∀ w, w < 5 → F w ≤ 100000000000) : dtI E l D Z yX11_answer (Cond.code yX11_answer cX11_answer 3 (some .int) :: cW) { frames := 3, cells := 0, slots := 0, locals := 85 } [.ref an.1, .int xc, .int xa] (wcat [anP Z an x0 La.1 x2 x3 ta.1 x5 x6 x7 x8 x9 hi sb sh, landP Z La τ, thP Z ta F K]) (S := (Nat → Nat)) (fun K2 => wcat [anP Z an x0 La.1 x2 x3 ta.1 x5 x6 x7 x8 x9 hi sb sh, landP Z La τ, thP Z ta (zansF τ F xc xa) K2]) (fun K2 => zansC τ F xc xa) (fun _ => True) := by
  refine dtI_of hE (cc := cX11_answer) (maxL := 3) (by decide +kernel) (fun w h => List.mem_cons_of_mem _ h) (Nat.le_of_ble_eq_true rfl) ?_
  intro p e s m args below meth c A Q ls hx hb hml hown hts G X hl fin
  replace hl : lv_has ls 3 [(0, .ref an.1), (1, .int xc), (2, .int xa)] := hl
  obtain ⟨k0, k4, k8, kr, kw, ks, kmet, kmt, k12, k13⟩ := id hok
  refine lv_iload_n hx hb dX11_answer_0 rfl (lv_at hl 1 rfl) ?_
  refine dtI_go (w := wcat []) (wf := wcat [anP Z an x0 La.1 x2 x3 ta.1 x5 x6 x7 x8 x9 hi sb sh, landP Z La τ, thP Z ta F K]) (W1 := fun _ => wcat [anP Z an x0 La.1 x2 x3 ta.1 x5 x6 x7 x8 x9 hi sb sh, landP Z La τ, thP Z ta F K]) G X (wsel [0, 1, 2] rfl rfl) (run_S (As := [.int xc]) (rest := []) (n := 1) G hml hts hl.1 (k11_isCrossing hE xc _) (va_cwS 1 hts (cg_S ck_86 ck_568 ck_88 ck_89) rfl rfl rfl (by decide +kernel) ⟨Nat.le_of_ble_eq_true rfl, Nat.le_of_ble_eq_true rfl⟩) rfl (Nat.le_of_ble_eq_true rfl) dX11_answer_1 ⟨Nat.le_refl _, Nat.le_refl _⟩) (fun _ => wback [0, 1, 2] rfl rfl) (fun H locs _ _ X => ?_)
  refine gb_if_eq (tgt := 15) hx hb dX11_answer_4 (by decide) (fun c_4 => ?_) (fun c_4 => ?_)
  ·
    refine lv_iconst (v := (-1)) hx hb dX11_answer_15 (by decide) ?_
    exact cfin_I (K) (trivial) (congrArg (fun z => wcat [anP Z an x0 La.1 x2 x3 ta.1 x5 x6 x7 x8 x9 hi sb sh, landP Z La τ, thP Z ta z K]) (zansC_n (τ := τ) (F := F) (c := xc) (a := xa) (by first | exact fun q => c_4 q.1 | exact fun q => c_12 q.2)).2.symm) ((zansC_n (τ := τ) (F := F) (c := xc) (a := xa) (by first | exact fun q => c_4 q.1 | exact fun q => c_12 q.2)).1.symm) X dX11_answer_16 fin
  ·
    obtain ⟨jc, hjc, rfl⟩ := zir_of (by decide) c_4
    refine lv_aload_n hx hb dX11_answer_7 rfl (lv_at hl 0 rfl) ?_
    refine lv_iload_n hx hb dX11_answer_8 rfl (lv_at hl 2 rfl) ?_
    refine dtI_go (w := wcat [anP Z an x0 La.1 x2 x3 ta.1 x5 x6 x7 x8 x9 hi sb sh, landP Z La τ]) (wf := wcat [thP Z ta F K]) (W1 := fun _ => wcat [anP Z an x0 La.1 x2 x3 ta.1 x5 x6 x7 x8 x9 hi sb sh, landP Z La τ, thP Z ta F K]) G X (wsel [0, 1, 2] rfl rfl) (run_V (As := [.int xa]) (rest := []) (n := 1) G hml hts hl.1 (p_recv G X 0 0 rfl rfl rfl) (k11_isAnswer hE xa hok _) (cwV 1 hts (cg_V ck_579 ck_582 ck_583 ck_584 ck_89) rfl rfl rfl (by decide +kernel) ⟨Nat.le_of_ble_eq_true rfl, Nat.le_of_ble_eq_true rfl⟩) rfl (Nat.le_of_ble_eq_true rfl) dX11_answer_9 ⟨Nat.le_refl _, Nat.le_refl _⟩) (fun _ => wback [0, 1, 2] rfl rfl) (fun H locs _ _ X => ?_)
    refine gb_if_ne (tgt := 17) hx hb dX11_answer_12 (by decide) (fun c_12 => ?_) (fun c_12 => ?_)
    ·
      have hzr := c_12
      obtain ⟨ja, hja, rfl, hija⟩ := zanR_of (by omega) c_12
      refine lv_aload_n hx hb dX11_answer_17 rfl (lv_at hl 0 rfl) ?_
      refine cg_11 G X 0 0 rfl rfl 4 (by decide) (G.2.2.2.1 _ ck_505) rfl rfl dX11_answer_18 ?_
      refine lv_aload_n hx hb dX11_answer_21 rfl (lv_at hl 0 rfl) ?_
      refine cg_11 G X 0 0 rfl rfl 1 (by decide) (G.2.2.2.1 _ ck_500) rfl rfl dX11_answer_22 ?_
      refine lv_iload_n hx hb dX11_answer_25 rfl (lv_at hl 1 rfl) ?_
      refine lv_iload_n hx hb dX11_answer_26 rfl (lv_at hl 2 rfl) ?_
      refine dtV_go (w := wcat [thP Z ta F K, landP Z La τ]) (wf := wcat [anP Z an x0 La.1 x2 x3 ta.1 x5 x6 x7 x8 x9 hi sb sh]) (W1 := fun _ => wcat [anP Z an x0 La.1 x2 x3 ta.1 x5 x6 x7 x8 x9 hi sb sh, landP Z La τ, thP Z ta F (zhe5 τ F (zplc jc ja))]) G X (wsel [2, 1, 0] rfl rfl) (run_V (As := [.ref La.1, .int (nI jc), .int (nI ja)]) (rest := []) (n := 3) G hml hts hl.1 (p_recv G X 2 0 rfl rfl rfl) (k8_hear hE jc ja hod (by omega) hja _) (cwV 3 hts (cg_V ck_304 ck_593 ck_449 ck_450 ck_35) rfl rfl rfl (by decide +kernel) ⟨Nat.le_of_ble_eq_true rfl, Nat.le_of_ble_eq_true rfl⟩) rfl (Nat.le_of_ble_eq_true rfl) dX11_answer_27 ⟨Nat.le_refl _, Nat.le_refl _⟩) (fun _ => wback [2, 1, 0] rfl rfl) (fun H locs _ _ X => ?_)
      refine lv_aload_n hx hb dX11_answer_30 rfl (lv_at hl 0 rfl) ?_
      refine dtI_go (w := wcat [anP Z an x0 La.1 x2 x3 ta.1 x5 x6 x7 x8 x9 hi sb sh, landP Z La τ, thP Z ta F (zhe5 τ F (zplc jc ja))]) (wf := wcat []) (W1 := fun _ => wcat [anP Z an x0 La.1 x2 x3 ta.1 x5 x6 x7 x8 x9 hi sb sh, landP Z La τ, thP Z ta (zlaF τ F (zhe5 τ F (zplc jc ja))) (zhe5 τ F (zplc jc ja))]) G X (wsel [0, 1, 2] rfl rfl) (run_V (As := []) (rest := []) (n := 0) G hml hts hl.1 (p_recv G X 0 0 rfl rfl rfl) (k11_likeliestAfterwards hE hok (zhe5_lt hod hF (zplc_lt hjc hja)) _) (cwV 0 hts (cg_V ck_592 ck_594 ck_595 ck_596 ck_89) rfl rfl rfl (by decide +kernel) ⟨Nat.le_of_ble_eq_true rfl, Nat.le_of_ble_eq_true rfl⟩) rfl (Nat.le_of_ble_eq_true rfl) dX11_answer_31 ⟨Nat.le_refl _, Nat.le_refl _⟩) (fun _ => wback [0, 1, 2] rfl rfl) (fun H locs _ _ X => ?_)
      exact cfin_I (zhe5 τ F (zplc jc ja)) (trivial) (congrArg (fun z => wcat [anP Z an x0 La.1 x2 x3 ta.1 x5 x6 x7 x8 x9 hi sb sh, landP Z La τ, thP Z ta z (zhe5 τ F (zplc jc ja))]) (zansC_v (τ := τ) (F := F) hjc hzr hija).2.symm) ((zansC_v (τ := τ) (F := F) hjc hzr hija).1.symm) X dX11_answer_34 fin
    ·
      refine lv_iconst (v := (-1)) hx hb dX11_answer_15 (by decide) ?_
      exact cfin_I (K) (trivial) (congrArg (fun z => wcat [anP Z an x0 La.1 x2 x3 ta.1 x5 x6 x7 x8 x9 hi sb sh, landP Z La τ, thP Z ta z K]) (zansC_n (τ := τ) (F := F) (c := nI jc) (a := xa) (by first | exact fun q => c_4 q.1 | exact fun q => c_12 q.2)).2.symm) ((zansC_n (τ := τ) (F := F) (c := nI jc) (a := xa) (by first | exact fun q => c_4 q.1 | exact fun q => c_12 q.2)).1.symm) X dX11_answer_16 fin
set_option maxHeartbeats 4000000 in
set_option maxRecDepth 100000 in
theorem k11_found {E : (Nat → Prop) → State → Heap → Prop} (hE : cEok E) {l : Launch} {D : va_G} {Z : Nat → ClassId} {an : Nat × Nat × Nat} {x0 x2 x3 x5 x6 x7 x8 x9 hi : Nat} {sb sh : Nat → Nat} {La : LA} {τ : MS} {ta : Nat × Nat × Nat} {F K : Nat → Nat} (xr : Int32) (xb : Nat) (hok : mOk τ) (hF : ∀ w, w < 5 → F w ≤ 100000000000) (hsh : ∀ w, w < 5 → τ.2 7 w < 2147483648) (hb2 : xb < 2) : dtI E l D Z yX11_found (Cond.code yX11_found cX11_found 3 (some .int) :: cW) { frames := 3, cells := 0, slots := 0, locals := 85 } [.ref an.1, .int xr, .int (nI xb)] (wcat [anP Z an x0 La.1 x2 x3 ta.1 x5 x6 x7 x8 x9 hi sb sh, landP Z La τ, thP Z ta F K]) (S := (Nat → Nat)) (fun K2 => wcat [anP Z an x0 La.1 x2 x3 ta.1 x5 x6 x7 x8 x9 hi sb sh, landP Z La τ, thP Z ta (zfndF τ F xr xb) K2]) (fun K2 => zfndC τ F xr xb) (fun _ => True) := by
  refine dtI_of hE (cc := cX11_found) (maxL := 3) (by decide +kernel) (fun w h => List.mem_cons_of_mem _ h) (Nat.le_of_ble_eq_true rfl) ?_
  intro p e s m args below meth c A Q ls hx hb hml hown hts G X hl fin
  replace hl : lv_has ls 3 [(0, .ref an.1), (1, .int xr), (2, .int (nI xb))] := hl
  obtain ⟨k0, k4, k8, kr, kw, ks, kmet, kmt, k12, k13⟩ := id hok
  refine lv_aload_n hx hb dX11_found_0 rfl (lv_at hl 0 rfl) ?_
  refine cg_11 G X 0 0 rfl rfl 1 (by decide) (G.2.2.2.1 _ ck_500) rfl rfl dX11_found_1 ?_
  refine lv_iload_n hx hb dX11_found_4 rfl (lv_at hl 1 rfl) ?_
  refine dtI_go (w := wcat [landP Z La τ]) (wf := wcat [anP Z an x0 La.1 x2 x3 ta.1 x5 x6 x7 x8 x9 hi sb sh, thP Z ta F K]) (W1 := fun _ => wcat [anP Z an x0 La.1 x2 x3 ta.1 x5 x6 x7 x8 x9 hi sb sh, landP Z La τ, thP Z ta F K]) G X (wsel [1, 0, 2] rfl rfl) (run_V (As := [.int xr]) (rest := []) (n := 1) G hml hts hl.1 (p_recv G X 1 0 rfl rfl rfl) (k2_hasRoad hE xr hok _) (cwV 1 hts (cg_V ck_71 ck_560 ck_459 ck_460 ck_79) rfl rfl rfl (by decide +kernel) ⟨Nat.le_of_ble_eq_true rfl, Nat.le_of_ble_eq_true rfl⟩) rfl (Nat.le_of_ble_eq_true rfl) dX11_found_5 ⟨Nat.le_refl _, Nat.le_refl _⟩) (fun _ => wback [1, 0, 2] rfl rfl) (fun H locs _ _ X => ?_)
  refine gb_if_ne (tgt := 13) hx hb dX11_found_8 (by decide) (fun c_8 => ?_) (fun c_8 => ?_)
  ·
    obtain ⟨jr, hjr, rfl⟩ := zir_of (by omega) c_8
    refine lv_aload_n hx hb dX11_found_13 rfl (lv_at hl 0 rfl) ?_
    refine cg_11 G X 0 0 rfl rfl 4 (by decide) (G.2.2.2.1 _ ck_505) rfl rfl dX11_found_14 ?_
    refine lv_aload_n hx hb dX11_found_17 rfl (lv_at hl 0 rfl) ?_
    refine cg_11 G X 0 0 rfl rfl 1 (by decide) (G.2.2.2.1 _ ck_500) rfl rfl dX11_found_18 ?_
    refine lv_iload_n hx hb dX11_found_21 rfl (lv_at hl 1 rfl) ?_
    refine lv_iload_n hx hb dX11_found_22 rfl (lv_at hl 2 rfl) ?_
    refine dtV_go (w := wcat [thP Z ta F K, landP Z La τ]) (wf := wcat [anP Z an x0 La.1 x2 x3 ta.1 x5 x6 x7 x8 x9 hi sb sh]) (W1 := fun _ => wcat [anP Z an x0 La.1 x2 x3 ta.1 x5 x6 x7 x8 x9 hi sb sh, landP Z La τ, thP Z ta F (zseeM τ F jr xb)]) G X (wsel [2, 1, 0] rfl rfl) (run_V (As := [.ref La.1, .int (nI jr), .int (nI xb)]) (rest := []) (n := 3) G hml hts hl.1 (p_recv G X 2 0 rfl rfl rfl) (k8_findRoad hE jr xb hsh (by omega) (by omega) _) (cwV 3 hts (cg_V ck_308 ck_598 ck_466 ck_467 ck_35) rfl rfl rfl (by decide +kernel) ⟨Nat.le_of_ble_eq_true rfl, Nat.le_of_ble_eq_true rfl⟩) rfl (Nat.le_of_ble_eq_true rfl) dX11_found_23 ⟨Nat.le_refl _, Nat.le_refl _⟩) (fun _ => wback [2, 1, 0] rfl rfl) (fun H locs _ _ X => ?_)
    refine lv_aload_n hx hb dX11_found_26 rfl (lv_at hl 0 rfl) ?_
    refine dtI_go (w := wcat [anP Z an x0 La.1 x2 x3 ta.1 x5 x6 x7 x8 x9 hi sb sh, landP Z La τ, thP Z ta F (zseeM τ F jr xb)]) (wf := wcat []) (W1 := fun _ => wcat [anP Z an x0 La.1 x2 x3 ta.1 x5 x6 x7 x8 x9 hi sb sh, landP Z La τ, thP Z ta (zlaF τ F (zseeM τ F jr xb)) (zseeM τ F jr xb)]) G X (wsel [0, 1, 2] rfl rfl) (run_V (As := []) (rest := []) (n := 0) G hml hts hl.1 (p_recv G X 0 0 rfl rfl rfl) (k11_likeliestAfterwards hE hok (zsee_lt hF) _) (cwV 0 hts (cg_V ck_592 ck_594 ck_595 ck_596 ck_89) rfl rfl rfl (by decide +kernel) ⟨Nat.le_of_ble_eq_true rfl, Nat.le_of_ble_eq_true rfl⟩) rfl (Nat.le_of_ble_eq_true rfl) dX11_found_27 ⟨Nat.le_refl _, Nat.le_refl _⟩) (fun _ => wback [0, 1, 2] rfl rfl) (fun H locs _ _ X => ?_)
    exact cfin_I (zseeM τ F jr xb) (trivial) (congrArg (fun z => wcat [anP Z an x0 La.1 x2 x3 ta.1 x5 x6 x7 x8 x9 hi sb sh, landP Z La τ, thP Z ta z (zseeM τ F jr xb)]) (zfndC_v (τ := τ) (F := F) hjr (by omega)).2.symm) ((zfndC_v (τ := τ) (F := F) hjr (by omega)).1.symm) X dX11_found_30 fin
  ·
    refine lv_iconst (v := (-1)) hx hb dX11_found_11 (by decide) ?_
    exact cfin_I (K) (trivial) (congrArg (fun z => wcat [anP Z an x0 La.1 x2 x3 ta.1 x5 x6 x7 x8 x9 hi sb sh, landP Z La τ, thP Z ta z K]) (⟨if_pos c_8, if_pos c_8⟩ : zfndC τ F _ xb = -1 ∧ zfndF τ F _ xb = F).2.symm) ((⟨if_pos c_8, if_pos c_8⟩ : zfndC τ F _ xb = -1 ∧ zfndF τ F _ xb = F).1.symm) X dX11_found_12 fin
set_option maxHeartbeats 4000000 in
set_option maxRecDepth 100000 in
theorem k11_same {E : (Nat → Prop) → State → Heap → Prop} (hE : cEok E) {l : Launch} {D : va_G} {Z : Nat → ClassId} {an : Nat × Nat × Nat} {x0 x2 x3 x5 x6 x7 x8 x9 hi : Nat} {sb sh : Nat → Nat} {La : LA} {τ : MS} {ta : Nat × Nat × Nat} {F K : Nat → Nat} (xc : Int32) (xa : Int32) (xq : Int32) (hok : mOk τ) (hod : ∀ k, k < 240 → τ.2 62 k ≤ 100) (hF : ∀ w, w < 5 → F w ≤ 100000000000) : dtI E l D Z yX11_same (Cond.code yX11_same cX11_same 4 (some .int) :: cW) { frames := 3, cells := 0, slots := 0, locals := 85 } [.ref an.1, .int xc, .int xa, .int xq] (wcat [anP Z an x0 La.1 x2 x3 ta.1 x5 x6 x7 x8 x9 hi sb sh, landP Z La τ, thP Z ta F K]) (S := (Nat → Nat)) (fun K2 => wcat [anP Z an x0 La.1 x2 x3 ta.1 x5 x6 x7 x8 x9 hi sb sh, landP Z La τ, thP Z ta (zsamF τ F xc xa xq) K2]) (fun K2 => zsamC τ F xc xa xq) (fun _ => True) := by
  refine dtI_of hE (cc := cX11_same) (maxL := 4) (by decide +kernel) (fun w h => List.mem_cons_of_mem _ h) (Nat.le_of_ble_eq_true rfl) ?_
  intro p e s m args below meth c A Q ls hx hb hml hown hts G X hl fin
  replace hl : lv_has ls 4 [(0, .ref an.1), (1, .int xc), (2, .int xa), (3, .int xq)] := hl
  obtain ⟨k0, k4, k8, kr, kw, ks, kmet, kmt, k12, k13⟩ := id hok
  refine lv_iload_n hx hb dX11_same_0 rfl (lv_at hl 1 rfl) ?_
  refine dtI_go (w := wcat []) (wf := wcat [anP Z an x0 La.1 x2 x3 ta.1 x5 x6 x7 x8 x9 hi sb sh, landP Z La τ, thP Z ta F K]) (W1 := fun _ => wcat [anP Z an x0 La.1 x2 x3 ta.1 x5 x6 x7 x8 x9 hi sb sh, landP Z La τ, thP Z ta F K]) G X (wsel [0, 1, 2] rfl rfl) (run_S (As := [.int xc]) (rest := []) (n := 1) G hml hts hl.1 (k11_isCrossing hE xc _) (va_cwS 1 hts (cg_S ck_86 ck_568 ck_88 ck_89) rfl rfl rfl (by decide +kernel) ⟨Nat.le_of_ble_eq_true rfl, Nat.le_of_ble_eq_true rfl⟩) rfl (Nat.le_of_ble_eq_true rfl) dX11_same_1 ⟨Nat.le_refl _, Nat.le_refl _⟩) (fun _ => wback [0, 1, 2] rfl rfl) (fun H locs _ _ X => ?_)
  refine gb_if_eq (tgt := 25) hx hb dX11_same_4 (by decide) (fun c_4 => ?_) (fun c_4 => ?_)
  ·
    refine lv_iconst (v := (-1)) hx hb dX11_same_25 (by decide) ?_
    exact cfin_I (K) (trivial) (congrArg (fun z => wcat [anP Z an x0 La.1 x2 x3 ta.1 x5 x6 x7 x8 x9 hi sb sh, landP Z La τ, thP Z ta z K]) (zsamC_n (τ := τ) (F := F) (c := xc) (a := xa) (x := xq) (by first | exact fun q => c_4 q.1 | exact fun q => c_12 q.2.1 | exact fun q => zir_f1 c_16 q.2.2 | exact fun q => zir_f3 (n := 100) (by decide) c_22 q.2.2)).2.symm) ((zsamC_n (τ := τ) (F := F) (c := xc) (a := xa) (x := xq) (by first | exact fun q => c_4 q.1 | exact fun q => c_12 q.2.1 | exact fun q => zir_f1 c_16 q.2.2 | exact fun q => zir_f3 (n := 100) (by decide) c_22 q.2.2)).1.symm) X dX11_same_26 fin
  ·
    obtain ⟨jc, hjc, rfl⟩ := zir_of (by decide) c_4
    refine lv_aload_n hx hb dX11_same_7 rfl (lv_at hl 0 rfl) ?_
    refine lv_iload_n hx hb dX11_same_8 rfl (lv_at hl 2 rfl) ?_
    refine dtI_go (w := wcat [anP Z an x0 La.1 x2 x3 ta.1 x5 x6 x7 x8 x9 hi sb sh, landP Z La τ]) (wf := wcat [thP Z ta F K]) (W1 := fun _ => wcat [anP Z an x0 La.1 x2 x3 ta.1 x5 x6 x7 x8 x9 hi sb sh, landP Z La τ, thP Z ta F K]) G X (wsel [0, 1, 2] rfl rfl) (run_V (As := [.int xa]) (rest := []) (n := 1) G hml hts hl.1 (p_recv G X 0 0 rfl rfl rfl) (k11_isAnswer hE xa hok _) (cwV 1 hts (cg_V ck_579 ck_582 ck_583 ck_584 ck_89) rfl rfl rfl (by decide +kernel) ⟨Nat.le_of_ble_eq_true rfl, Nat.le_of_ble_eq_true rfl⟩) rfl (Nat.le_of_ble_eq_true rfl) dX11_same_9 ⟨Nat.le_refl _, Nat.le_refl _⟩) (fun _ => wback [0, 1, 2] rfl rfl) (fun H locs _ _ X => ?_)
    refine gb_if_eq (tgt := 25) hx hb dX11_same_12 (by decide) (fun c_12 => ?_) (fun c_12 => ?_)
    ·
      refine lv_iconst (v := (-1)) hx hb dX11_same_25 (by decide) ?_
      exact cfin_I (K) (trivial) (congrArg (fun z => wcat [anP Z an x0 La.1 x2 x3 ta.1 x5 x6 x7 x8 x9 hi sb sh, landP Z La τ, thP Z ta z K]) (zsamC_n (τ := τ) (F := F) (c := nI jc) (a := xa) (x := xq) (by first | exact fun q => c_4 q.1 | exact fun q => c_12 q.2.1 | exact fun q => zir_f1 c_16 q.2.2 | exact fun q => zir_f3 (n := 100) (by decide) c_22 q.2.2)).2.symm) ((zsamC_n (τ := τ) (F := F) (c := nI jc) (a := xa) (x := xq) (by first | exact fun q => c_4 q.1 | exact fun q => c_12 q.2.1 | exact fun q => zir_f1 c_16 q.2.2 | exact fun q => zir_f3 (n := 100) (by decide) c_22 q.2.2)).1.symm) X dX11_same_26 fin
    ·
      have hzr := c_12
      obtain ⟨ja, hja, rfl, hija⟩ := zanR_of (by omega) c_12
      refine lv_iload_n hx hb dX11_same_15 rfl (lv_at hl 3 rfl) ?_
      refine lv_if_lt (tgt := 25) hx hb dX11_same_16 (by decide) (fun c_16 => ?_) (fun c_16 => ?_)
      ·
        refine lv_iconst (v := (-1)) hx hb dX11_same_25 (by decide) ?_
        exact cfin_I (K) (trivial) (congrArg (fun z => wcat [anP Z an x0 La.1 x2 x3 ta.1 x5 x6 x7 x8 x9 hi sb sh, landP Z La τ, thP Z ta z K]) (zsamC_n (τ := τ) (F := F) (c := nI jc) (a := nI ja) (x := xq) (by first | exact fun q => c_4 q.1 | exact fun q => c_12 q.2.1 | exact fun q => zir_f1 c_16 q.2.2 | exact fun q => zir_f3 (n := 100) (by decide) c_22 q.2.2)).2.symm) ((zsamC_n (τ := τ) (F := F) (c := nI jc) (a := nI ja) (x := xq) (by first | exact fun q => c_4 q.1 | exact fun q => c_12 q.2.1 | exact fun q => zir_f1 c_16 q.2.2 | exact fun q => zir_f3 (n := 100) (by decide) c_22 q.2.2)).1.symm) X dX11_same_26 fin
      ·
        refine lv_iload_n hx hb dX11_same_19 rfl (lv_at hl 3 rfl) ?_
        refine lv_bipush (v := nI 100) hx hb dX11_same_20 (by decide) ?_
        refine lv_icmp_le (tgt := 27) hx hb dX11_same_22 (by decide) (fun c_22 => ?_) (fun c_22 => ?_)
        ·
          obtain ⟨jq, hjq, rfl⟩ := zir_of (by decide) (zir_t'' (n := 100) (by decide) c_16 c_22)
          refine lv_aload_n hx hb dX11_same_27 rfl (lv_at hl 0 rfl) ?_
          refine cg_11 G X 0 0 rfl rfl 4 (by decide) (G.2.2.2.1 _ ck_505) rfl rfl dX11_same_28 ?_
          refine lv_aload_n hx hb dX11_same_31 rfl (lv_at hl 0 rfl) ?_
          refine cg_11 G X 0 0 rfl rfl 1 (by decide) (G.2.2.2.1 _ ck_500) rfl rfl dX11_same_32 ?_
          refine lv_iload_n hx hb dX11_same_35 rfl (lv_at hl 1 rfl) ?_
          refine lv_iload_n hx hb dX11_same_36 rfl (lv_at hl 2 rfl) ?_
          refine lv_iload_n hx hb dX11_same_37 rfl (lv_at hl 3 rfl) ?_
          refine dtV_go (w := wcat [thP Z ta F K, landP Z La τ]) (wf := wcat [anP Z an x0 La.1 x2 x3 ta.1 x5 x6 x7 x8 x9 hi sb sh]) (W1 := fun _ => wcat [anP Z an x0 La.1 x2 x3 ta.1 x5 x6 x7 x8 x9 hi sb sh, landP Z La τ, thP Z ta F (zhe2 τ F (zplc jc ja) jq)]) G X (wsel [2, 1, 0] rfl rfl) (run_V (As := [.ref La.1, .int (nI jc), .int (nI ja), .int (nI jq)]) (rest := []) (n := 4) G hml hts hl.1 (p_recv G X 2 0 rfl rfl rfl) (k8_hearTwice hE jc ja jq hod (by omega) hja (by omega) _) (cwV 4 hts (cg_V ck_307 ck_600 ck_601 ck_602 ck_35) rfl rfl rfl (by decide +kernel) ⟨Nat.le_of_ble_eq_true rfl, Nat.le_of_ble_eq_true rfl⟩) rfl (Nat.le_of_ble_eq_true rfl) dX11_same_38 ⟨Nat.le_refl _, Nat.le_refl _⟩) (fun _ => wback [2, 1, 0] rfl rfl) (fun H locs _ _ X => ?_)
          refine lv_aload_n hx hb dX11_same_41 rfl (lv_at hl 0 rfl) ?_
          refine dtI_go (w := wcat [anP Z an x0 La.1 x2 x3 ta.1 x5 x6 x7 x8 x9 hi sb sh, landP Z La τ, thP Z ta F (zhe2 τ F (zplc jc ja) jq)]) (wf := wcat []) (W1 := fun _ => wcat [anP Z an x0 La.1 x2 x3 ta.1 x5 x6 x7 x8 x9 hi sb sh, landP Z La τ, thP Z ta (zlaF τ F (zhe2 τ F (zplc jc ja) jq)) (zhe2 τ F (zplc jc ja) jq)]) G X (wsel [0, 1, 2] rfl rfl) (run_V (As := []) (rest := []) (n := 0) G hml hts hl.1 (p_recv G X 0 0 rfl rfl rfl) (k11_likeliestAfterwards hE hok (zhe2_lt hod hF (zplc_lt hjc hja) (show jq ≤ 100 by omega)) _) (cwV 0 hts (cg_V ck_592 ck_594 ck_595 ck_596 ck_89) rfl rfl rfl (by decide +kernel) ⟨Nat.le_of_ble_eq_true rfl, Nat.le_of_ble_eq_true rfl⟩) rfl (Nat.le_of_ble_eq_true rfl) dX11_same_42 ⟨Nat.le_refl _, Nat.le_refl _⟩) (fun _ => wback [0, 1, 2] rfl rfl) (fun H locs _ _ X => ?_)
          exact cfin_I (zhe2 τ F (zplc jc ja) jq) (trivial) (congrArg (fun z => wcat [anP Z an x0 La.1 x2 x3 ta.1 x5 x6 x7 x8 x9 hi sb sh, landP Z La τ, thP Z ta z (zhe2 τ F (zplc jc ja) jq)]) (zsamC_v (τ := τ) (F := F) hjc hzr hija hjq).2.symm) ((zsamC_v (τ := τ) (F := F) hjc hzr hija hjq).1.symm) X dX11_same_45 fin
        ·
          refine lv_iconst (v := (-1)) hx hb dX11_same_25 (by decide) ?_
          exact cfin_I (K) (trivial) (congrArg (fun z => wcat [anP Z an x0 La.1 x2 x3 ta.1 x5 x6 x7 x8 x9 hi sb sh, landP Z La τ, thP Z ta z K]) (zsamC_n (τ := τ) (F := F) (c := nI jc) (a := nI ja) (x := xq) (by first | exact fun q => c_4 q.1 | exact fun q => c_12 q.2.1 | exact fun q => zir_f1 c_16 q.2.2 | exact fun q => zir_f3 (n := 100) (by decide) c_22 q.2.2)).2.symm) ((zsamC_n (τ := τ) (F := F) (c := nI jc) (a := nI ja) (x := xq) (by first | exact fun q => c_4 q.1 | exact fun q => c_12 q.2.1 | exact fun q => zir_f1 c_16 q.2.2 | exact fun q => zir_f3 (n := 100) (by decide) c_22 q.2.2)).1.symm) X dX11_same_26 fin
set_option maxHeartbeats 4000000 in
set_option maxRecDepth 100000 in
theorem k11_askingFor {E : (Nat → Prop) → State → Heap → Prop} (hE : cEok E) {l : Launch} {D : va_G} {Z : Nat → ClassId} {an : Nat × Nat × Nat} {x0 x2 x3 x5 x6 x7 x8 x9 hi : Nat} {sb sh : Nat → Nat} {x1 : Nat} {ta : Nat × Nat × Nat} {F K : Nat → Nat} (xc : Nat) (hc : xc ≤ 30) : dtL E l D Z yX11_askingFor (Cond.code yX11_askingFor cX11_askingFor 2 (some .long) :: cW) { frames := 1, cells := 0, slots := 0, locals := 23 } [.ref an.1, .int (nI xc)] (wcat [anP Z an x0 x1 x2 x3 ta.1 x5 x6 x7 x8 x9 hi sb sh, thP Z ta F K]) (S := Unit) (fun _ => wcat [anP Z an x0 x1 x2 x3 ta.1 x5 x6 x7 x8 x9 hi sb sh, thP Z ta F K]) (fun _ => lN (100 * xc * zsum F 5)) (fun _ => True) := by
  refine dtL_of hE (cc := cX11_askingFor) (maxL := 2) (by decide +kernel) (fun w h => List.mem_cons_of_mem _ h) (Nat.le_of_ble_eq_true rfl) ?_
  intro p e s m args below meth c A Q ls hx hb hml hown hts G X hl fin
  replace hl : lv_has ls 2 [(0, .ref an.1), (1, .int (nI xc))] := hl
  refine lv_bipush (v := nI 100) hx hb dX11_askingFor_0 (by decide) ?_
  refine lv_iload_n hx hb dX11_askingFor_2 rfl (lv_at hl 1 rfl) ?_
  refine gn_imul hx hb dX11_askingFor_3  ?_
  refine gn_i2l hx hb dX11_askingFor_4 (by omega) ?_
  refine lv_aload_n hx hb dX11_askingFor_5 rfl (lv_at hl 0 rfl) ?_
  refine cg_11 G X 0 0 rfl rfl 4 (by decide) (G.2.2.2.1 _ ck_505) rfl rfl dX11_askingFor_6 ?_
  refine dtL_go (w := wcat [thP Z ta F K]) (wf := wcat [anP Z an x0 x1 x2 x3 ta.1 x5 x6 x7 x8 x9 hi sb sh]) (W1 := fun _ => wcat [anP Z an x0 x1 x2 x3 ta.1 x5 x6 x7 x8 x9 hi sb sh, thP Z ta F K]) G X (wsel [1, 0] rfl rfl) (run_V (As := []) (rest := [.long (lN (100 * xc))]) (n := 0) G hml hts hl.1 (p_recv G X 1 0 rfl rfl rfl) (k8_all hE  _) (cwV 0 hts (cg_V ck_28 ck_607 ck_37 ck_38 ck_35) rfl rfl rfl (by decide +kernel) ⟨Nat.le_of_ble_eq_true rfl, Nat.le_of_ble_eq_true rfl⟩) rfl (Nat.le_of_ble_eq_true rfl) dX11_askingFor_9 ⟨Nat.le_refl _, Nat.le_refl _⟩) (fun _ => wback [1, 0] rfl rfl) (fun H locs _ _ X => ?_)
  refine gn_lmul hx hb dX11_askingFor_12  ?_
  exact cfin_L (()) (trivial) (rfl) (rfl) X dX11_askingFor_13 fin
