set_option maxHeartbeats 4000000 in
set_option maxRecDepth 100000 in
theorem k11_ruleOn {E : (Nat → Prop) → State → Heap → Prop} (hE : cEok E) {l : Launch} {D : va_G} {Z : Nat → ClassId} {an : Nat × Nat × Nat} {x0 x1 x2 x3 x4 x5 x6 x7 x8 x9 hi : Nat} {sb sh : Nat → Nat} (xd : Int32)  : dtQ E l D Z yX11_ruleOn (Cond.code yX11_ruleOn cX11_ruleOn 2 (some (.object "AskNext$Rule")) :: cW) { frames := 1, cells := 0, slots := 0, locals := 20 } [.ref an.1, .int xd] (wcat [anP Z an x0 x1 x2 x3 x4 x5 x6 x7 x8 x9 hi sb sh]) (S := Unit) (fun _ => wcat [anP Z an x0 x1 x2 x3 x4 x5 x6 x7 x8 x9 hi sb sh]) (fun _ => shQ sb sh 1 xd) (fun _ => True) := by
  refine dtQ_of hE (cc := cX11_ruleOn) (maxL := 2) (Or.inl ⟨_, rfl⟩) (by decide +kernel) (fun w h => List.mem_cons_of_mem _ h) (Nat.le_of_ble_eq_true rfl) ?_
  intro p e s m args below meth c A Q ls hx hb hml hown hts G X hl fin
  replace hl : lv_has ls 2 [(0, .ref an.1), (1, .int xd)] := hl
  refine lv_iload_n hx hb dX11_ruleOn_0 rfl (lv_at hl 1 rfl) ?_
  refine dtI_go (w := wcat []) (wf := wcat [anP Z an x0 x1 x2 x3 x4 x5 x6 x7 x8 x9 hi sb sh]) (W1 := fun _ => wcat [anP Z an x0 x1 x2 x3 x4 x5 x6 x7 x8 x9 hi sb sh]) G X (wsel [0] rfl rfl) (run_S (As := [.int xd]) (rest := []) (n := 1) G hml hts hl.1 (k11_isShelf hE xd _) (va_cwS 1 hts (cg_S ck_525 ck_527 ck_528 ck_89) rfl rfl rfl (by decide +kernel) ⟨Nat.le_of_ble_eq_true rfl, Nat.le_of_ble_eq_true rfl⟩) rfl (Nat.le_of_ble_eq_true rfl) dX11_ruleOn_1 ⟨Nat.le_refl _, Nat.le_refl _⟩) (fun _ => wback [0] rfl rfl) (fun H locs _ _ X => ?_)
  refine gb_if_eq (tgt := 16) hx hb dX11_ruleOn_4 (by decide) (fun c_4 => ?_) (fun c_4 => ?_)
  ·
    refine lv_null hx hb dX11_ruleOn_16 ?_
    exact cfin_Q (x := none) (()) (trivial) (rfl) (by unfold shQ; rw [if_neg c_4]) X dX11_ruleOn_17 fin
  ·
    obtain ⟨jd, hjd, rfl⟩ := zir_of (by decide) c_4
    refine lv_aload_n hx hb dX11_ruleOn_7 rfl (lv_at hl 0 rfl) ?_
    refine cg_11 G X 0 0 rfl rfl 10 (by decide) (G.2.2.2.1 _ ck_516) rfl rfl dX11_ruleOn_8 ?_
    refine lv_iload_n hx hb dX11_ruleOn_11 rfl (lv_at hl 1 rfl) ?_
    refine cr_aaldq 3 (fun _ => rfl) G X 0 1 rfl rfl (by omega) (by decide) dX11_ruleOn_12 ?_
    refine lv_goto (tgt := 17) hx hb dX11_ruleOn_13 (by decide) ?_
    exact cfin_Q (x := shR sb sh 1 jd) (()) (trivial) (rfl) ((shQ_j hjd).symm) X dX11_ruleOn_17 fin
set_option maxHeartbeats 4000000 in
set_option maxRecDepth 100000 in
theorem k11_rowOn {E : (Nat → Prop) → State → Heap → Prop} (hE : cEok E) {l : Launch} {D : va_G} {Z : Nat → ClassId} {an : Nat × Nat × Nat} {x0 x1 x2 x3 x4 x5 x6 x7 x8 x9 hi : Nat} {sb sh : Nat → Nat} (xd : Int32)  : dtQ E l D Z yX11_rowOn (Cond.code yX11_rowOn cX11_rowOn 2 (some (.object "AskNext$Row")) :: cW) { frames := 1, cells := 0, slots := 0, locals := 20 } [.ref an.1, .int xd] (wcat [anP Z an x0 x1 x2 x3 x4 x5 x6 x7 x8 x9 hi sb sh]) (S := Unit) (fun _ => wcat [anP Z an x0 x1 x2 x3 x4 x5 x6 x7 x8 x9 hi sb sh]) (fun _ => shQ sb sh 2 xd) (fun _ => True) := by
  refine dtQ_of hE (cc := cX11_rowOn) (maxL := 2) (Or.inl ⟨_, rfl⟩) (by decide +kernel) (fun w h => List.mem_cons_of_mem _ h) (Nat.le_of_ble_eq_true rfl) ?_
  intro p e s m args below meth c A Q ls hx hb hml hown hts G X hl fin
  replace hl : lv_has ls 2 [(0, .ref an.1), (1, .int xd)] := hl
  refine lv_iload_n hx hb dX11_rowOn_0 rfl (lv_at hl 1 rfl) ?_
  refine dtI_go (w := wcat []) (wf := wcat [anP Z an x0 x1 x2 x3 x4 x5 x6 x7 x8 x9 hi sb sh]) (W1 := fun _ => wcat [anP Z an x0 x1 x2 x3 x4 x5 x6 x7 x8 x9 hi sb sh]) G X (wsel [0] rfl rfl) (run_S (As := [.int xd]) (rest := []) (n := 1) G hml hts hl.1 (k11_isShelf hE xd _) (va_cwS 1 hts (cg_S ck_525 ck_527 ck_528 ck_89) rfl rfl rfl (by decide +kernel) ⟨Nat.le_of_ble_eq_true rfl, Nat.le_of_ble_eq_true rfl⟩) rfl (Nat.le_of_ble_eq_true rfl) dX11_rowOn_1 ⟨Nat.le_refl _, Nat.le_refl _⟩) (fun _ => wback [0] rfl rfl) (fun H locs _ _ X => ?_)
  refine gb_if_eq (tgt := 16) hx hb dX11_rowOn_4 (by decide) (fun c_4 => ?_) (fun c_4 => ?_)
  ·
    refine lv_null hx hb dX11_rowOn_16 ?_
    exact cfin_Q (x := none) (()) (trivial) (rfl) (by unfold shQ; rw [if_neg c_4]) X dX11_rowOn_17 fin
  ·
    obtain ⟨jd, hjd, rfl⟩ := zir_of (by decide) c_4
    refine lv_aload_n hx hb dX11_rowOn_7 rfl (lv_at hl 0 rfl) ?_
    refine cg_11 G X 0 0 rfl rfl 11 (by decide) (G.2.2.2.1 _ ck_518) rfl rfl dX11_rowOn_8 ?_
    refine lv_iload_n hx hb dX11_rowOn_11 rfl (lv_at hl 1 rfl) ?_
    refine cr_aaldq 4 (fun _ => rfl) G X 0 2 rfl rfl (by omega) (by decide) dX11_rowOn_12 ?_
    refine lv_goto (tgt := 17) hx hb dX11_rowOn_13 (by decide) ?_
    exact cfin_Q (x := shR sb sh 2 jd) (()) (trivial) (rfl) ((shQ_j hjd).symm) X dX11_rowOn_17 fin
set_option maxHeartbeats 4000000 in
set_option maxRecDepth 100000 in
theorem k11_isEmpty {E : (Nat → Prop) → State → Heap → Prop} (hE : cEok E) {l : Launch} {D : va_G} {Z : Nat → ClassId} {an : Nat × Nat × Nat} {x0 x1 x2 x3 x4 x5 x6 x7 x8 x9 hi : Nat} {sb sh : Nat → Nat} (xd : Int32)  : dtI E l D Z yX11_isEmpty (Cond.code yX11_isEmpty cX11_isEmpty 2 (some .boolean) :: cW) { frames := 2, cells := 0, slots := 0, locals := 41 } [.ref an.1, .int xd] (wcat [anP Z an x0 x1 x2 x3 x4 x5 x6 x7 x8 x9 hi sb sh]) (S := Unit) (fun _ => wcat [anP Z an x0 x1 x2 x3 x4 x5 x6 x7 x8 x9 hi sb sh]) (fun _ => if shE sh xd then 1 else 0) (fun _ => True) := by
  refine dtZ_of hE (cc := cX11_isEmpty) (maxL := 2) (hnar := fun _ _ => zb_ite) (by decide +kernel) (fun w h => List.mem_cons_of_mem _ h) (Nat.le_of_ble_eq_true rfl) ?_
  intro p e s m args below meth c A Q ls hx hb hml hown hts G X hl fin
  replace hl : lv_has ls 2 [(0, .ref an.1), (1, .int xd)] := hl
  refine lv_aload_n hx hb dX11_isEmpty_0 rfl (lv_at hl 0 rfl) ?_
  refine lv_iload_n hx hb dX11_isEmpty_1 rfl (lv_at hl 1 rfl) ?_
  refine dtQ_go (w := wcat [anP Z an x0 x1 x2 x3 x4 x5 x6 x7 x8 x9 hi sb sh]) (wf := wcat []) (W1 := fun _ => wcat [anP Z an x0 x1 x2 x3 x4 x5 x6 x7 x8 x9 hi sb sh]) G X (wsel [0] rfl rfl) (run_V (As := [.int xd]) (rest := []) (n := 1) G hml hts hl.1 (p_recv G X 0 0 rfl rfl rfl) (k11_ruleOn hE xd _) (cwV 1 hts (cg_V ck_529 ck_531 ck_532 ck_533 ck_89) rfl rfl rfl (by decide +kernel) ⟨Nat.le_of_ble_eq_true rfl, Nat.le_of_ble_eq_true rfl⟩) rfl (Nat.le_of_ble_eq_true rfl) dX11_isEmpty_2 ⟨Nat.le_refl _, Nat.le_refl _⟩) (fun _ => wback [0] rfl rfl) (fun H locs _ _ X => ?_)
  by_cases q_2 : zir xd 8 ∧ sh xd.toInt.toNat = 1
  · obtain ⟨jd, hjd, rfl⟩ := zir_of (by decide) q_2.1
    rw [nI_N (by omega)] at q_2
    refine gq_s (shQ_s hjd q_2.2) ?_
    refine lv_ifnonnull (tgt := 20) hx hb dX11_isEmpty_5 (by decide) ?_
    refine lv_iconst (v := nI 0) hx hb dX11_isEmpty_20 (by decide) ?_
    exact cfin_I (()) (trivial) (rfl) (by first | exact zb_t (fun q => q.2.elim (fun e => q_2 ⟨q.1, e⟩) (fun e => q_10 ⟨q.1, e⟩)) | exact zb_f (fun h => h ⟨zir_N hjd (by decide), by rw [nI_N (by omega)]; exact Or.inl q_2.2⟩) | exact zb_f (fun h => h ⟨zir_N hjd (by decide), by rw [nI_N (by omega)]; exact Or.inr q_10.2⟩)) X dX11_isEmpty_21 fin
  · refine gq_n (shQ_n q_2) ?_
    refine lv_ifnonnullN hx hb dX11_isEmpty_5 ?_
    refine lv_aload_n hx hb dX11_isEmpty_8 rfl (lv_at hl 0 rfl) ?_
    refine lv_iload_n hx hb dX11_isEmpty_9 rfl (lv_at hl 1 rfl) ?_
    refine dtQ_go (w := wcat [anP Z an x0 x1 x2 x3 x4 x5 x6 x7 x8 x9 hi sb sh]) (wf := wcat []) (W1 := fun _ => wcat [anP Z an x0 x1 x2 x3 x4 x5 x6 x7 x8 x9 hi sb sh]) G X (wsel [0] rfl rfl) (run_V (As := [.int xd]) (rest := []) (n := 1) G hml hts hl.1 (p_recv G X 0 0 rfl rfl rfl) (k11_rowOn hE xd _) (cwV 1 hts (cg_V ck_526 ck_534 ck_535 ck_536 ck_89) rfl rfl rfl (by decide +kernel) ⟨Nat.le_of_ble_eq_true rfl, Nat.le_of_ble_eq_true rfl⟩) rfl (Nat.le_of_ble_eq_true rfl) dX11_isEmpty_10 ⟨Nat.le_refl _, Nat.le_refl _⟩) (fun _ => wback [0] rfl rfl) (fun H locs _ _ X => ?_)
    by_cases q_10 : zir xd 8 ∧ sh xd.toInt.toNat = 2
    · obtain ⟨jd, hjd, rfl⟩ := zir_of (by decide) q_10.1
      rw [nI_N (by omega)] at q_10
      refine gq_s (shQ_s hjd q_10.2) ?_
      refine lv_ifnonnull (tgt := 20) hx hb dX11_isEmpty_13 (by decide) ?_
      refine lv_iconst (v := nI 0) hx hb dX11_isEmpty_20 (by decide) ?_
      exact cfin_I (()) (trivial) (rfl) (by first | exact zb_t (fun q => q.2.elim (fun e => q_2 ⟨q.1, e⟩) (fun e => q_10 ⟨q.1, e⟩)) | exact zb_f (fun h => h ⟨zir_N hjd (by decide), by rw [nI_N (by omega)]; exact Or.inl q_2.2⟩) | exact zb_f (fun h => h ⟨zir_N hjd (by decide), by rw [nI_N (by omega)]; exact Or.inr q_10.2⟩)) X dX11_isEmpty_21 fin
    · refine gq_n (shQ_n q_10) ?_
      refine lv_ifnonnullN hx hb dX11_isEmpty_13 ?_
      refine lv_iconst (v := nI 1) hx hb dX11_isEmpty_16 (by decide) ?_
      refine lv_goto (tgt := 21) hx hb dX11_isEmpty_17 (by decide) ?_
      exact cfin_I (()) (trivial) (rfl) (by first | exact zb_t (fun q => q.2.elim (fun e => q_2 ⟨q.1, e⟩) (fun e => q_10 ⟨q.1, e⟩)) | exact zb_f (fun h => h ⟨zir_N hjd (by decide), by rw [nI_N (by omega)]; exact Or.inl q_2.2⟩) | exact zb_f (fun h => h ⟨zir_N hjd (by decide), by rw [nI_N (by omega)]; exact Or.inr q_10.2⟩)) X dX11_isEmpty_21 fin
set_option maxHeartbeats 4000000 in
set_option maxRecDepth 100000 in
theorem k11_lackOn {E : (Nat → Prop) → State → Heap → Prop} (hE : cEok E) {l : Launch} {D : va_G} {Z : Nat → ClassId} {an : Nat × Nat × Nat} {x0 x1 x2 x3 x4 x5 x6 x7 x8 x9 hi : Nat} {sb sh : Nat → Nat} (xd : Int32)  : dtI E l D Z yX11_lackOn (Cond.code yX11_lackOn cX11_lackOn 2 (some .int) :: cW) { frames := 3, cells := 0, slots := 0, locals := 62 } [.ref an.1, .int xd] (wcat [anP Z an x0 x1 x2 x3 x4 x5 x6 x7 x8 x9 hi sb sh]) (S := Unit) (fun _ => wcat [anP Z an x0 x1 x2 x3 x4 x5 x6 x7 x8 x9 hi sb sh]) (fun _ => shL sh xd) (fun _ => True) := by
  refine dtI_of hE (cc := cX11_lackOn) (maxL := 2) (by decide +kernel) (fun w h => List.mem_cons_of_mem _ h) (Nat.le_of_ble_eq_true rfl) ?_
  intro p e s m args below meth c A Q ls hx hb hml hown hts G X hl fin
  replace hl : lv_has ls 2 [(0, .ref an.1), (1, .int xd)] := hl
  refine lv_iload_n hx hb dX11_lackOn_0 rfl (lv_at hl 1 rfl) ?_
  refine dtI_go (w := wcat []) (wf := wcat [anP Z an x0 x1 x2 x3 x4 x5 x6 x7 x8 x9 hi sb sh]) (W1 := fun _ => wcat [anP Z an x0 x1 x2 x3 x4 x5 x6 x7 x8 x9 hi sb sh]) G X (wsel [0] rfl rfl) (run_S (As := [.int xd]) (rest := []) (n := 1) G hml hts hl.1 (k11_isShelf hE xd _) (va_cwS 1 hts (cg_S ck_525 ck_527 ck_528 ck_89) rfl rfl rfl (by decide +kernel) ⟨Nat.le_of_ble_eq_true rfl, Nat.le_of_ble_eq_true rfl⟩) rfl (Nat.le_of_ble_eq_true rfl) dX11_lackOn_1 ⟨Nat.le_refl _, Nat.le_refl _⟩) (fun _ => wback [0] rfl rfl) (fun H locs _ _ X => ?_)
  refine gb_if_ne (tgt := 9) hx hb dX11_lackOn_4 (by decide) (fun c_4 => ?_) (fun c_4 => ?_)
  ·
    refine lv_aload_n hx hb dX11_lackOn_9 rfl (lv_at hl 0 rfl) ?_
    refine lv_iload_n hx hb dX11_lackOn_10 rfl (lv_at hl 1 rfl) ?_
    refine dtI_go (w := wcat [anP Z an x0 x1 x2 x3 x4 x5 x6 x7 x8 x9 hi sb sh]) (wf := wcat []) (W1 := fun _ => wcat [anP Z an x0 x1 x2 x3 x4 x5 x6 x7 x8 x9 hi sb sh]) G X (wsel [0] rfl rfl) (run_V (As := [.int xd]) (rest := []) (n := 1) G hml hts hl.1 (p_recv G X 0 0 rfl rfl rfl) (k11_isEmpty hE xd _) (cwV 1 hts (cg_V ck_530 ck_538 ck_539 ck_540 ck_89) rfl rfl rfl (by decide +kernel) ⟨Nat.le_of_ble_eq_true rfl, Nat.le_of_ble_eq_true rfl⟩) rfl (Nat.le_of_ble_eq_true rfl) dX11_lackOn_11 ⟨Nat.le_refl _, Nat.le_refl _⟩) (fun _ => wback [0] rfl rfl) (fun H locs _ _ X => ?_)
    refine gb_if_eq (tgt := 22) hx hb dX11_lackOn_14 (by decide) (fun c_14 => ?_) (fun c_14 => ?_)
    ·
      refine lv_bipush (v := (-12)) hx hb dX11_lackOn_22 (by decide) ?_
      exact cfin_I (()) (trivial) (rfl) (by unfold shL; first | rw [if_neg (fun q => q c_4), if_pos c_14] | rw [if_neg (fun q => q c_4), if_neg c_14]) X dX11_lackOn_24 fin
    ·
      refine lv_bipush (v := (-11)) hx hb dX11_lackOn_17 (by decide) ?_
      refine lv_goto (tgt := 24) hx hb dX11_lackOn_19 (by decide) ?_
      exact cfin_I (()) (trivial) (rfl) (by unfold shL; first | rw [if_neg (fun q => q c_4), if_pos c_14] | rw [if_neg (fun q => q c_4), if_neg c_14]) X dX11_lackOn_24 fin
  ·
    refine lv_iconst (v := (-1)) hx hb dX11_lackOn_7 (by decide) ?_
    exact cfin_I (()) (trivial) (rfl) ((if_pos c_4).symm) X dX11_lackOn_8 fin
set_option maxHeartbeats 4000000 in
set_option maxRecDepth 100000 in
theorem k11_isAnswer {E : (Nat → Prop) → State → Heap → Prop} (hE : cEok E) {l : Launch} {D : va_G} {Z : Nat → ClassId} {an : Nat × Nat × Nat} {x0 x2 x3 x4 x5 x6 x7 x8 x9 hi : Nat} {sb sh : Nat → Nat} {La : LA} {τ : MS} (xa : Int32) (hok : mOk τ) : dtI E l D Z yX11_isAnswer (Cond.code yX11_isAnswer cX11_isAnswer 2 (some .boolean) :: cW) { frames := 1, cells := 0, slots := 0, locals := 21 } [.ref an.1, .int xa] (wcat [anP Z an x0 La.1 x2 x3 x4 x5 x6 x7 x8 x9 hi sb sh, landP Z La τ]) (S := Unit) (fun _ => wcat [anP Z an x0 La.1 x2 x3 x4 x5 x6 x7 x8 x9 hi sb sh, landP Z La τ]) (fun _ => if zanR τ xa then 1 else 0) (fun _ => True) := by
  refine dtZ_of hE (cc := cX11_isAnswer) (maxL := 2) (hnar := fun _ _ => zb_ite) (by decide +kernel) (fun w h => List.mem_cons_of_mem _ h) (Nat.le_of_ble_eq_true rfl) ?_
  intro p e s m args below meth c A Q ls hx hb hml hown hts G X hl fin
  replace hl : lv_has ls 2 [(0, .ref an.1), (1, .int xa)] := hl
  refine lv_iload_n hx hb dX11_isAnswer_0 rfl (lv_at hl 1 rfl) ?_
  refine lv_iconst (v := nI 4294967295) hx hb dX11_isAnswer_1 (by decide) ?_
  refine lv_icmp_eq (tgt := 16) hx hb dX11_isAnswer_2 (by decide) (fun c_2 => ?_) (fun c_2 => ?_)
  ·
    refine lv_iconst (v := nI 1) hx hb dX11_isAnswer_16 (by decide) ?_
    refine lv_goto (tgt := 21) hx hb dX11_isAnswer_17 (by decide) ?_
    exact cfin_I (()) (trivial) (rfl) (by first | exact zb_f (zanR_no c_2 c_13) | exact zb_t (zanR_in c_13) | exact zb_t (by rw [show xa = nI 4294967295 from c_2]; exact zanR_m1)) X dX11_isAnswer_21 fin
  ·
    refine lv_aload_n hx hb dX11_isAnswer_5 rfl (lv_at hl 0 rfl) ?_
    refine cg_11 G X 0 0 rfl rfl 1 (by decide) (G.2.2.2.1 _ ck_500) rfl rfl dX11_isAnswer_6 ?_
    refine lv_iload_n hx hb dX11_isAnswer_9 rfl (lv_at hl 1 rfl) ?_
    refine dtI_go (w := wcat [landP Z La τ]) (wf := wcat [anP Z an x0 La.1 x2 x3 x4 x5 x6 x7 x8 x9 hi sb sh]) (W1 := fun _ => wcat [anP Z an x0 La.1 x2 x3 x4 x5 x6 x7 x8 x9 hi sb sh, landP Z La τ]) G X (wsel [1, 0] rfl rfl) (run_V (As := [.int xa]) (rest := []) (n := 1) G hml hts hl.1 (p_recv G X 1 0 rfl rfl rfl) (k2_hasWorld hE xa hok _) (cwV 1 hts (cg_V ck_72 ck_565 ck_297 ck_298 ck_79) rfl rfl rfl (by decide +kernel) ⟨Nat.le_of_ble_eq_true rfl, Nat.le_of_ble_eq_true rfl⟩) rfl (Nat.le_of_ble_eq_true rfl) dX11_isAnswer_10 ⟨Nat.le_refl _, Nat.le_refl _⟩) (fun _ => wback [1, 0] rfl rfl) (fun H locs _ _ X => ?_)
    refine gb_if_eq (tgt := 20) hx hb dX11_isAnswer_13 (by decide) (fun c_13 => ?_) (fun c_13 => ?_)
    ·
      refine lv_iconst (v := nI 0) hx hb dX11_isAnswer_20 (by decide) ?_
      exact cfin_I (()) (trivial) (rfl) (by first | exact zb_f (zanR_no c_2 c_13) | exact zb_t (zanR_in c_13) | exact zb_t (by rw [show xa = nI 4294967295 from c_2]; exact zanR_m1)) X dX11_isAnswer_21 fin
    ·
      refine lv_iconst (v := nI 1) hx hb dX11_isAnswer_16 (by decide) ?_
      refine lv_goto (tgt := 21) hx hb dX11_isAnswer_17 (by decide) ?_
      exact cfin_I (()) (trivial) (rfl) (by first | exact zb_f (zanR_no c_2 c_13) | exact zb_t (zanR_in c_13) | exact zb_t (by rw [show xa = nI 4294967295 from c_2]; exact zanR_m1)) X dX11_isAnswer_21 fin
set_option maxHeartbeats 4000000 in
set_option maxRecDepth 100000 in
theorem k11_road {E : (Nat → Prop) → State → Heap → Prop} (hE : cEok E) {l : Launch} {D : va_G} {Z : Nat → ClassId} {an : Nat × Nat × Nat} {x0 x2 x3 x4 x5 x6 x7 x8 x9 hi : Nat} {sb sh : Nat → Nat} {La : LA} {τ : MS} (xr : Int32) (xk : Int32) (hok : mOk τ) : dtI E l D Z yX11_road (Cond.code yX11_road cX11_road 3 (some .int) :: cW) { frames := 1, cells := 0, slots := 0, locals := 21 } [.ref an.1, .int xr, .int xk] (wcat [anP Z an x0 La.1 x2 x3 x4 x5 x6 x7 x8 x9 hi sb sh, landP Z La τ]) (S := Unit) (fun _ => wcat [anP Z an x0 La.1 x2 x3 x4 x5 x6 x7 x8 x9 hi sb sh, landP Z La τ]) (fun _ => zroadS τ xr xk) (fun _ => True) := by
  refine dtI_of hE (cc := cX11_road) (maxL := 3) (by decide +kernel) (fun w h => List.mem_cons_of_mem _ h) (Nat.le_of_ble_eq_true rfl) ?_
  intro p e s m args below meth c A Q ls hx hb hml hown hts G X hl fin
  replace hl : lv_has ls 3 [(0, .ref an.1), (1, .int xr), (2, .int xk)] := hl
  obtain ⟨k0, k4, k8, kr, kw, ks, kmet, kmt, k12, k13⟩ := id hok
  refine lv_aload_n hx hb dX11_road_0 rfl (lv_at hl 0 rfl) ?_
  refine cg_11 G X 0 0 rfl rfl 1 (by decide) (G.2.2.2.1 _ ck_500) rfl rfl dX11_road_1 ?_
  refine lv_iload_n hx hb dX11_road_4 rfl (lv_at hl 1 rfl) ?_
  refine dtI_go (w := wcat [landP Z La τ]) (wf := wcat [anP Z an x0 La.1 x2 x3 x4 x5 x6 x7 x8 x9 hi sb sh]) (W1 := fun _ => wcat [anP Z an x0 La.1 x2 x3 x4 x5 x6 x7 x8 x9 hi sb sh, landP Z La τ]) G X (wsel [1, 0] rfl rfl) (run_V (As := [.int xr]) (rest := []) (n := 1) G hml hts hl.1 (p_recv G X 1 0 rfl rfl rfl) (k2_hasRoad hE xr hok _) (cwV 1 hts (cg_V ck_71 ck_560 ck_459 ck_460 ck_79) rfl rfl rfl (by decide +kernel) ⟨Nat.le_of_ble_eq_true rfl, Nat.le_of_ble_eq_true rfl⟩) rfl (Nat.le_of_ble_eq_true rfl) dX11_road_5 ⟨Nat.le_refl _, Nat.le_refl _⟩) (fun _ => wback [1, 0] rfl rfl) (fun H locs _ _ X => ?_)
  refine gb_if_ne (tgt := 13) hx hb dX11_road_8 (by decide) (fun c_8 => ?_) (fun c_8 => ?_)
  ·
    obtain ⟨jr, hjr, rfl⟩ := zir_of (by omega) c_8
    refine lv_iload_n hx hb dX11_road_13 rfl (lv_at hl 2 rfl) ?_
    by_cases t_14_0 : xk = nI 0
    · refine gi_raw t_14_0 ?_
      refine gn_tableIn (a := 0) (tgt := 40) hx hb dX11_road_14 (by decide) (by decide) (by decide) rfl (by decide) ?_
      refine lv_aload_n hx hb dX11_road_40 rfl (lv_at hl 0 rfl) ?_
      refine cg_11 G X 0 0 rfl rfl 1 (by decide) (G.2.2.2.1 _ ck_500) rfl rfl dX11_road_41 ?_
      refine cg_2 G X 1 0 rfl rfl 1 (by decide) (G.2.2.2.1 _ ck_557) rfl rfl dX11_road_44 ?_
      refine lv_iload_n hx hb dX11_road_47 rfl (lv_at hl 1 rfl) ?_
      refine cr_iald G X 1 1 rfl rfl (by omega) (by decide) dX11_road_48 ?_
      refine gi_eq (a := (τ.2 1 jr)) (zcl_in (by omega)) ?_
      exact cfin_I (()) (trivial) (rfl) (by rw [t_14_0]; exact (zroadS_0 hjr (by omega)).symm) X dX11_road_49 fin
    by_cases t_14_1 : xk = nI 1
    · refine gi_raw t_14_1 ?_
      refine gn_tableIn (a := 1) (tgt := 50) hx hb dX11_road_14 (by decide) (by decide) (by decide) rfl (by decide) ?_
      refine lv_aload_n hx hb dX11_road_50 rfl (lv_at hl 0 rfl) ?_
      refine cg_11 G X 0 0 rfl rfl 1 (by decide) (G.2.2.2.1 _ ck_500) rfl rfl dX11_road_51 ?_
      refine cg_2 G X 1 0 rfl rfl 2 (by decide) (G.2.2.2.1 _ ck_558) rfl rfl dX11_road_54 ?_
      refine lv_iload_n hx hb dX11_road_57 rfl (lv_at hl 1 rfl) ?_
      refine cr_iald G X 1 2 rfl rfl (by omega) (by decide) dX11_road_58 ?_
      refine gi_eq (a := (τ.2 2 jr)) (zcl_in (by omega)) ?_
      exact cfin_I (()) (trivial) (rfl) (by rw [t_14_1]; exact (zroadS_1 hjr (by omega)).symm) X dX11_road_59 fin
    by_cases t_14_2 : xk = nI 2
    · refine gi_raw t_14_2 ?_
      refine gn_tableIn (a := 2) (tgt := 60) hx hb dX11_road_14 (by decide) (by decide) (by decide) rfl (by decide) ?_
      refine lv_aload_n hx hb dX11_road_60 rfl (lv_at hl 0 rfl) ?_
      refine cg_11 G X 0 0 rfl rfl 1 (by decide) (G.2.2.2.1 _ ck_500) rfl rfl dX11_road_61 ?_
      refine cg_2 G X 1 0 rfl rfl 3 (by decide) (G.2.2.2.1 _ ck_559) rfl rfl dX11_road_64 ?_
      refine lv_iload_n hx hb dX11_road_67 rfl (lv_at hl 1 rfl) ?_
      refine cr_iald G X 1 3 rfl rfl (by omega) (by decide) dX11_road_68 ?_
      refine gi_eq (a := (τ.2 3 jr)) (zcl_in (by omega)) ?_
      exact cfin_I (()) (trivial) (rfl) (by rw [t_14_2]; exact (zroadS_2 hjr (by omega)).symm) X dX11_road_69 fin
    refine lv_tableOut (tgt := 70) hx hb dX11_road_14 (zout2 t_14_0 t_14_1 t_14_2) (by decide) ?_
    refine lv_iconst (v := (-1)) hx hb dX11_road_70 (by decide) ?_
    exact cfin_I (()) (trivial) (rfl) ((zroadS_n2 (znot3 (zout2 t_14_0 t_14_1 t_14_2))).symm) X dX11_road_71 fin
  ·
    refine lv_iconst (v := (-1)) hx hb dX11_road_11 (by decide) ?_
    exact cfin_I (()) (trivial) (rfl) ((zroadS_n1 c_8).symm) X dX11_road_12 fin
set_option maxHeartbeats 4000000 in
set_option maxRecDepth 100000 in
theorem k11_world {E : (Nat → Prop) → State → Heap → Prop} (hE : cEok E) {l : Launch} {D : va_G} {Z : Nat → ClassId} {an : Nat × Nat × Nat} {x0 x2 x3 x4 x5 x6 x7 x8 x9 hi : Nat} {sb sh : Nat → Nat} {La : LA} {τ : MS} (xr : Int32) (xk : Int32) (hok : mOk τ) : dtI E l D Z yX11_world (Cond.code yX11_world cX11_world 3 (some .int) :: cW) { frames := 1, cells := 0, slots := 0, locals := 21 } [.ref an.1, .int xr, .int xk] (wcat [anP Z an x0 La.1 x2 x3 x4 x5 x6 x7 x8 x9 hi sb sh, landP Z La τ]) (S := Unit) (fun _ => wcat [anP Z an x0 La.1 x2 x3 x4 x5 x6 x7 x8 x9 hi sb sh, landP Z La τ]) (fun _ => zworldS τ xr xk) (fun _ => True) := by
  refine dtI_of hE (cc := cX11_world) (maxL := 3) (by decide +kernel) (fun w h => List.mem_cons_of_mem _ h) (Nat.le_of_ble_eq_true rfl) ?_
  intro p e s m args below meth c A Q ls hx hb hml hown hts G X hl fin
  replace hl : lv_has ls 3 [(0, .ref an.1), (1, .int xr), (2, .int xk)] := hl
  obtain ⟨k0, k4, k8, kr, kw, ks, kmet, kmt, k12, k13⟩ := id hok
  refine lv_aload_n hx hb dX11_world_0 rfl (lv_at hl 0 rfl) ?_
  refine cg_11 G X 0 0 rfl rfl 1 (by decide) (G.2.2.2.1 _ ck_500) rfl rfl dX11_world_1 ?_
  refine lv_iload_n hx hb dX11_world_4 rfl (lv_at hl 1 rfl) ?_
  refine dtI_go (w := wcat [landP Z La τ]) (wf := wcat [anP Z an x0 La.1 x2 x3 x4 x5 x6 x7 x8 x9 hi sb sh]) (W1 := fun _ => wcat [anP Z an x0 La.1 x2 x3 x4 x5 x6 x7 x8 x9 hi sb sh, landP Z La τ]) G X (wsel [1, 0] rfl rfl) (run_V (As := [.int xr]) (rest := []) (n := 1) G hml hts hl.1 (p_recv G X 1 0 rfl rfl rfl) (k2_hasWorld hE xr hok _) (cwV 1 hts (cg_V ck_72 ck_565 ck_297 ck_298 ck_79) rfl rfl rfl (by decide +kernel) ⟨Nat.le_of_ble_eq_true rfl, Nat.le_of_ble_eq_true rfl⟩) rfl (Nat.le_of_ble_eq_true rfl) dX11_world_5 ⟨Nat.le_refl _, Nat.le_refl _⟩) (fun _ => wback [1, 0] rfl rfl) (fun H locs _ _ X => ?_)
  refine gb_if_ne (tgt := 13) hx hb dX11_world_8 (by decide) (fun c_8 => ?_) (fun c_8 => ?_)
  ·
    obtain ⟨jr, hjr, rfl⟩ := zir_of (by omega) c_8
    refine lv_iload_n hx hb dX11_world_13 rfl (lv_at hl 2 rfl) ?_
    by_cases t_14_0 : xk = nI 0
    · refine gi_raw t_14_0 ?_
      refine gn_tableIn (a := 0) (tgt := 40) hx hb dX11_world_14 (by decide) (by decide) (by decide) rfl (by decide) ?_
      refine lv_aload_n hx hb dX11_world_40 rfl (lv_at hl 0 rfl) ?_
      refine cg_11 G X 0 0 rfl rfl 1 (by decide) (G.2.2.2.1 _ ck_500) rfl rfl dX11_world_41 ?_
      refine cg_2 G X 1 0 rfl rfl 5 (by decide) (G.2.2.2.1 _ ck_562) rfl rfl dX11_world_44 ?_
      refine lv_iload_n hx hb dX11_world_47 rfl (lv_at hl 1 rfl) ?_
      refine cr_iald G X 1 4 rfl rfl (by omega) (by decide) dX11_world_48 ?_
      refine gi_eq (a := (τ.2 5 jr)) (zcl_in (by omega)) ?_
      exact cfin_I (()) (trivial) (rfl) (by rw [t_14_0]; exact (zworldS_0 hjr (by omega)).symm) X dX11_world_49 fin
    by_cases t_14_1 : xk = nI 1
    · refine gi_raw t_14_1 ?_
      refine gn_tableIn (a := 1) (tgt := 50) hx hb dX11_world_14 (by decide) (by decide) (by decide) rfl (by decide) ?_
      refine lv_aload_n hx hb dX11_world_50 rfl (lv_at hl 0 rfl) ?_
      refine cg_11 G X 0 0 rfl rfl 1 (by decide) (G.2.2.2.1 _ ck_500) rfl rfl dX11_world_51 ?_
      refine cg_2 G X 1 0 rfl rfl 6 (by decide) (G.2.2.2.1 _ ck_563) rfl rfl dX11_world_54 ?_
      refine lv_iload_n hx hb dX11_world_57 rfl (lv_at hl 1 rfl) ?_
      refine cr_iald G X 1 5 rfl rfl (by omega) (by decide) dX11_world_58 ?_
      refine gi_eq (a := (τ.2 6 jr)) (zcl_in (by omega)) ?_
      exact cfin_I (()) (trivial) (rfl) (by rw [t_14_1]; exact (zworldS_1 hjr (by omega)).symm) X dX11_world_59 fin
    by_cases t_14_2 : xk = nI 2
    · refine gi_raw t_14_2 ?_
      refine gn_tableIn (a := 2) (tgt := 60) hx hb dX11_world_14 (by decide) (by decide) (by decide) rfl (by decide) ?_
      refine lv_aload_n hx hb dX11_world_60 rfl (lv_at hl 0 rfl) ?_
      refine cg_11 G X 0 0 rfl rfl 1 (by decide) (G.2.2.2.1 _ ck_500) rfl rfl dX11_world_61 ?_
      refine cg_2 G X 1 0 rfl rfl 7 (by decide) (G.2.2.2.1 _ ck_564) rfl rfl dX11_world_64 ?_
      refine lv_iload_n hx hb dX11_world_67 rfl (lv_at hl 1 rfl) ?_
      refine cr_iald G X 1 6 rfl rfl (by omega) (by decide) dX11_world_68 ?_
      refine gi_eq (a := (τ.2 7 jr)) (zcl_in (by omega)) ?_
      exact cfin_I (()) (trivial) (rfl) (by rw [t_14_2]; exact (zworldS_2 hjr (by omega)).symm) X dX11_world_69 fin
    refine lv_tableOut (tgt := 70) hx hb dX11_world_14 (zout2 t_14_0 t_14_1 t_14_2) (by decide) ?_
    refine lv_iconst (v := (-1)) hx hb dX11_world_70 (by decide) ?_
    exact cfin_I (()) (trivial) (rfl) ((zworldS_n2 (znot3 (zout2 t_14_0 t_14_1 t_14_2))).symm) X dX11_world_71 fin
  ·
    refine lv_iconst (v := (-1)) hx hb dX11_world_11 (by decide) ?_
    exact cfin_I (()) (trivial) (rfl) ((zworldS_n1 c_8).symm) X dX11_world_12 fin
set_option maxHeartbeats 4000000 in
set_option maxRecDepth 100000 in
theorem k11_met {E : (Nat → Prop) → State → Heap → Prop} (hE : cEok E) {l : Launch} {D : va_G} {Z : Nat → ClassId} {an : Nat × Nat × Nat} {x0 x2 x3 x4 x5 x6 x7 x8 x9 hi : Nat} {sb sh : Nat → Nat} {La : LA} {τ : MS} (xc : Int32) (xs : Int32) (hok : mOk τ) : dtI E l D Z yX11_met (Cond.code yX11_met cX11_met 3 (some .int) :: cW) { frames := 1, cells := 0, slots := 0, locals := 21 } [.ref an.1, .int xc, .int xs] (wcat [anP Z an x0 La.1 x2 x3 x4 x5 x6 x7 x8 x9 hi sb sh, landP Z La τ]) (S := Unit) (fun _ => wcat [anP Z an x0 La.1 x2 x3 x4 x5 x6 x7 x8 x9 hi sb sh, landP Z La τ]) (fun _ => zmetS τ xc xs) (fun _ => True) := by
  refine dtI_of hE (cc := cX11_met) (maxL := 3) (by decide +kernel) (fun w h => List.mem_cons_of_mem _ h) (Nat.le_of_ble_eq_true rfl) ?_
  intro p e s m args below meth c A Q ls hx hb hml hown hts G X hl fin
  replace hl : lv_has ls 3 [(0, .ref an.1), (1, .int xc), (2, .int xs)] := hl
  obtain ⟨k0, k4, k8, kr, kw, ks, kmet, kmt, k12, k13⟩ := id hok
  refine lv_iload_n hx hb dX11_met_0 rfl (lv_at hl 1 rfl) ?_
  refine dtI_go (w := wcat []) (wf := wcat [anP Z an x0 La.1 x2 x3 x4 x5 x6 x7 x8 x9 hi sb sh, landP Z La τ]) (W1 := fun _ => wcat [anP Z an x0 La.1 x2 x3 x4 x5 x6 x7 x8 x9 hi sb sh, landP Z La τ]) G X (wsel [0, 1] rfl rfl) (run_S (As := [.int xc]) (rest := []) (n := 1) G hml hts hl.1 (k11_isCrossing hE xc _) (va_cwS 1 hts (cg_S ck_86 ck_568 ck_88 ck_89) rfl rfl rfl (by decide +kernel) ⟨Nat.le_of_ble_eq_true rfl, Nat.le_of_ble_eq_true rfl⟩) rfl (Nat.le_of_ble_eq_true rfl) dX11_met_1 ⟨Nat.le_refl _, Nat.le_refl _⟩) (fun _ => wback [0, 1] rfl rfl) (fun H locs _ _ X => ?_)
  refine gb_if_eq (tgt := 18) hx hb dX11_met_4 (by decide) (fun c_4 => ?_) (fun c_4 => ?_)
  ·
    refine lv_iconst (v := (-1)) hx hb dX11_met_18 (by decide) ?_
    exact cfin_I (()) (trivial) (rfl) (by first | exact (if_pos (fun q => c_4 q.1)).symm | exact (if_pos (fun q => c_15 q.2)).symm) X dX11_met_19 fin
  ·
    obtain ⟨jc, hjc, rfl⟩ := zir_of (by decide) c_4
    refine lv_aload_n hx hb dX11_met_7 rfl (lv_at hl 0 rfl) ?_
    refine cg_11 G X 0 0 rfl rfl 1 (by decide) (G.2.2.2.1 _ ck_500) rfl rfl dX11_met_8 ?_
    refine lv_iload_n hx hb dX11_met_11 rfl (lv_at hl 2 rfl) ?_
    refine dtI_go (w := wcat [landP Z La τ]) (wf := wcat [anP Z an x0 La.1 x2 x3 x4 x5 x6 x7 x8 x9 hi sb sh]) (W1 := fun _ => wcat [anP Z an x0 La.1 x2 x3 x4 x5 x6 x7 x8 x9 hi sb sh, landP Z La τ]) G X (wsel [1, 0] rfl rfl) (run_V (As := [.int xs]) (rest := []) (n := 1) G hml hts hl.1 (p_recv G X 1 0 rfl rfl rfl) (k2_hasSort hE xs hok _) (cwV 1 hts (cg_V ck_73 ck_569 ck_98 ck_99 ck_79) rfl rfl rfl (by decide +kernel) ⟨Nat.le_of_ble_eq_true rfl, Nat.le_of_ble_eq_true rfl⟩) rfl (Nat.le_of_ble_eq_true rfl) dX11_met_12 ⟨Nat.le_refl _, Nat.le_refl _⟩) (fun _ => wback [1, 0] rfl rfl) (fun H locs _ _ X => ?_)
    refine gb_if_ne (tgt := 20) hx hb dX11_met_15 (by decide) (fun c_15 => ?_) (fun c_15 => ?_)
    ·
      obtain ⟨js, hjs, rfl⟩ := zir_of (by omega) c_15
      refine lv_aload_n hx hb dX11_met_20 rfl (lv_at hl 0 rfl) ?_
      refine cg_11 G X 0 0 rfl rfl 1 (by decide) (G.2.2.2.1 _ ck_500) rfl rfl dX11_met_21 ?_
      refine cg_2 G X 1 0 rfl rfl 11 (by decide) (G.2.2.2.1 _ ck_567) rfl rfl dX11_met_24 ?_
      refine lv_iload_n hx hb dX11_met_27 rfl (lv_at hl 1 rfl) ?_
      refine cr_aald G X 1 10 rfl rfl (by omega) (by decide) (if_pos (by omega)) dX11_met_28 ?_
      refine lv_iload_n hx hb dX11_met_29 rfl (lv_at hl 2 rfl) ?_
      refine cr_iald G X 1 (jc + 14) rfl (landP_r11 (by omega)) (by omega) (by decide) dX11_met_30 ?_
      refine gi_eq (a := (τ.2 11 (6 * jc + js))) (zrow_in (by omega)) ?_
      exact cfin_I (()) (trivial) (rfl) ((zmetS_v hjc hjs (by omega)).symm) X dX11_met_31 fin
    ·
      refine lv_iconst (v := (-1)) hx hb dX11_met_18 (by decide) ?_
      exact cfin_I (()) (trivial) (rfl) (by first | exact (if_pos (fun q => c_4 q.1)).symm | exact (if_pos (fun q => c_15 q.2)).symm) X dX11_met_19 fin
set_option maxHeartbeats 4000000 in
set_option maxRecDepth 100000 in
theorem k11_set {E : (Nat → Prop) → State → Heap → Prop} (hE : cEok E) {l : Launch} {D : va_G} {Z : Nat → ClassId} {an : Nat × Nat × Nat} {x0 x2 x3 x4 x5 x6 x7 x8 x9 hi : Nat} {sb sh : Nat → Nat} {La : LA} {τ : MS} (xk : Int32) (xn : Int32) (hok : mOk τ) : dtI E l D Z yX11_set (Cond.code yX11_set cX11_set 4 (some .int) :: cW) { frames := 1, cells := 0, slots := 0, locals := 20 } [.ref an.1, .int xk, .int xn] (wcat [anP Z an x0 La.1 x2 x3 x4 x5 x6 x7 x8 x9 hi sb sh, landP Z La τ]) (S := Unit) (fun _ => wcat [anP Z an x0 La.1 x2 x3 x4 x5 x6 x7 x8 x9 hi sb sh, landP Z La (zsetC τ xk xn)]) (fun _ => zsetS τ xk xn) (fun _ => True) := by
  refine dtI_of hE (cc := cX11_set) (maxL := 4) (by decide +kernel) (fun w h => List.mem_cons_of_mem _ h) (Nat.le_of_ble_eq_true rfl) ?_
  intro p e s m args below meth c A Q ls hx hb hml hown hts G X hl fin
  replace hl : lv_has ls 4 [(0, .ref an.1), (1, .int xk), (2, .int xn)] := hl
  obtain ⟨k0, k4, k8, kr, kw, ks, kmet, kmt, k12, k13⟩ := id hok
  refine lv_iconst (v := (-1)) hx hb dX11_set_0 (by decide) ?_
  refine lv_istore_n (lv' := [(3, .int (-1)), (0, .ref an.1), (1, .int xk), (2, .int xn)]) hx hb dX11_set_1 rfl hl (by decide) rfl (fun ls hl => ?_)
  refine lv_iload_n hx hb dX11_set_2 rfl (lv_at hl 2 rfl) ?_
  refine lv_if_ne (tgt := 32) hx hb dX11_set_3 (by decide) (fun c_3 => ?_) (fun c_3 => ?_)
  ·
    refine lv_iload_n hx hb dX11_set_32 rfl (lv_at hl 2 rfl) ?_
    refine lv_iconst (v := nI 1) hx hb dX11_set_33 (by decide) ?_
    refine lv_icmp_ne (tgt := 63) hx hb dX11_set_34 (by decide) (fun c_34 => ?_) (fun c_34 => ?_)
    ·
      refine lv_iload_n hx hb dX11_set_63 rfl (lv_at hl 0 rfl) ?_
      exact cfin_I (()) (trivial) (congrArg (fun z => wcat [anP Z an x0 La.1 x2 x3 x4 x5 x6 x7 x8 x9 hi sb sh, landP Z La z]) (zsetC_n (τ := τ) (by first | exact (fun q => c_3 q.1) | exact (fun q => c_10 q.2)) (by first | exact (fun q => c_34 q.1) | exact (fun q => zir_f1 c_38 q.2) | exact (fun q => zir_f2' (n := 30) (by decide) c_44 q.2))).2.symm) ((zsetC_n (τ := τ) (by first | exact (fun q => c_3 q.1) | exact (fun q => c_10 q.2)) (by first | exact (fun q => c_34 q.1) | exact (fun q => zir_f1 c_38 q.2) | exact (fun q => zir_f2' (n := 30) (by decide) c_44 q.2))).1.symm) X dX11_set_64 fin
    ·
      refine lv_iload_n hx hb dX11_set_37 rfl (lv_at hl 3 rfl) ?_
      refine lv_if_lt (tgt := 63) hx hb dX11_set_38 (by decide) (fun c_38 => ?_) (fun c_38 => ?_)
      ·
        refine lv_iload_n hx hb dX11_set_63 rfl (lv_at hl 0 rfl) ?_
        exact cfin_I (()) (trivial) (congrArg (fun z => wcat [anP Z an x0 La.1 x2 x3 x4 x5 x6 x7 x8 x9 hi sb sh, landP Z La z]) (zsetC_n (τ := τ) (by first | exact (fun q => c_3 q.1) | exact (fun q => c_10 q.2)) (by first | exact (fun q => c_34 q.1) | exact (fun q => zir_f1 c_38 q.2) | exact (fun q => zir_f2' (n := 30) (by decide) c_44 q.2))).2.symm) ((zsetC_n (τ := τ) (by first | exact (fun q => c_3 q.1) | exact (fun q => c_10 q.2)) (by first | exact (fun q => c_34 q.1) | exact (fun q => zir_f1 c_38 q.2) | exact (fun q => zir_f2' (n := 30) (by decide) c_44 q.2))).1.symm) X dX11_set_64 fin
      ·
        refine lv_iload_n hx hb dX11_set_41 rfl (lv_at hl 3 rfl) ?_
        refine lv_bipush (v := nI 30) hx hb dX11_set_42 (by decide) ?_
        refine lv_icmp_gt (tgt := 63) hx hb dX11_set_44 (by decide) (fun c_44 => ?_) (fun c_44 => ?_)
        ·
          refine lv_iload_n hx hb dX11_set_63 rfl (lv_at hl 0 rfl) ?_
          exact cfin_I (()) (trivial) (congrArg (fun z => wcat [anP Z an x0 La.1 x2 x3 x4 x5 x6 x7 x8 x9 hi sb sh, landP Z La z]) (zsetC_n (τ := τ) (by first | exact (fun q => c_3 q.1) | exact (fun q => c_10 q.2)) (by first | exact (fun q => c_34 q.1) | exact (fun q => zir_f1 c_38 q.2) | exact (fun q => zir_f2' (n := 30) (by decide) c_44 q.2))).2.symm) ((zsetC_n (τ := τ) (by first | exact (fun q => c_3 q.1) | exact (fun q => c_10 q.2)) (by first | exact (fun q => c_34 q.1) | exact (fun q => zir_f1 c_38 q.2) | exact (fun q => zir_f2' (n := 30) (by decide) c_44 q.2))).1.symm) X dX11_set_64 fin
        ·
          obtain ⟨jn, hjn, rfl⟩ := zir_of (by decide) (zir_t' (n := 30) (by decide) c_38 c_44)
          refine lv_aload_n hx hb dX11_set_47 rfl (lv_at hl 1 rfl) ?_
          refine cg_11 G X 0 0 rfl rfl 1 (by decide) (G.2.2.2.1 _ ck_500) rfl rfl dX11_set_48 ?_
          refine cg_2 G X 1 0 rfl rfl 13 (by decide) (G.2.2.2.1 _ ck_572) rfl rfl dX11_set_51 ?_
          refine lv_istore_n (lv' := [(3, .int (nI (τ.1 13))), (0, .ref an.1), (1, .int xk), (2, .int (nI jn))]) hx hb dX11_set_54 rfl hl (by decide) rfl (fun ls hl => ?_)
          refine lv_aload_n hx hb dX11_set_55 rfl (lv_at hl 1 rfl) ?_
          refine cg_11 G X 0 0 rfl rfl 1 (by decide) (G.2.2.2.1 _ ck_500) rfl rfl dX11_set_56 ?_
          refine lv_iload_n hx hb dX11_set_59 rfl (lv_at hl 3 rfl) ?_
          refine cp_2 (ps' := [anP Z an x0 La.1 x2 x3 x4 x5 x6 x7 x8 x9 hi sb sh, landP Z La (sF τ 13 jn)]) G X 1 0 rfl rfl 13 (by decide) (G.2.2.2.1 _ ck_572) rfl rfl (ty := .int) (by decide +kernel) rfl rfl (Nat.le_of_ble_eq_true rfl) rfl dX11_set_60 (fun H locs X => ?_)
          refine lv_iload_n hx hb dX11_set_63 rfl (lv_at hl 0 rfl) ?_
          exact cfin_I (()) (trivial) (congrArg (fun z => wcat [anP Z an x0 La.1 x2 x3 x4 x5 x6 x7 x8 x9 hi sb sh, landP Z La z]) (zsetC_1 (τ := τ) c_34 hjn).2.symm) ((zsetC_1 (τ := τ) c_34 hjn).1.symm) X dX11_set_64 fin
  ·
    refine lv_iload_n hx hb dX11_set_6 rfl (lv_at hl 3 rfl) ?_
    refine dtI_go (w := wcat []) (wf := wcat [anP Z an x0 La.1 x2 x3 x4 x5 x6 x7 x8 x9 hi sb sh, landP Z La τ]) (W1 := fun _ => wcat [anP Z an x0 La.1 x2 x3 x4 x5 x6 x7 x8 x9 hi sb sh, landP Z La τ]) G X (wsel [0, 1] rfl rfl) (run_S (As := [.int xn]) (rest := []) (n := 1) G hml hts hl.1 (k11_isCrossing hE xn _) (va_cwS 1 hts (cg_S ck_86 ck_568 ck_88 ck_89) rfl rfl rfl (by decide +kernel) ⟨Nat.le_of_ble_eq_true rfl, Nat.le_of_ble_eq_true rfl⟩) rfl (Nat.le_of_ble_eq_true rfl) dX11_set_7 ⟨Nat.le_refl _, Nat.le_refl _⟩) (fun _ => wback [0, 1] rfl rfl) (fun H locs _ _ X => ?_)
    refine gb_if_eq (tgt := 32) hx hb dX11_set_10 (by decide) (fun c_10 => ?_) (fun c_10 => ?_)
    ·
      refine lv_iload_n hx hb dX11_set_32 rfl (lv_at hl 2 rfl) ?_
      refine lv_iconst (v := nI 1) hx hb dX11_set_33 (by decide) ?_
      refine lv_icmp_ne (tgt := 63) hx hb dX11_set_34 (by decide) (fun c_34 => ?_) (fun c_34 => ?_)
      ·
        refine lv_iload_n hx hb dX11_set_63 rfl (lv_at hl 0 rfl) ?_
        exact cfin_I (()) (trivial) (congrArg (fun z => wcat [anP Z an x0 La.1 x2 x3 x4 x5 x6 x7 x8 x9 hi sb sh, landP Z La z]) (zsetC_n (τ := τ) (by first | exact (fun q => c_3 q.1) | exact (fun q => c_10 q.2)) (by first | exact (fun q => c_34 q.1) | exact (fun q => zir_f1 c_38 q.2) | exact (fun q => zir_f2' (n := 30) (by decide) c_44 q.2))).2.symm) ((zsetC_n (τ := τ) (by first | exact (fun q => c_3 q.1) | exact (fun q => c_10 q.2)) (by first | exact (fun q => c_34 q.1) | exact (fun q => zir_f1 c_38 q.2) | exact (fun q => zir_f2' (n := 30) (by decide) c_44 q.2))).1.symm) X dX11_set_64 fin
      ·
        refine lv_iload_n hx hb dX11_set_37 rfl (lv_at hl 3 rfl) ?_
        refine lv_if_lt (tgt := 63) hx hb dX11_set_38 (by decide) (fun c_38 => ?_) (fun c_38 => ?_)
        ·
          refine lv_iload_n hx hb dX11_set_63 rfl (lv_at hl 0 rfl) ?_
          exact cfin_I (()) (trivial) (congrArg (fun z => wcat [anP Z an x0 La.1 x2 x3 x4 x5 x6 x7 x8 x9 hi sb sh, landP Z La z]) (zsetC_n (τ := τ) (by first | exact (fun q => c_3 q.1) | exact (fun q => c_10 q.2)) (by first | exact (fun q => c_34 q.1) | exact (fun q => zir_f1 c_38 q.2) | exact (fun q => zir_f2' (n := 30) (by decide) c_44 q.2))).2.symm) ((zsetC_n (τ := τ) (by first | exact (fun q => c_3 q.1) | exact (fun q => c_10 q.2)) (by first | exact (fun q => c_34 q.1) | exact (fun q => zir_f1 c_38 q.2) | exact (fun q => zir_f2' (n := 30) (by decide) c_44 q.2))).1.symm) X dX11_set_64 fin
        ·
          refine lv_iload_n hx hb dX11_set_41 rfl (lv_at hl 3 rfl) ?_
          refine lv_bipush (v := nI 30) hx hb dX11_set_42 (by decide) ?_
          refine lv_icmp_gt (tgt := 63) hx hb dX11_set_44 (by decide) (fun c_44 => ?_) (fun c_44 => ?_)
          ·
            refine lv_iload_n hx hb dX11_set_63 rfl (lv_at hl 0 rfl) ?_
            exact cfin_I (()) (trivial) (congrArg (fun z => wcat [anP Z an x0 La.1 x2 x3 x4 x5 x6 x7 x8 x9 hi sb sh, landP Z La z]) (zsetC_n (τ := τ) (by first | exact (fun q => c_3 q.1) | exact (fun q => c_10 q.2)) (by first | exact (fun q => c_34 q.1) | exact (fun q => zir_f1 c_38 q.2) | exact (fun q => zir_f2' (n := 30) (by decide) c_44 q.2))).2.symm) ((zsetC_n (τ := τ) (by first | exact (fun q => c_3 q.1) | exact (fun q => c_10 q.2)) (by first | exact (fun q => c_34 q.1) | exact (fun q => zir_f1 c_38 q.2) | exact (fun q => zir_f2' (n := 30) (by decide) c_44 q.2))).1.symm) X dX11_set_64 fin
          ·
            obtain ⟨jn, hjn, rfl⟩ := zir_of (by decide) (zir_t' (n := 30) (by decide) c_38 c_44)
            refine lv_aload_n hx hb dX11_set_47 rfl (lv_at hl 1 rfl) ?_
            refine cg_11 G X 0 0 rfl rfl 1 (by decide) (G.2.2.2.1 _ ck_500) rfl rfl dX11_set_48 ?_
            refine cg_2 G X 1 0 rfl rfl 13 (by decide) (G.2.2.2.1 _ ck_572) rfl rfl dX11_set_51 ?_
            refine lv_istore_n (lv' := [(3, .int (nI (τ.1 13))), (0, .ref an.1), (1, .int xk), (2, .int (nI jn))]) hx hb dX11_set_54 rfl hl (by decide) rfl (fun ls hl => ?_)
            refine lv_aload_n hx hb dX11_set_55 rfl (lv_at hl 1 rfl) ?_
            refine cg_11 G X 0 0 rfl rfl 1 (by decide) (G.2.2.2.1 _ ck_500) rfl rfl dX11_set_56 ?_
            refine lv_iload_n hx hb dX11_set_59 rfl (lv_at hl 3 rfl) ?_
            refine cp_2 (ps' := [anP Z an x0 La.1 x2 x3 x4 x5 x6 x7 x8 x9 hi sb sh, landP Z La (sF τ 13 jn)]) G X 1 0 rfl rfl 13 (by decide) (G.2.2.2.1 _ ck_572) rfl rfl (ty := .int) (by decide +kernel) rfl rfl (Nat.le_of_ble_eq_true rfl) rfl dX11_set_60 (fun H locs X => ?_)
            refine lv_iload_n hx hb dX11_set_63 rfl (lv_at hl 0 rfl) ?_
            exact cfin_I (()) (trivial) (congrArg (fun z => wcat [anP Z an x0 La.1 x2 x3 x4 x5 x6 x7 x8 x9 hi sb sh, landP Z La z]) (zsetC_1 (τ := τ) c_34 hjn).2.symm) ((zsetC_1 (τ := τ) c_34 hjn).1.symm) X dX11_set_64 fin
    ·
      obtain ⟨jn, hjn, rfl⟩ := zir_of (by decide) c_10
      refine lv_aload_n hx hb dX11_set_13 rfl (lv_at hl 1 rfl) ?_
      refine cg_11 G X 0 0 rfl rfl 1 (by decide) (G.2.2.2.1 _ ck_500) rfl rfl dX11_set_14 ?_
      refine cg_2 G X 1 0 rfl rfl 12 (by decide) (G.2.2.2.1 _ ck_571) rfl rfl dX11_set_17 ?_
      refine lv_istore_n (lv' := [(3, .int (nI (τ.1 12))), (0, .ref an.1), (1, .int xk), (2, .int (nI jn))]) hx hb dX11_set_20 rfl hl (by decide) rfl (fun ls hl => ?_)
      refine lv_aload_n hx hb dX11_set_21 rfl (lv_at hl 1 rfl) ?_
      refine cg_11 G X 0 0 rfl rfl 1 (by decide) (G.2.2.2.1 _ ck_500) rfl rfl dX11_set_22 ?_
      refine lv_iload_n hx hb dX11_set_25 rfl (lv_at hl 3 rfl) ?_
      refine cp_2 (ps' := [anP Z an x0 La.1 x2 x3 x4 x5 x6 x7 x8 x9 hi sb sh, landP Z La (sF τ 12 jn)]) G X 1 0 rfl rfl 12 (by decide) (G.2.2.2.1 _ ck_571) rfl rfl (ty := .int) (by decide +kernel) rfl rfl (Nat.le_of_ble_eq_true rfl) rfl dX11_set_26 (fun H locs X => ?_)
      refine lv_goto (tgt := 63) hx hb dX11_set_29 (by decide) ?_
      refine lv_iload_n hx hb dX11_set_63 rfl (lv_at hl 0 rfl) ?_
      exact cfin_I (()) (trivial) (congrArg (fun z => wcat [anP Z an x0 La.1 x2 x3 x4 x5 x6 x7 x8 x9 hi sb sh, landP Z La z]) (zsetC_0 (τ := τ) c_3 hjn).2.symm) ((zsetC_0 (τ := τ) c_3 hjn).1.symm) X dX11_set_64 fin
set_option maxHeartbeats 4000000 in
set_option maxRecDepth 100000 in
theorem k11_way {E : (Nat → Prop) → State → Heap → Prop} (hE : cEok E) {l : Launch} {D : va_G} {Z : Nat → ClassId} {an : Nat × Nat × Nat} {x0 x2 x3 x4 x5 x6 x7 x8 x9 hi : Nat} {sb sh : Nat → Nat} {La : LA} {τ : MS} (xw : Int32) (xc : Int32) (hok : mOk τ) : dtI E l D Z yX11_way (Cond.code yX11_way cX11_way 3 (some .int) :: cW) { frames := 1, cells := 0, slots := 0, locals := 21 } [.ref an.1, .int xw, .int xc] (wcat [anP Z an x0 La.1 x2 x3 x4 x5 x6 x7 x8 x9 hi sb sh, landP Z La τ]) (S := Unit) (fun _ => wcat [anP Z an x0 La.1 x2 x3 x4 x5 x6 x7 x8 x9 hi sb sh, landP Z La τ]) (fun _ => zwayC τ xw xc) (fun _ => True) := by
  refine dtI_of hE (cc := cX11_way) (maxL := 3) (by decide +kernel) (fun w h => List.mem_cons_of_mem _ h) (Nat.le_of_ble_eq_true rfl) ?_
  intro p e s m args below meth c A Q ls hx hb hml hown hts G X hl fin
  replace hl : lv_has ls 3 [(0, .ref an.1), (1, .int xw), (2, .int xc)] := hl
  obtain ⟨k0, k4, k8, kr, kw, ks, kmet, kmt, k12, k13⟩ := id hok
  refine lv_aload_n hx hb dX11_way_0 rfl (lv_at hl 0 rfl) ?_
  refine cg_11 G X 0 0 rfl rfl 1 (by decide) (G.2.2.2.1 _ ck_500) rfl rfl dX11_way_1 ?_
  refine lv_iload_n hx hb dX11_way_4 rfl (lv_at hl 1 rfl) ?_
  refine dtI_go (w := wcat [landP Z La τ]) (wf := wcat [anP Z an x0 La.1 x2 x3 x4 x5 x6 x7 x8 x9 hi sb sh]) (W1 := fun _ => wcat [anP Z an x0 La.1 x2 x3 x4 x5 x6 x7 x8 x9 hi sb sh, landP Z La τ]) G X (wsel [1, 0] rfl rfl) (run_V (As := [.int xw]) (rest := []) (n := 1) G hml hts hl.1 (p_recv G X 1 0 rfl rfl rfl) (k2_hasWorld hE xw hok _) (cwV 1 hts (cg_V ck_72 ck_565 ck_297 ck_298 ck_79) rfl rfl rfl (by decide +kernel) ⟨Nat.le_of_ble_eq_true rfl, Nat.le_of_ble_eq_true rfl⟩) rfl (Nat.le_of_ble_eq_true rfl) dX11_way_5 ⟨Nat.le_refl _, Nat.le_refl _⟩) (fun _ => wback [1, 0] rfl rfl) (fun H locs _ _ X => ?_)
  refine gb_if_eq (tgt := 18) hx hb dX11_way_8 (by decide) (fun c_8 => ?_) (fun c_8 => ?_)
  ·
    refine lv_iconst (v := (-1)) hx hb dX11_way_18 (by decide) ?_
    exact cfin_I (()) (trivial) (rfl) (by first | exact (if_pos (fun q => c_8 q.1)).symm | exact (if_pos (fun q => c_15 q.2)).symm) X dX11_way_19 fin
  ·
    obtain ⟨jw, hjw, rfl⟩ := zir_of (by omega) c_8
    refine lv_iload_n hx hb dX11_way_11 rfl (lv_at hl 2 rfl) ?_
    refine dtI_go (w := wcat []) (wf := wcat [anP Z an x0 La.1 x2 x3 x4 x5 x6 x7 x8 x9 hi sb sh, landP Z La τ]) (W1 := fun _ => wcat [anP Z an x0 La.1 x2 x3 x4 x5 x6 x7 x8 x9 hi sb sh, landP Z La τ]) G X (wsel [0, 1] rfl rfl) (run_S (As := [.int xc]) (rest := []) (n := 1) G hml hts hl.1 (k11_isCrossing hE xc _) (va_cwS 1 hts (cg_S ck_86 ck_568 ck_88 ck_89) rfl rfl rfl (by decide +kernel) ⟨Nat.le_of_ble_eq_true rfl, Nat.le_of_ble_eq_true rfl⟩) rfl (Nat.le_of_ble_eq_true rfl) dX11_way_12 ⟨Nat.le_refl _, Nat.le_refl _⟩) (fun _ => wback [0, 1] rfl rfl) (fun H locs _ _ X => ?_)
    refine gb_if_ne (tgt := 20) hx hb dX11_way_15 (by decide) (fun c_15 => ?_) (fun c_15 => ?_)
    ·
      obtain ⟨jc, hjc, rfl⟩ := zir_of (by decide) c_15
      refine lv_aload_n hx hb dX11_way_20 rfl (lv_at hl 0 rfl) ?_
      refine cg_11 G X 0 0 rfl rfl 1 (by decide) (G.2.2.2.1 _ ck_500) rfl rfl dX11_way_21 ?_
      refine cg_2 G X 1 0 rfl rfl 14 (by decide) (G.2.2.2.1 _ ck_574) rfl rfl dX11_way_24 ?_
      refine lv_iload_n hx hb dX11_way_27 rfl (lv_at hl 1 rfl) ?_
      refine cr_aald G X 1 11 rfl rfl (by omega) (by decide) (if_pos (by omega)) dX11_way_28 ?_
      refine lv_iload_n hx hb dX11_way_29 rfl (lv_at hl 2 rfl) ?_
      refine cr_iald G X 1 (jw + 22) rfl (landP_r14 (by omega)) (by omega) (by decide) dX11_way_30 ?_
      refine gi_eq (a := (τ.2 27 (8 * jw + jc))) (zrow_in (by omega)) ?_
      exact cfin_I (()) (trivial) (rfl) ((zwayC_v hjw hjc (by omega)).symm) X dX11_way_31 fin
    ·
      refine lv_iconst (v := (-1)) hx hb dX11_way_18 (by decide) ?_
      exact cfin_I (()) (trivial) (rfl) (by first | exact (if_pos (fun q => c_8 q.1)).symm | exact (if_pos (fun q => c_15 q.2)).symm) X dX11_way_19 fin
set_option maxHeartbeats 4000000 in
set_option maxRecDepth 100000 in
theorem k11_next {E : (Nat → Prop) → State → Heap → Prop} (hE : cEok E) {l : Launch} {D : va_G} {Z : Nat → ClassId} {an : Nat × Nat × Nat} {x0 x2 x3 x4 x5 x6 x7 x8 x9 hi : Nat} {sb sh : Nat → Nat} {La : LA} {τ : MS} (xw : Int32) (xc : Int32) (hok : mOk τ) : dtI E l D Z yX11_next (Cond.code yX11_next cX11_next 4 (some .int) :: cW) { frames := 1, cells := 0, slots := 0, locals := 21 } [.ref an.1, .int xw, .int xc] (wcat [anP Z an x0 La.1 x2 x3 x4 x5 x6 x7 x8 x9 hi sb sh, landP Z La τ]) (S := Unit) (fun _ => wcat [anP Z an x0 La.1 x2 x3 x4 x5 x6 x7 x8 x9 hi sb sh, landP Z La τ]) (fun _ => znextC τ xw xc) (fun _ => True) := by
  refine dtI_of hE (cc := cX11_next) (maxL := 4) (by decide +kernel) (fun w h => List.mem_cons_of_mem _ h) (Nat.le_of_ble_eq_true rfl) ?_
  intro p e s m args below meth c A Q ls hx hb hml hown hts G X hl fin
  replace hl : lv_has ls 4 [(0, .ref an.1), (1, .int xw), (2, .int xc)] := hl
  obtain ⟨k0, k4, k8, kr, kw, ks, kmet, kmt, k12, k13⟩ := id hok
  refine lv_aload_n hx hb dX11_next_0 rfl (lv_at hl 0 rfl) ?_
  refine cg_11 G X 0 0 rfl rfl 1 (by decide) (G.2.2.2.1 _ ck_500) rfl rfl dX11_next_1 ?_
  refine lv_iload_n hx hb dX11_next_4 rfl (lv_at hl 1 rfl) ?_
  refine dtI_go (w := wcat [landP Z La τ]) (wf := wcat [anP Z an x0 La.1 x2 x3 x4 x5 x6 x7 x8 x9 hi sb sh]) (W1 := fun _ => wcat [anP Z an x0 La.1 x2 x3 x4 x5 x6 x7 x8 x9 hi sb sh, landP Z La τ]) G X (wsel [1, 0] rfl rfl) (run_V (As := [.int xw]) (rest := []) (n := 1) G hml hts hl.1 (p_recv G X 1 0 rfl rfl rfl) (k2_hasWorld hE xw hok _) (cwV 1 hts (cg_V ck_72 ck_565 ck_297 ck_298 ck_79) rfl rfl rfl (by decide +kernel) ⟨Nat.le_of_ble_eq_true rfl, Nat.le_of_ble_eq_true rfl⟩) rfl (Nat.le_of_ble_eq_true rfl) dX11_next_5 ⟨Nat.le_refl _, Nat.le_refl _⟩) (fun _ => wback [1, 0] rfl rfl) (fun H locs _ _ X => ?_)
  refine gb_if_eq (tgt := 18) hx hb dX11_next_8 (by decide) (fun c_8 => ?_) (fun c_8 => ?_)
  ·
    refine lv_iconst (v := (-1)) hx hb dX11_next_18 (by decide) ?_
    exact cfin_I (()) (trivial) (rfl) (by first | exact (if_pos (fun q => c_8 q.1)).symm | exact (if_pos (fun q => c_15 q.2)).symm) X dX11_next_19 fin
  ·
    obtain ⟨jw, hjw, rfl⟩ := zir_of (by omega) c_8
    refine lv_iload_n hx hb dX11_next_11 rfl (lv_at hl 2 rfl) ?_
    refine dtI_go (w := wcat []) (wf := wcat [anP Z an x0 La.1 x2 x3 x4 x5 x6 x7 x8 x9 hi sb sh, landP Z La τ]) (W1 := fun _ => wcat [anP Z an x0 La.1 x2 x3 x4 x5 x6 x7 x8 x9 hi sb sh, landP Z La τ]) G X (wsel [0, 1] rfl rfl) (run_S (As := [.int xc]) (rest := []) (n := 1) G hml hts hl.1 (k11_isCrossing hE xc _) (va_cwS 1 hts (cg_S ck_86 ck_568 ck_88 ck_89) rfl rfl rfl (by decide +kernel) ⟨Nat.le_of_ble_eq_true rfl, Nat.le_of_ble_eq_true rfl⟩) rfl (Nat.le_of_ble_eq_true rfl) dX11_next_12 ⟨Nat.le_refl _, Nat.le_refl _⟩) (fun _ => wback [0, 1] rfl rfl) (fun H locs _ _ X => ?_)
    refine gb_if_ne (tgt := 20) hx hb dX11_next_15 (by decide) (fun c_15 => ?_) (fun c_15 => ?_)
    ·
      obtain ⟨jc, hjc, rfl⟩ := zir_of (by decide) c_15
      refine lv_aload_n hx hb dX11_next_20 rfl (lv_at hl 0 rfl) ?_
      refine cg_11 G X 0 0 rfl rfl 1 (by decide) (G.2.2.2.1 _ ck_500) rfl rfl dX11_next_21 ?_
      refine cg_2 G X 1 0 rfl rfl 15 (by decide) (G.2.2.2.1 _ ck_576) rfl rfl dX11_next_24 ?_
      refine lv_iload_n hx hb dX11_next_27 rfl (lv_at hl 1 rfl) ?_
      refine cr_aald G X 1 12 rfl rfl (by omega) (by decide) (if_pos (by omega)) dX11_next_28 ?_
      refine lv_iload_n hx hb dX11_next_29 rfl (lv_at hl 2 rfl) ?_
      refine cr_iald G X 1 (jw + 27) rfl (landP_r15 (by omega)) (by omega) (by decide) dX11_next_30 ?_
      refine gi_eq (a := (τ.2 60 (8 * jw + jc))) (zrow_in (by omega)) ?_
      refine lv_istore_n (lv' := [(3, .int (nI (τ.2 60 (8 * jw + jc)))), (0, .ref an.1), (1, .int (nI jw)), (2, .int (nI jc))]) hx hb dX11_next_31 rfl hl (by decide) rfl (fun ls hl => ?_)
      refine lv_iload_n hx hb dX11_next_32 rfl (lv_at hl 0 rfl) ?_
      refine lv_if_ge (tgt := 41) hx hb dX11_next_33 (by decide) (fun c_33 => ?_) (fun c_33 => ?_)
      ·
        refine lv_iload_n hx hb dX11_next_41 rfl (lv_at hl 0 rfl) ?_
        exact cfin_I (()) (trivial) (rfl) (by rw [znextC_v hjw hjc (by omega)]; first | rw [if_pos c_33] | rw [if_neg c_33]) X dX11_next_42 fin
      ·
        refine lv_bipush (v := (-4)) hx hb dX11_next_36 (by decide) ?_
        refine lv_goto (tgt := 42) hx hb dX11_next_38 (by decide) ?_
        exact cfin_I (()) (trivial) (rfl) (by rw [znextC_v hjw hjc (by omega)]; first | rw [if_pos c_33] | rw [if_neg c_33]) X dX11_next_42 fin
    ·
      refine lv_iconst (v := (-1)) hx hb dX11_next_18 (by decide) ?_
      exact cfin_I (()) (trivial) (rfl) (by first | exact (if_pos (fun q => c_8 q.1)).symm | exact (if_pos (fun q => c_15 q.2)).symm) X dX11_next_19 fin
set_option maxHeartbeats 4000000 in
set_option maxRecDepth 100000 in
theorem k11_says {E : (Nat → Prop) → State → Heap → Prop} (hE : cEok E) {l : Launch} {D : va_G} {Z : Nat → ClassId} {an : Nat × Nat × Nat} {x0 x2 x3 x4 x5 x6 x7 x8 x9 hi : Nat} {sb sh : Nat → Nat} {La : LA} {τ : MS} (xs : Int32) (xc : Int32) (xw : Int32) (hok : mOk τ) (hpl : zpl τ) : dtI E l D Z yX11_says (Cond.code yX11_says cX11_says 4 (some .int) :: cW) { frames := 1, cells := 0, slots := 0, locals := 24 } [.ref an.1, .int xs, .int xc, .int xw] (wcat [anP Z an x0 La.1 x2 x3 x4 x5 x6 x7 x8 x9 hi sb sh, landP Z La τ]) (S := Unit) (fun _ => wcat [anP Z an x0 La.1 x2 x3 x4 x5 x6 x7 x8 x9 hi sb sh, landP Z La τ]) (fun _ => zsaysC τ xs xc xw) (fun _ => True) := by
  refine dtI_of hE (cc := cX11_says) (maxL := 4) (by decide +kernel) (fun w h => List.mem_cons_of_mem _ h) (Nat.le_of_ble_eq_true rfl) ?_
  intro p e s m args below meth c A Q ls hx hb hml hown hts G X hl fin
  replace hl : lv_has ls 4 [(0, .ref an.1), (1, .int xs), (2, .int xc), (3, .int xw)] := hl
  obtain ⟨k0, k4, k8, kr, kw, ks, kmet, kmt, k12, k13⟩ := id hok
  refine lv_aload_n hx hb dX11_says_0 rfl (lv_at hl 0 rfl) ?_
  refine cg_11 G X 0 0 rfl rfl 1 (by decide) (G.2.2.2.1 _ ck_500) rfl rfl dX11_says_1 ?_
  refine lv_iload_n hx hb dX11_says_4 rfl (lv_at hl 1 rfl) ?_
  refine dtI_go (w := wcat [landP Z La τ]) (wf := wcat [anP Z an x0 La.1 x2 x3 x4 x5 x6 x7 x8 x9 hi sb sh]) (W1 := fun _ => wcat [anP Z an x0 La.1 x2 x3 x4 x5 x6 x7 x8 x9 hi sb sh, landP Z La τ]) G X (wsel [1, 0] rfl rfl) (run_V (As := [.int xs]) (rest := []) (n := 1) G hml hts hl.1 (p_recv G X 1 0 rfl rfl rfl) (k2_hasSort hE xs hok _) (cwV 1 hts (cg_V ck_73 ck_569 ck_98 ck_99 ck_79) rfl rfl rfl (by decide +kernel) ⟨Nat.le_of_ble_eq_true rfl, Nat.le_of_ble_eq_true rfl⟩) rfl (Nat.le_of_ble_eq_true rfl) dX11_says_5 ⟨Nat.le_refl _, Nat.le_refl _⟩) (fun _ => wback [1, 0] rfl rfl) (fun H locs _ _ X => ?_)
  refine gb_if_eq (tgt := 29) hx hb dX11_says_8 (by decide) (fun c_8 => ?_) (fun c_8 => ?_)
  ·
    refine lv_iconst (v := (-1)) hx hb dX11_says_29 (by decide) ?_
    exact cfin_I (()) (trivial) (rfl) (by first | exact (if_pos (fun q => c_8 q.1)).symm | exact (if_pos (fun q => c_15 q.2.1)).symm | exact (if_pos (fun q => c_26 q.2.2)).symm) X dX11_says_30 fin
  ·
    obtain ⟨js, hjs, rfl⟩ := zir_of (by omega) c_8
    refine lv_iload_n hx hb dX11_says_11 rfl (lv_at hl 2 rfl) ?_
    refine dtI_go (w := wcat []) (wf := wcat [anP Z an x0 La.1 x2 x3 x4 x5 x6 x7 x8 x9 hi sb sh, landP Z La τ]) (W1 := fun _ => wcat [anP Z an x0 La.1 x2 x3 x4 x5 x6 x7 x8 x9 hi sb sh, landP Z La τ]) G X (wsel [0, 1] rfl rfl) (run_S (As := [.int xc]) (rest := []) (n := 1) G hml hts hl.1 (k11_isCrossing hE xc _) (va_cwS 1 hts (cg_S ck_86 ck_568 ck_88 ck_89) rfl rfl rfl (by decide +kernel) ⟨Nat.le_of_ble_eq_true rfl, Nat.le_of_ble_eq_true rfl⟩) rfl (Nat.le_of_ble_eq_true rfl) dX11_says_12 ⟨Nat.le_refl _, Nat.le_refl _⟩) (fun _ => wback [0, 1] rfl rfl) (fun H locs _ _ X => ?_)
    refine gb_if_eq (tgt := 29) hx hb dX11_says_15 (by decide) (fun c_15 => ?_) (fun c_15 => ?_)
    ·
      refine lv_iconst (v := (-1)) hx hb dX11_says_29 (by decide) ?_
      exact cfin_I (()) (trivial) (rfl) (by first | exact (if_pos (fun q => c_8 q.1)).symm | exact (if_pos (fun q => c_15 q.2.1)).symm | exact (if_pos (fun q => c_26 q.2.2)).symm) X dX11_says_30 fin
    ·
      obtain ⟨jc, hjc, rfl⟩ := zir_of (by decide) c_15
      refine lv_aload_n hx hb dX11_says_18 rfl (lv_at hl 0 rfl) ?_
      refine cg_11 G X 0 0 rfl rfl 1 (by decide) (G.2.2.2.1 _ ck_500) rfl rfl dX11_says_19 ?_
      refine lv_iload_n hx hb dX11_says_22 rfl (lv_at hl 3 rfl) ?_
      refine dtI_go (w := wcat [landP Z La τ]) (wf := wcat [anP Z an x0 La.1 x2 x3 x4 x5 x6 x7 x8 x9 hi sb sh]) (W1 := fun _ => wcat [anP Z an x0 La.1 x2 x3 x4 x5 x6 x7 x8 x9 hi sb sh, landP Z La τ]) G X (wsel [1, 0] rfl rfl) (run_V (As := [.int xw]) (rest := []) (n := 1) G hml hts hl.1 (p_recv G X 1 0 rfl rfl rfl) (k2_hasWorld hE xw hok _) (cwV 1 hts (cg_V ck_72 ck_565 ck_297 ck_298 ck_79) rfl rfl rfl (by decide +kernel) ⟨Nat.le_of_ble_eq_true rfl, Nat.le_of_ble_eq_true rfl⟩) rfl (Nat.le_of_ble_eq_true rfl) dX11_says_23 ⟨Nat.le_refl _, Nat.le_refl _⟩) (fun _ => wback [1, 0] rfl rfl) (fun H locs _ _ X => ?_)
      refine gb_if_ne (tgt := 31) hx hb dX11_says_26 (by decide) (fun c_26 => ?_) (fun c_26 => ?_)
      ·
        obtain ⟨jw, hjw, rfl⟩ := zir_of (by omega) c_26
        refine lv_aload_n hx hb dX11_says_31 rfl (lv_at hl 0 rfl) ?_
        refine cg_11 G X 0 0 rfl rfl 1 (by decide) (G.2.2.2.1 _ ck_500) rfl rfl dX11_says_32 ?_
        refine lv_iload_n hx hb dX11_says_35 rfl (lv_at hl 1 rfl) ?_
        refine lv_iload_n hx hb dX11_says_36 rfl (lv_at hl 2 rfl) ?_
        refine lv_iload_n hx hb dX11_says_37 rfl (lv_at hl 3 rfl) ?_
        refine dtI_go (w := wcat [landP Z La τ]) (wf := wcat [anP Z an x0 La.1 x2 x3 x4 x5 x6 x7 x8 x9 hi sb sh]) (W1 := fun _ => wcat [anP Z an x0 La.1 x2 x3 x4 x5 x6 x7 x8 x9 hi sb sh, landP Z La τ]) G X (wsel [1, 0] rfl rfl) (run_V (As := [.int (nI js), .int (nI jc), .int (nI jw)]) (rest := []) (n := 3) G hml hts hl.1 (p_recv G X 1 0 rfl rfl rfl) (k2_saidBy hE js jc jw hok hpl (by omega) (by omega) (by omega) _) (cwV 3 hts (cg_V ck_107 ck_578 ck_127 ck_128 ck_79) rfl rfl rfl (by decide +kernel) ⟨Nat.le_of_ble_eq_true rfl, Nat.le_of_ble_eq_true rfl⟩) rfl (Nat.le_of_ble_eq_true rfl) dX11_says_38 ⟨Nat.le_refl _, Nat.le_refl _⟩) (fun _ => wback [1, 0] rfl rfl) (fun H locs _ _ X => ?_)
        exact cfin_I (()) (trivial) (rfl) ((zsaysC_v hjs (by omega) hjw hjc (by omega)).symm) X dX11_says_41 fin
      ·
        refine lv_iconst (v := (-1)) hx hb dX11_says_29 (by decide) ?_
        exact cfin_I (()) (trivial) (rfl) (by first | exact (if_pos (fun q => c_8 q.1)).symm | exact (if_pos (fun q => c_15 q.2.1)).symm | exact (if_pos (fun q => c_26 q.2.2)).symm) X dX11_says_30 fin
set_option maxHeartbeats 4000000 in
set_option maxRecDepth 100000 in
theorem k11_chance {E : (Nat → Prop) → State → Heap → Prop} (hE : cEok E) {l : Launch} {D : va_G} {Z : Nat → ClassId} {an : Nat × Nat × Nat} {x0 x2 x3 x4 x5 x6 x7 x8 x9 hi : Nat} {sb sh : Nat → Nat} {La : LA} {τ : MS} (xc : Int32) (xa : Int32) (xw : Int32) (hok : mOk τ) : dtI E l D Z yX11_chance (Cond.code yX11_chance cX11_chance 4 (some .int) :: cW) { frames := 2, cells := 0, slots := 0, locals := 42 } [.ref an.1, .int xc, .int xa, .int xw] (wcat [anP Z an x0 La.1 x2 x3 x4 x5 x6 x7 x8 x9 hi sb sh, landP Z La τ]) (S := Unit) (fun _ => wcat [anP Z an x0 La.1 x2 x3 x4 x5 x6 x7 x8 x9 hi sb sh, landP Z La τ]) (fun _ => zchanC τ xc xa xw) (fun _ => True) := by
  refine dtI_of hE (cc := cX11_chance) (maxL := 4) (by decide +kernel) (fun w h => List.mem_cons_of_mem _ h) (Nat.le_of_ble_eq_true rfl) ?_
  intro p e s m args below meth c A Q ls hx hb hml hown hts G X hl fin
  replace hl : lv_has ls 4 [(0, .ref an.1), (1, .int xc), (2, .int xa), (3, .int xw)] := hl
  obtain ⟨k0, k4, k8, kr, kw, ks, kmet, kmt, k12, k13⟩ := id hok
  refine lv_iload_n hx hb dX11_chance_0 rfl (lv_at hl 1 rfl) ?_
  refine dtI_go (w := wcat []) (wf := wcat [anP Z an x0 La.1 x2 x3 x4 x5 x6 x7 x8 x9 hi sb sh, landP Z La τ]) (W1 := fun _ => wcat [anP Z an x0 La.1 x2 x3 x4 x5 x6 x7 x8 x9 hi sb sh, landP Z La τ]) G X (wsel [0, 1] rfl rfl) (run_S (As := [.int xc]) (rest := []) (n := 1) G hml hts hl.1 (k11_isCrossing hE xc _) (va_cwS 1 hts (cg_S ck_86 ck_568 ck_88 ck_89) rfl rfl rfl (by decide +kernel) ⟨Nat.le_of_ble_eq_true rfl, Nat.le_of_ble_eq_true rfl⟩) rfl (Nat.le_of_ble_eq_true rfl) dX11_chance_1 ⟨Nat.le_refl _, Nat.le_refl _⟩) (fun _ => wback [0, 1] rfl rfl) (fun H locs _ _ X => ?_)
  refine gb_if_eq (tgt := 26) hx hb dX11_chance_4 (by decide) (fun c_4 => ?_) (fun c_4 => ?_)
  ·
    refine lv_iconst (v := (-1)) hx hb dX11_chance_26 (by decide) ?_
    exact cfin_I (()) (trivial) (rfl) (by first | exact (if_pos (fun q => c_4 q.1)).symm | exact (if_pos (fun q => c_12 q.2.1)).symm | exact (if_pos (fun q => c_23 q.2.2)).symm) X dX11_chance_27 fin
  ·
    obtain ⟨jc, hjc, rfl⟩ := zir_of (by decide) c_4
    refine lv_aload_n hx hb dX11_chance_7 rfl (lv_at hl 0 rfl) ?_
    refine lv_iload_n hx hb dX11_chance_8 rfl (lv_at hl 2 rfl) ?_
    refine dtI_go (w := wcat [anP Z an x0 La.1 x2 x3 x4 x5 x6 x7 x8 x9 hi sb sh, landP Z La τ]) (wf := wcat []) (W1 := fun _ => wcat [anP Z an x0 La.1 x2 x3 x4 x5 x6 x7 x8 x9 hi sb sh, landP Z La τ]) G X (wsel [0, 1] rfl rfl) (run_V (As := [.int xa]) (rest := []) (n := 1) G hml hts hl.1 (p_recv G X 0 0 rfl rfl rfl) (k11_isAnswer hE xa hok _) (cwV 1 hts (cg_V ck_579 ck_582 ck_583 ck_584 ck_89) rfl rfl rfl (by decide +kernel) ⟨Nat.le_of_ble_eq_true rfl, Nat.le_of_ble_eq_true rfl⟩) rfl (Nat.le_of_ble_eq_true rfl) dX11_chance_9 ⟨Nat.le_refl _, Nat.le_refl _⟩) (fun _ => wback [0, 1] rfl rfl) (fun H locs _ _ X => ?_)
    refine gb_if_eq (tgt := 26) hx hb dX11_chance_12 (by decide) (fun c_12 => ?_) (fun c_12 => ?_)
    ·
      refine lv_iconst (v := (-1)) hx hb dX11_chance_26 (by decide) ?_
      exact cfin_I (()) (trivial) (rfl) (by first | exact (if_pos (fun q => c_4 q.1)).symm | exact (if_pos (fun q => c_12 q.2.1)).symm | exact (if_pos (fun q => c_23 q.2.2)).symm) X dX11_chance_27 fin
    ·
      have hzr := c_12
      obtain ⟨ja, hja, rfl, hija⟩ := zanR_of (by omega) c_12
      refine lv_aload_n hx hb dX11_chance_15 rfl (lv_at hl 0 rfl) ?_
      refine cg_11 G X 0 0 rfl rfl 1 (by decide) (G.2.2.2.1 _ ck_500) rfl rfl dX11_chance_16 ?_
      refine lv_iload_n hx hb dX11_chance_19 rfl (lv_at hl 3 rfl) ?_
      refine dtI_go (w := wcat [landP Z La τ]) (wf := wcat [anP Z an x0 La.1 x2 x3 x4 x5 x6 x7 x8 x9 hi sb sh]) (W1 := fun _ => wcat [anP Z an x0 La.1 x2 x3 x4 x5 x6 x7 x8 x9 hi sb sh, landP Z La τ]) G X (wsel [1, 0] rfl rfl) (run_V (As := [.int xw]) (rest := []) (n := 1) G hml hts hl.1 (p_recv G X 1 0 rfl rfl rfl) (k2_hasWorld hE xw hok _) (cwV 1 hts (cg_V ck_72 ck_565 ck_297 ck_298 ck_79) rfl rfl rfl (by decide +kernel) ⟨Nat.le_of_ble_eq_true rfl, Nat.le_of_ble_eq_true rfl⟩) rfl (Nat.le_of_ble_eq_true rfl) dX11_chance_20 ⟨Nat.le_refl _, Nat.le_refl _⟩) (fun _ => wback [1, 0] rfl rfl) (fun H locs _ _ X => ?_)
      refine gb_if_ne (tgt := 28) hx hb dX11_chance_23 (by decide) (fun c_23 => ?_) (fun c_23 => ?_)
      ·
        obtain ⟨jw, hjw, rfl⟩ := zir_of (by omega) c_23
        refine lv_aload_n hx hb dX11_chance_28 rfl (lv_at hl 0 rfl) ?_
        refine cg_11 G X 0 0 rfl rfl 1 (by decide) (G.2.2.2.1 _ ck_500) rfl rfl dX11_chance_29 ?_
        refine cg_2 G X 1 0 rfl rfl 17 (by decide) (G.2.2.2.1 _ ck_581) rfl rfl dX11_chance_32 ?_
        refine lv_iload_n hx hb dX11_chance_35 rfl (lv_at hl 1 rfl) ?_
        refine lv_iload_n hx hb dX11_chance_36 rfl (lv_at hl 2 rfl) ?_
        refine dtI_go (w := wcat []) (wf := wcat [anP Z an x0 La.1 x2 x3 x4 x5 x6 x7 x8 x9 hi sb sh, landP Z La τ]) (W1 := fun _ => wcat [anP Z an x0 La.1 x2 x3 x4 x5 x6 x7 x8 x9 hi sb sh, landP Z La τ]) G X (wsel [0, 1] rfl rfl) (run_S (As := [.int (nI jc), .int (nI ja)]) (rest := [.ref (La.2.1 17)]) (n := 2) G hml hts hl.1 (k2_oddsPlace hE jc ja _) (va_cwS 2 hts (cg_S ck_109 ck_585 ck_125 ck_79) rfl rfl rfl (by decide +kernel) ⟨Nat.le_of_ble_eq_true rfl, Nat.le_of_ble_eq_true rfl⟩) rfl (Nat.le_of_ble_eq_true rfl) dX11_chance_37 ⟨Nat.le_refl _, Nat.le_refl _⟩) (fun _ => wback [0, 1] rfl rfl) (fun H locs _ _ X => ?_)
        refine gi_to (a := zplc jc ja) (zplc_nI jc ja) ?_
        have hp := zplc_lt hjc hja
        refine cr_aald G X 1 13 rfl rfl (by omega) (by decide) (if_pos (by omega)) dX11_chance_40 ?_
        refine lv_iload_n hx hb dX11_chance_41 rfl (lv_at hl 3 rfl) ?_
        refine cr_iald G X 1 (zplc jc ja + 32) rfl (landP_r17 (by omega)) (by omega) (by decide) dX11_chance_42 ?_
        refine gi_eq (a := (τ.2 62 (5 * (zplc jc ja) + jw))) (zrow_in (by omega)) ?_
        exact cfin_I (()) (trivial) (rfl) ((zchanC_v hjc hzr hija hjw (by omega)).symm) X dX11_chance_43 fin
      ·
        refine lv_iconst (v := (-1)) hx hb dX11_chance_26 (by decide) ?_
        exact cfin_I (()) (trivial) (rfl) (by first | exact (if_pos (fun q => c_4 q.1)).symm | exact (if_pos (fun q => c_12 q.2.1)).symm | exact (if_pos (fun q => c_23 q.2.2)).symm) X dX11_chance_27 fin
set_option maxHeartbeats 4000000 in
set_option maxRecDepth 100000 in
theorem k11_count {E : (Nat → Prop) → State → Heap → Prop} (hE : cEok E) {l : Launch} {D : va_G} {Z : Nat → ClassId} {an : Nat × Nat × Nat} {x0 x2 x3 x4 x5 x6 x7 x8 x9 hi : Nat} {sb sh : Nat → Nat} {La : LA} {τ : MS} (xk : Int32) (hok : mOk τ) : dtI E l D Z yX11_count (Cond.code yX11_count cX11_count 2 (some .int) :: cW) { frames := 1, cells := 0, slots := 0, locals := 22 } [.ref an.1, .int xk] (wcat [anP Z an x0 La.1 x2 x3 x4 x5 x6 x7 x8 x9 hi sb sh, landP Z La τ]) (S := Unit) (fun _ => wcat [anP Z an x0 La.1 x2 x3 x4 x5 x6 x7 x8 x9 hi sb sh, landP Z La τ]) (fun _ => zcountS τ xk) (fun _ => True) := by
  refine dtI_of hE (cc := cX11_count) (maxL := 2) (by decide +kernel) (fun w h => List.mem_cons_of_mem _ h) (Nat.le_of_ble_eq_true rfl) ?_
  intro p e s m args below meth c A Q ls hx hb hml hown hts G X hl fin
  replace hl : lv_has ls 2 [(0, .ref an.1), (1, .int xk)] := hl
  obtain ⟨k0, k4, k8, kr, kw, ks, kmet, kmt, k12, k13⟩ := id hok
  refine lv_iload_n hx hb dX11_count_0 rfl (lv_at hl 1 rfl) ?_
  by_cases t_1_0 : xk = nI 0
  · refine gi_raw t_1_0 ?_
    refine gn_tableIn (a := 0) (tgt := 40) hx hb dX11_count_1 (by decide) (by decide) (by decide) rfl (by decide) ?_
    refine lv_aload_n hx hb dX11_count_40 rfl (lv_at hl 0 rfl) ?_
    refine cg_11 G X 0 0 rfl rfl 1 (by decide) (G.2.2.2.1 _ ck_500) rfl rfl dX11_count_41 ?_
    refine cg_2 G X 1 0 rfl rfl 0 (by decide) (G.2.2.2.1 _ ck_697) rfl rfl dX11_count_44 ?_
    exact cfin_I (()) (trivial) (rfl) ((if_pos t_1_0).symm) X dX11_count_47 fin
  by_cases t_1_1 : xk = nI 1
  · refine gi_raw t_1_1 ?_
    refine gn_tableIn (a := 1) (tgt := 48) hx hb dX11_count_1 (by decide) (by decide) (by decide) rfl (by decide) ?_
    refine lv_aload_n hx hb dX11_count_48 rfl (lv_at hl 0 rfl) ?_
    refine cg_11 G X 0 0 rfl rfl 1 (by decide) (G.2.2.2.1 _ ck_500) rfl rfl dX11_count_49 ?_
    refine cg_2 G X 1 0 rfl rfl 4 (by decide) (G.2.2.2.1 _ ck_612) rfl rfl dX11_count_52 ?_
    exact cfin_I (()) (trivial) (rfl) (by unfold zcountS; rw [if_neg t_1_0, if_pos t_1_1]) X dX11_count_55 fin
  by_cases t_1_2 : xk = nI 2
  · refine gi_raw t_1_2 ?_
    refine gn_tableIn (a := 2) (tgt := 56) hx hb dX11_count_1 (by decide) (by decide) (by decide) rfl (by decide) ?_
    refine lv_aload_n hx hb dX11_count_56 rfl (lv_at hl 0 rfl) ?_
    refine cg_11 G X 0 0 rfl rfl 1 (by decide) (G.2.2.2.1 _ ck_500) rfl rfl dX11_count_57 ?_
    refine cg_2 G X 1 0 rfl rfl 8 (by decide) (G.2.2.2.1 _ ck_698) rfl rfl dX11_count_60 ?_
    exact cfin_I (()) (trivial) (rfl) (by unfold zcountS; rw [if_neg t_1_0, if_neg t_1_1, if_pos t_1_2]) X dX11_count_63 fin
  by_cases t_1_3 : xk = nI 3
  · refine gi_raw t_1_3 ?_
    refine gn_tableIn (a := 3) (tgt := 64) hx hb dX11_count_1 (by decide) (by decide) (by decide) rfl (by decide) ?_
    refine lv_aload_n hx hb dX11_count_64 rfl (lv_at hl 0 rfl) ?_
    refine cg_11 G X 0 0 rfl rfl 1 (by decide) (G.2.2.2.1 _ ck_500) rfl rfl dX11_count_65 ?_
    refine dtI_go (w := wcat [landP Z La τ]) (wf := wcat [anP Z an x0 La.1 x2 x3 x4 x5 x6 x7 x8 x9 hi sb sh]) (W1 := fun _ => wcat [anP Z an x0 La.1 x2 x3 x4 x5 x6 x7 x8 x9 hi sb sh, landP Z La τ]) G X (wsel [1, 0] rfl rfl) (run_V (As := []) (rest := []) (n := 0) G hml hts hl.1 (p_recv G X 1 0 rfl rfl rfl) (k2_chancesTogether hE hok _) (cwV 0 hts (cg_V ck_74 ck_699 ck_77 ck_78 ck_79) rfl rfl rfl (by decide +kernel) ⟨Nat.le_of_ble_eq_true rfl, Nat.le_of_ble_eq_true rfl⟩) rfl (Nat.le_of_ble_eq_true rfl) dX11_count_68 ⟨Nat.le_refl _, Nat.le_refl _⟩) (fun _ => wback [1, 0] rfl rfl) (fun H locs _ _ X => ?_)
    exact cfin_I (()) (trivial) (rfl) (by unfold zcountS; rw [if_neg t_1_0, if_neg t_1_1, if_neg t_1_2, if_pos t_1_3]) X dX11_count_71 fin
  by_cases t_1_4 : xk = nI 4
  · refine gi_raw t_1_4 ?_
    refine gn_tableIn (a := 4) (tgt := 72) hx hb dX11_count_1 (by decide) (by decide) (by decide) rfl (by decide) ?_
    refine lv_aload_n hx hb dX11_count_72 rfl (lv_at hl 0 rfl) ?_
    refine cg_11 G X 0 0 rfl rfl 1 (by decide) (G.2.2.2.1 _ ck_500) rfl rfl dX11_count_73 ?_
    refine cg_2 G X 1 0 rfl rfl 12 (by decide) (G.2.2.2.1 _ ck_571) rfl rfl dX11_count_76 ?_
    exact cfin_I (()) (trivial) (rfl) (by unfold zcountS; rw [if_neg t_1_0, if_neg t_1_1, if_neg t_1_2, if_neg t_1_3, if_pos t_1_4]) X dX11_count_79 fin
  by_cases t_1_5 : xk = nI 5
  · refine gi_raw t_1_5 ?_
    refine gn_tableIn (a := 5) (tgt := 80) hx hb dX11_count_1 (by decide) (by decide) (by decide) rfl (by decide) ?_
    refine lv_aload_n hx hb dX11_count_80 rfl (lv_at hl 0 rfl) ?_
    refine cg_11 G X 0 0 rfl rfl 1 (by decide) (G.2.2.2.1 _ ck_500) rfl rfl dX11_count_81 ?_
    refine dtI_go (w := wcat [landP Z La τ]) (wf := wcat [anP Z an x0 La.1 x2 x3 x4 x5 x6 x7 x8 x9 hi sb sh]) (W1 := fun _ => wcat [anP Z an x0 La.1 x2 x3 x4 x5 x6 x7 x8 x9 hi sb sh, landP Z La τ]) G X (wsel [1, 0] rfl rfl) (run_V (As := []) (rest := []) (n := 0) G hml hts hl.1 (p_recv G X 1 0 rfl rfl rfl) (k2_minutesTogether hE hok _) (cwV 0 hts (cg_V ck_80 ck_700 ck_701 ck_702 ck_79) rfl rfl rfl (by decide +kernel) ⟨Nat.le_of_ble_eq_true rfl, Nat.le_of_ble_eq_true rfl⟩) rfl (Nat.le_of_ble_eq_true rfl) dX11_count_84 ⟨Nat.le_refl _, Nat.le_refl _⟩) (fun _ => wback [1, 0] rfl rfl) (fun H locs _ _ X => ?_)
    exact cfin_I (()) (trivial) (rfl) (by unfold zcountS; rw [if_neg t_1_0, if_neg t_1_1, if_neg t_1_2, if_neg t_1_3, if_neg t_1_4, if_pos t_1_5]) X dX11_count_87 fin
  refine lv_tableOut (tgt := 88) hx hb dX11_count_1 (zout5 t_1_0 t_1_1 t_1_2 t_1_3 t_1_4 t_1_5) (by decide) ?_
  refine lv_iconst (v := (-1)) hx hb dX11_count_88 (by decide) ?_
  exact cfin_I (()) (trivial) (rfl) (by unfold zcountS; rw [if_neg t_1_0, if_neg t_1_1, if_neg t_1_2, if_neg t_1_3, if_neg t_1_4, if_neg t_1_5]) X dX11_count_89 fin
