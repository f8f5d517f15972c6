set_option maxHeartbeats 4000000 in
set_option maxRecDepth 100000 in
theorem k11_ruleOf {E : (Nat → Prop) → State → Heap → Prop} (hE : cEok E) {l : Launch} {D : va_G} {Z : Nat → ClassId}  (kd : Nat) (fg : Nat) (hk : kd < 6) : dtQ E l D Z yX11_ruleOf (Cond.code yX11_ruleOf cX11_ruleOf 2 (some (.object "AskNext$Rule")) :: cW) { frames := 4, cells := 1, slots := 1, locals := 83 } [.int (nI kd), .int (nI fg)] (wcat []) (S := Nat) (fun u => wcat [ruP u kd fg]) (fun u => some u) (fun _ => True) := by
  refine dtQ_of hE (cc := cX11_ruleOf) (maxL := 2) (Or.inl ⟨_, rfl⟩) (by decide +kernel) (fun w h => List.mem_cons_of_mem _ h) (Nat.le_of_ble_eq_true rfl) ?_
  intro p e s m args below meth c A Q ls hx hb hml hown hts G X hl fin
  replace hl : lv_has ls 2 [(0, .int (nI kd)), (1, .int (nI fg))] := hl
  refine lv_iload_n hx hb dX11_ruleOf_0 rfl (lv_at hl 0 rfl) ?_
  by_cases t_1_1 : kd = 1
  · refine gi_eq t_1_1 ?_
    refine gn_tableIn (a := 1) (tgt := 36) hx hb dX11_ruleOf_1 (by decide) (by decide) (by decide) rfl (by decide) ?_
    refine cx_nr1 G X (G.2.2.2.1 _ ck_670) (G.2.2.2.1 _ ck_671) (G.2.2.2.1 _ ck_145) (by decide) (by decide) dX11_ruleOf_36 (fun q_36 H X => ?_)
    refine lv_dup hx hb dX11_ruleOf_39 rfl ?_
    refine lv_iload_n hx hb dX11_ruleOf_40 rfl (lv_at hl 1 rfl) ?_
    refine dtV_go (w := wcat [ruP q_36 1 0]) (wf := wcat []) (W1 := fun _ => wcat [ruP q_36 1 fg]) G X (wsel [0] rfl rfl) (run_I (As := [.int (nI fg)]) (rest := [.ref q_36]) (n := 1) G hml hts hl.1 (k1_init hE (ru := q_36) (k := 1) (f := 0) fg (by first | exact hk | omega) _) (cwI 1 hts (cg_0 ck_42) rfl rfl rfl (G.2.2.2.1 _ ck_145) (G.2.2.2.1 _ ck_678) (G.2.2.2.1 _ ck_144) rfl (by decide +kernel) ⟨Nat.le_of_ble_eq_true rfl, Nat.le_of_ble_eq_true rfl⟩) rfl (Nat.le_of_ble_eq_true rfl) dX11_ruleOf_41 ⟨Nat.le_of_ble_eq_true rfl, Nat.le_of_ble_eq_true rfl⟩) (fun _ => wback [0] rfl rfl) (fun H locs _ _ X => ?_)
    refine W.widen (k := 1) (n := 1) (Nat.le_of_ble_eq_true rfl) (Nat.le_of_ble_eq_true rfl) ?_
    exact cfin_Q (x := some q_36) (q_36) (trivial) (by first | rw [t_1_1] | rw [t_1_2] | rw [t_1_3] | rw [t_1_4] | rw [t_1_5] | rw [show kd = 0 by omega]) (rfl) X dX11_ruleOf_44 fin
  by_cases t_1_2 : kd = 2
  · refine gi_eq t_1_2 ?_
    refine gn_tableIn (a := 2) (tgt := 45) hx hb dX11_ruleOf_1 (by decide) (by decide) (by decide) rfl (by decide) ?_
    refine cx_nr2 G X (G.2.2.2.1 _ ck_672) (G.2.2.2.1 _ ck_673) (G.2.2.2.1 _ ck_395) (by decide) (by decide) dX11_ruleOf_45 (fun q_45 H X => ?_)
    refine lv_dup hx hb dX11_ruleOf_48 rfl ?_
    refine lv_iload_n hx hb dX11_ruleOf_49 rfl (lv_at hl 1 rfl) ?_
    refine dtV_go (w := wcat [ruP q_45 2 0]) (wf := wcat []) (W1 := fun _ => wcat [ruP q_45 2 fg]) G X (wsel [0] rfl rfl) (run_I (As := [.int (nI fg)]) (rest := [.ref q_45]) (n := 1) G hml hts hl.1 (k3_init hE (ru := q_45) (k := 2) (f := 0) fg (by first | exact hk | omega) _) (cwI 1 hts (cg_0 ck_142) rfl rfl rfl (G.2.2.2.1 _ ck_395) (G.2.2.2.1 _ ck_679) (G.2.2.2.1 _ ck_680) rfl (by decide +kernel) ⟨Nat.le_of_ble_eq_true rfl, Nat.le_of_ble_eq_true rfl⟩) rfl (Nat.le_of_ble_eq_true rfl) dX11_ruleOf_50 ⟨Nat.le_of_ble_eq_true rfl, Nat.le_of_ble_eq_true rfl⟩) (fun _ => wback [0] rfl rfl) (fun H locs _ _ X => ?_)
    refine W.widen (k := 1) (n := 1) (Nat.le_of_ble_eq_true rfl) (Nat.le_of_ble_eq_true rfl) ?_
    exact cfin_Q (x := some q_45) (q_45) (trivial) (by first | rw [t_1_1] | rw [t_1_2] | rw [t_1_3] | rw [t_1_4] | rw [t_1_5] | rw [show kd = 0 by omega]) (rfl) X dX11_ruleOf_53 fin
  by_cases t_1_3 : kd = 3
  · refine gi_eq t_1_3 ?_
    refine gn_tableIn (a := 3) (tgt := 54) hx hb dX11_ruleOf_1 (by decide) (by decide) (by decide) rfl (by decide) ?_
    refine cx_nr3 G X (G.2.2.2.1 _ ck_513) (G.2.2.2.1 _ ck_514) (G.2.2.2.1 _ ck_12) (by decide) (by decide) dX11_ruleOf_54 (fun q_54 H X => ?_)
    refine lv_dup hx hb dX11_ruleOf_57 rfl ?_
    refine lv_iload_n hx hb dX11_ruleOf_58 rfl (lv_at hl 1 rfl) ?_
    refine dtV_go (w := wcat [ruP q_54 3 0]) (wf := wcat []) (W1 := fun _ => wcat [ruP q_54 3 fg]) G X (wsel [0] rfl rfl) (run_I (As := [.int (nI fg)]) (rest := [.ref q_54]) (n := 1) G hml hts hl.1 (k7_init hE (ru := q_54) (k := 3) (f := 0) fg (by first | exact hk | omega) _) (cwI 1 hts (cg_0 ck_5) rfl rfl rfl (G.2.2.2.1 _ ck_12) (G.2.2.2.1 _ ck_523) (G.2.2.2.1 _ ck_11) rfl (by decide +kernel) ⟨Nat.le_of_ble_eq_true rfl, Nat.le_of_ble_eq_true rfl⟩) rfl (Nat.le_of_ble_eq_true rfl) dX11_ruleOf_59 ⟨Nat.le_of_ble_eq_true rfl, Nat.le_of_ble_eq_true rfl⟩) (fun _ => wback [0] rfl rfl) (fun H locs _ _ X => ?_)
    refine W.widen (k := 1) (n := 1) (Nat.le_of_ble_eq_true rfl) (Nat.le_of_ble_eq_true rfl) ?_
    exact cfin_Q (x := some q_54) (q_54) (trivial) (by first | rw [t_1_1] | rw [t_1_2] | rw [t_1_3] | rw [t_1_4] | rw [t_1_5] | rw [show kd = 0 by omega]) (rfl) X dX11_ruleOf_62 fin
  by_cases t_1_4 : kd = 4
  · refine gi_eq t_1_4 ?_
    refine gn_tableIn (a := 4) (tgt := 63) hx hb dX11_ruleOf_1 (by decide) (by decide) (by decide) rfl (by decide) ?_
    refine cx_nr4 G X (G.2.2.2.1 _ ck_674) (G.2.2.2.1 _ ck_675) (G.2.2.2.1 _ ck_439) (by decide) (by decide) dX11_ruleOf_63 (fun q_63 H X => ?_)
    refine lv_dup hx hb dX11_ruleOf_66 rfl ?_
    refine lv_iload_n hx hb dX11_ruleOf_67 rfl (lv_at hl 1 rfl) ?_
    refine dtV_go (w := wcat [ruP q_63 4 0]) (wf := wcat []) (W1 := fun _ => wcat [ruP q_63 4 fg]) G X (wsel [0] rfl rfl) (run_I (As := [.int (nI fg)]) (rest := [.ref q_63]) (n := 1) G hml hts hl.1 (k0_init hE (ru := q_63) (k := 4) (f := 0) fg (by first | exact hk | omega) _) (cwI 1 hts (cg_0 ck_9) rfl rfl rfl (G.2.2.2.1 _ ck_439) (G.2.2.2.1 _ ck_681) (G.2.2.2.1 _ ck_682) rfl (by decide +kernel) ⟨Nat.le_of_ble_eq_true rfl, Nat.le_of_ble_eq_true rfl⟩) rfl (Nat.le_of_ble_eq_true rfl) dX11_ruleOf_68 ⟨Nat.le_of_ble_eq_true rfl, Nat.le_of_ble_eq_true rfl⟩) (fun _ => wback [0] rfl rfl) (fun H locs _ _ X => ?_)
    refine W.widen (k := 1) (n := 1) (Nat.le_of_ble_eq_true rfl) (Nat.le_of_ble_eq_true rfl) ?_
    exact cfin_Q (x := some q_63) (q_63) (trivial) (by first | rw [t_1_1] | rw [t_1_2] | rw [t_1_3] | rw [t_1_4] | rw [t_1_5] | rw [show kd = 0 by omega]) (rfl) X dX11_ruleOf_71 fin
  by_cases t_1_5 : kd = 5
  · refine gi_eq t_1_5 ?_
    refine gn_tableIn (a := 5) (tgt := 72) hx hb dX11_ruleOf_1 (by decide) (by decide) (by decide) rfl (by decide) ?_
    refine cx_nr5 G X (G.2.2.2.1 _ ck_676) (G.2.2.2.1 _ ck_677) (G.2.2.2.1 _ ck_415) (by decide) (by decide) dX11_ruleOf_72 (fun q_72 H X => ?_)
    refine lv_dup hx hb dX11_ruleOf_75 rfl ?_
    refine lv_iload_n hx hb dX11_ruleOf_76 rfl (lv_at hl 1 rfl) ?_
    refine dtV_go (w := wcat [ruP q_72 5 0]) (wf := wcat []) (W1 := fun _ => wcat [ruP q_72 5 fg]) G X (wsel [0] rfl rfl) (run_I (As := [.int (nI fg)]) (rest := [.ref q_72]) (n := 1) G hml hts hl.1 (k9_init hE (ru := q_72) (k := 5) (f := 0) fg (by first | exact hk | omega) _) (cwI 1 hts (cg_0 ck_328) rfl rfl rfl (G.2.2.2.1 _ ck_415) (G.2.2.2.1 _ ck_683) (G.2.2.2.1 _ ck_684) rfl (by decide +kernel) ⟨Nat.le_of_ble_eq_true rfl, Nat.le_of_ble_eq_true rfl⟩) rfl (Nat.le_of_ble_eq_true rfl) dX11_ruleOf_77 ⟨Nat.le_of_ble_eq_true rfl, Nat.le_of_ble_eq_true rfl⟩) (fun _ => wback [0] rfl rfl) (fun H locs _ _ X => ?_)
    refine W.widen (k := 1) (n := 1) (Nat.le_of_ble_eq_true rfl) (Nat.le_of_ble_eq_true rfl) ?_
    exact cfin_Q (x := some q_72) (q_72) (trivial) (by first | rw [t_1_1] | rw [t_1_2] | rw [t_1_3] | rw [t_1_4] | rw [t_1_5] | rw [show kd = 0 by omega]) (rfl) X dX11_ruleOf_80 fin
  refine gn_tableOut (a := kd) (tgt := 81) hx hb dX11_ruleOf_1 (by omega) (by omega) (by decide) ?_
  refine cx_nr0 G X (G.2.2.2.1 _ ck_511) (G.2.2.2.1 _ ck_347) (G.2.2.2.1 _ ck_8) (by decide) (by decide) dX11_ruleOf_81 (fun q_81 H X => ?_)
  refine lv_dup hx hb dX11_ruleOf_84 rfl ?_
  refine lv_iload_n hx hb dX11_ruleOf_85 rfl (lv_at hl 1 rfl) ?_
  refine dtV_go (w := wcat [ruP q_81 0 0]) (wf := wcat []) (W1 := fun _ => wcat [ruP q_81 0 fg]) G X (wsel [0] rfl rfl) (run_I (As := [.int (nI fg)]) (rest := [.ref q_81]) (n := 1) G hml hts hl.1 (k6_init hE (ru := q_81) (k := 0) (f := 0) fg (by first | exact hk | omega) _) (cwI 1 hts (cg_0 ck_0) rfl rfl rfl (G.2.2.2.1 _ ck_8) (G.2.2.2.1 _ ck_522) (G.2.2.2.1 _ ck_7) rfl (by decide +kernel) ⟨Nat.le_of_ble_eq_true rfl, Nat.le_of_ble_eq_true rfl⟩) rfl (Nat.le_of_ble_eq_true rfl) dX11_ruleOf_86 ⟨Nat.le_of_ble_eq_true rfl, Nat.le_of_ble_eq_true rfl⟩) (fun _ => wback [0] rfl rfl) (fun H locs _ _ X => ?_)
  refine W.widen (k := 1) (n := 1) (Nat.le_of_ble_eq_true rfl) (Nat.le_of_ble_eq_true rfl) ?_
  exact cfin_Q (x := some q_81) (q_81) (trivial) (by first | rw [t_1_1] | rw [t_1_2] | rw [t_1_3] | rw [t_1_4] | rw [t_1_5] | rw [show kd = 0 by omega]) (rfl) X dX11_ruleOf_89 fin
set_option maxHeartbeats 4000000 in
set_option maxRecDepth 100000 in
theorem k11_keep {E : (Nat → Prop) → State → Heap → Prop} (hE : cEok E) {l : Launch} {D : va_G} {Z : Nat → ClassId} {an : Nat × Nat × Nat} {x0 x1 x2 x3 x4 x5 x6 x7 x8 x9 hi : Nat} {sb sc : Nat → Nat} {ρ : MS} (xd : Int32) (xw : Int32) (xk : Int32) (xf : Int32) (hzs : zSh ρ) (hC : cCast E) : dtI E l D Z yX11_keep (Cond.code yX11_keep cX11_keep 5 (some .int) :: cW) { frames := 5, cells := 1, slots := 1, locals := 104 } [.ref an.1, .int xd, .int xw, .int xk, .int xf] (wcat [anP Z an x0 x1 x2 x3 x4 x5 x6 x7 x8 x9 hi sb (ρ.2 41), shOn (shF Z sb sc ρ) 8]) (S := ((Nat → Nat) × (Nat → Nat))) (fun u => wcat [anP Z an x0 x1 x2 x3 x4 x5 x6 x7 x8 x9 hi u.1 ((zkeepTT ρ xd xw xk xf).2 41), shOn (shF Z u.1 u.2 (zkeepTT ρ xd xw xk xf)) 8]) (fun u => zkeepSS xd xw xk xf) (fun _ => True) := by
  refine dtI_of hE (cc := cX11_keep) (maxL := 5) (by decide +kernel) (fun w h => List.mem_cons_of_mem _ h) (Nat.le_of_ble_eq_true rfl) ?_
  intro p e s m args below meth c A Q ls hx hb hml hown hts G X hl fin
  replace hl : lv_has ls 5 [(0, .ref an.1), (1, .int xd), (2, .int xw), (3, .int xk), (4, .int xf)] := hl
  refine lv_iload_n hx hb dX11_keep_0 rfl (lv_at hl 1 rfl) ?_
  refine dtI_go (w := wcat []) (wf := wcat [anP Z an x0 x1 x2 x3 x4 x5 x6 x7 x8 x9 hi sb (ρ.2 41), shOn (shF Z sb sc ρ) 8]) (W1 := fun _ => wcat [anP Z an x0 x1 x2 x3 x4 x5 x6 x7 x8 x9 hi sb (ρ.2 41), shOn (shF Z sb sc ρ) 8]) G X (wsel [0, 1] rfl rfl) (run_S (As := [.int xd]) (rest := []) (n := 1) G hml hts hl.1 (k11_isShelf hE xd _) (va_cwS 1 hts (cg_S ck_525 ck_527 ck_528 ck_89) rfl rfl rfl (by decide +kernel) ⟨Nat.le_of_ble_eq_true rfl, Nat.le_of_ble_eq_true rfl⟩) rfl (Nat.le_of_ble_eq_true rfl) dX11_keep_1 ⟨Nat.le_of_ble_eq_true rfl, Nat.le_of_ble_eq_true rfl⟩) (fun _ => wback [0, 1] rfl rfl) (fun H locs _ _ X => ?_)
  refine gb_if_ne (tgt := 9) hx hb dX11_keep_4 (by decide) (fun c_4 => ?_) (fun c_4 => ?_)
  ·
    obtain ⟨jd, hjd, rfl⟩ := zir_of (by decide) c_4
    refine lv_iload_n hx hb dX11_keep_9 rfl (lv_at hl 2 rfl) ?_
    refine lv_if_ne (tgt := 23) hx hb dX11_keep_10 (by decide) (fun c_10 => ?_) (fun c_10 => ?_)
    ·
      refine lv_iload_n hx hb dX11_keep_23 rfl (lv_at hl 2 rfl) ?_
      refine lv_iconst (v := nI 1) hx hb dX11_keep_24 (by decide) ?_
      refine lv_icmp_ne (tgt := 58) hx hb dX11_keep_25 (by decide) (fun c_25 => ?_) (fun c_25 => ?_)
      ·
        refine lv_iconst (v := (-1)) hx hb dX11_keep_58 (by decide) ?_
        refine W.widen (k := 1) (n := 1) (Nat.le_of_ble_eq_true rfl) (Nat.le_of_ble_eq_true rfl) ?_
        exact cfin_I ((sb, sc)) (trivial) (congrArg (fun z => wcat [anP Z an x0 x1 x2 x3 x4 x5 x6 x7 x8 x9 hi sb (z.2 41), shOn (shF Z sb sc z) 8]) (zkp_n (ρ := ρ) (d := nI jd) (w := xw) (k := xk) (f := xf) (by rintro ⟨g1, g2, g3⟩; first | exact c_4 g1 | exact c_25 (zir2_1 g2 c_10) | exact c_32 (g3 c_25).1 | exact c_40 (g3 c_25).2)).2) ((zkp_n (ρ := ρ) (d := nI jd) (w := xw) (k := xk) (f := xf) (by rintro ⟨g1, g2, g3⟩; first | exact c_4 g1 | exact c_25 (zir2_1 g2 c_10) | exact c_32 (g3 c_25).1 | exact c_40 (g3 c_25).2)).1) X dX11_keep_59 fin
      ·
        refine lv_iload_n hx hb dX11_keep_28 rfl (lv_at hl 3 rfl) ?_
        refine dtI_go (w := wcat []) (wf := wcat [anP Z an x0 x1 x2 x3 x4 x5 x6 x7 x8 x9 hi sb (ρ.2 41), shOn (shF Z sb sc ρ) 8]) (W1 := fun _ => wcat [anP Z an x0 x1 x2 x3 x4 x5 x6 x7 x8 x9 hi sb (ρ.2 41), shOn (shF Z sb sc ρ) 8]) G X (wsel [0, 1] rfl rfl) (run_S (As := [.int xk]) (rest := []) (n := 1) G hml hts hl.1 (k11_isRuleKind hE xk _) (va_cwS 1 hts (cg_S ck_666 ck_668 ck_669 ck_89) rfl rfl rfl (by decide +kernel) ⟨Nat.le_of_ble_eq_true rfl, Nat.le_of_ble_eq_true rfl⟩) rfl (Nat.le_of_ble_eq_true rfl) dX11_keep_29 ⟨Nat.le_of_ble_eq_true rfl, Nat.le_of_ble_eq_true rfl⟩) (fun _ => wback [0, 1] rfl rfl) (fun H locs _ _ X => ?_)
        refine gb_if_eq (tgt := 58) hx hb dX11_keep_32 (by decide) (fun c_32 => ?_) (fun c_32 => ?_)
        ·
          refine lv_iconst (v := (-1)) hx hb dX11_keep_58 (by decide) ?_
          refine W.widen (k := 1) (n := 1) (Nat.le_of_ble_eq_true rfl) (Nat.le_of_ble_eq_true rfl) ?_
          exact cfin_I ((sb, sc)) (trivial) (congrArg (fun z => wcat [anP Z an x0 x1 x2 x3 x4 x5 x6 x7 x8 x9 hi sb (z.2 41), shOn (shF Z sb sc z) 8]) (zkp_n (ρ := ρ) (d := nI jd) (w := xw) (k := xk) (f := xf) (by rintro ⟨g1, g2, g3⟩; first | exact c_4 g1 | exact c_25 (zir2_1 g2 c_10) | exact c_32 (g3 c_25).1 | exact c_40 (g3 c_25).2)).2) ((zkp_n (ρ := ρ) (d := nI jd) (w := xw) (k := xk) (f := xf) (by rintro ⟨g1, g2, g3⟩; first | exact c_4 g1 | exact c_25 (zir2_1 g2 c_10) | exact c_32 (g3 c_25).1 | exact c_40 (g3 c_25).2)).1) X dX11_keep_59 fin
        ·
          obtain ⟨jk, hjk, rfl⟩ := zir_of (by decide) c_32
          refine lv_iload hx hb dX11_keep_35 (lv_at hl 4 rfl) ?_
          refine dtI_go (w := wcat []) (wf := wcat [anP Z an x0 x1 x2 x3 x4 x5 x6 x7 x8 x9 hi sb (ρ.2 41), shOn (shF Z sb sc ρ) 8]) (W1 := fun _ => wcat [anP Z an x0 x1 x2 x3 x4 x5 x6 x7 x8 x9 hi sb (ρ.2 41), shOn (shF Z sb sc ρ) 8]) G X (wsel [0, 1] rfl rfl) (run_S (As := [.int xf]) (rest := []) (n := 1) G hml hts hl.1 (k11_isFigure hE xf _) (va_cwS 1 hts (cg_S ck_92 ck_687 ck_94 ck_89) rfl rfl rfl (by decide +kernel) ⟨Nat.le_of_ble_eq_true rfl, Nat.le_of_ble_eq_true rfl⟩) rfl (Nat.le_of_ble_eq_true rfl) dX11_keep_37 ⟨Nat.le_of_ble_eq_true rfl, Nat.le_of_ble_eq_true rfl⟩) (fun _ => wback [0, 1] rfl rfl) (fun H locs _ _ X => ?_)
          refine gb_if_eq (tgt := 58) hx hb dX11_keep_40 (by decide) (fun c_40 => ?_) (fun c_40 => ?_)
          ·
            refine lv_iconst (v := (-1)) hx hb dX11_keep_58 (by decide) ?_
            refine W.widen (k := 1) (n := 1) (Nat.le_of_ble_eq_true rfl) (Nat.le_of_ble_eq_true rfl) ?_
            exact cfin_I ((sb, sc)) (trivial) (congrArg (fun z => wcat [anP Z an x0 x1 x2 x3 x4 x5 x6 x7 x8 x9 hi sb (z.2 41), shOn (shF Z sb sc z) 8]) (zkp_n (ρ := ρ) (d := nI jd) (w := xw) (k := nI jk) (f := xf) (by rintro ⟨g1, g2, g3⟩; first | exact c_4 g1 | exact c_25 (zir2_1 g2 c_10) | exact c_32 (g3 c_25).1 | exact c_40 (g3 c_25).2)).2) ((zkp_n (ρ := ρ) (d := nI jd) (w := xw) (k := nI jk) (f := xf) (by rintro ⟨g1, g2, g3⟩; first | exact c_4 g1 | exact c_25 (zir2_1 g2 c_10) | exact c_32 (g3 c_25).1 | exact c_40 (g3 c_25).2)).1) X dX11_keep_59 fin
          ·
            obtain ⟨jf, hjf, rfl⟩ := zir_of (by decide) c_40
            refine lv_aload_n hx hb dX11_keep_43 rfl (lv_at hl 0 rfl) ?_
            refine cg_11 G X 0 0 rfl rfl 10 (by decide) (G.2.2.2.1 _ ck_516) rfl rfl dX11_keep_44 ?_
            refine lv_iload_n hx hb dX11_keep_47 rfl (lv_at hl 1 rfl) ?_
            refine lv_iload_n hx hb dX11_keep_48 rfl (lv_at hl 3 rfl) ?_
            refine lv_iload hx hb dX11_keep_49 (lv_at hl 4 rfl) ?_
            refine dtQ_go (w := wcat []) (wf := wcat [anP Z an x0 x1 x2 x3 x4 x5 x6 x7 x8 x9 hi sb (ρ.2 41), shOn (shF Z sb sc ρ) 8]) (W1 := fun u_51 => wcat [anP Z an x0 x1 x2 x3 x4 x5 x6 x7 x8 x9 hi sb (ρ.2 41), shOn (shF Z sb sc ρ) 8, ruP u_51 jk jf]) G X (wsel [0, 1] rfl rfl) (run_S (As := [.int (nI jk), .int (nI jf)]) (rest := [.int (nI jd), .ref an.2.1]) (n := 2) G hml hts hl.1 (k11_ruleOf hE jk jf hjk _) (va_cwS 2 hts (cg_S ck_685 ck_690 ck_691 ck_89) rfl rfl rfl (by decide +kernel) ⟨Nat.le_of_ble_eq_true rfl, Nat.le_of_ble_eq_true rfl⟩) rfl (Nat.le_of_ble_eq_true rfl) dX11_keep_51 ⟨Nat.le_of_ble_eq_true rfl, Nat.le_of_ble_eq_true rfl⟩) (fun u_51 => wback [2, 0, 1] rfl rfl) (fun H locs u_51 hu_51 X => ?_)
            refine cx_astR (ps' := [anQ Z an x0 x1 x2 x3 x4 x5 x6 x7 x8 x9 hi (va_up (shR sb (ρ.2 41) 1) jd (some u_51)) (shR sb (ρ.2 41) 2), shOn (shF Z sb sc ρ) 8, ruP u_51 jk jf]) hC G X 0 1 rfl rfl 2 (hjk) rfl (by omega) (by decide) rfl dX11_keep_54 (fun H locs X => ?_)
            refine lv_goto (tgt := 60) hx hb dX11_keep_55 (by decide) ?_
            refine lv_aload_n hx hb dX11_keep_60 rfl (lv_at hl 0 rfl) ?_
            refine cg_11 G X 0 0 rfl rfl 11 (by decide) (G.2.2.2.1 _ ck_518) rfl rfl dX11_keep_61 ?_
            refine lv_iload_n hx hb dX11_keep_64 rfl (lv_at hl 1 rfl) ?_
            refine lv_null hx hb dX11_keep_65 ?_
            refine cx_astn (ps' := [anQ Z an x0 x1 x2 x3 x4 x5 x6 x7 x8 x9 hi (va_up (shR sb (ρ.2 41) 1) jd (some u_51)) (va_up (shR sb (ρ.2 41) 2) jd none), shOn (shF Z sb sc ρ) 8, ruP u_51 jk jf]) 4 (C := "AskNext$Row") rfl G X 0 2 rfl rfl (by omega) (by decide) rfl dX11_keep_66 (fun H locs X => ?_)
            replace X := sh_new (qs := [anQ Z an x0 x1 x2 x3 x4 x5 x6 x7 x8 x9 hi (va_up (shR sb (ρ.2 41) 1) jd (some u_51)) (va_up (shR sb (ρ.2 41) 2) jd none)]) (g := shF Z (va_up sb jd u_51) sc (zkpT ρ jd 1 jk jf)) hjd shF_keep1 X
            refine lv_iconst (v := nI 0) hx hb dX11_keep_67 (by decide) ?_
            refine W.widen (k := 1) (n := 1) (Nat.le_of_ble_eq_true rfl) (Nat.le_of_ble_eq_true rfl) ?_
            exact cfin_I (((va_up sb jd u_51), sc)) (trivial) (by rw [show xw = nI 1 from c_25]; rw [an_keep1 (k := jk) (f := jf) hjd]; exact congrArg (fun z => wcat [anP Z an x0 x1 x2 x3 x4 x5 x6 x7 x8 x9 hi (va_up sb jd u_51) (z.2 41), shOn (shF Z (va_up sb jd u_51) sc z) 8]) (zkp_1 hjd hjk hjf).2) (by rw [show xw = nI 1 from c_25]; exact (zkp_1 (ρ := ρ) hjd hjk hjf).1) X dX11_keep_68 fin
    ·
      refine lv_aload_n hx hb dX11_keep_13 rfl (lv_at hl 0 rfl) ?_
      refine cg_11 G X 0 0 rfl rfl 10 (by decide) (G.2.2.2.1 _ ck_516) rfl rfl dX11_keep_14 ?_
      refine lv_iload_n hx hb dX11_keep_17 rfl (lv_at hl 1 rfl) ?_
      refine lv_null hx hb dX11_keep_18 ?_
      refine cx_astn (ps' := [anQ Z an x0 x1 x2 x3 x4 x5 x6 x7 x8 x9 hi (va_up (shR sb (ρ.2 41) 1) jd none) (shR sb (ρ.2 41) 2), shOn (shF Z sb sc ρ) 8]) 3 (C := "AskNext$Rule") rfl G X 0 1 rfl rfl (by omega) (by decide) rfl dX11_keep_19 (fun H locs X => ?_)
      refine lv_goto (tgt := 60) hx hb dX11_keep_20 (by decide) ?_
      refine lv_aload_n hx hb dX11_keep_60 rfl (lv_at hl 0 rfl) ?_
      refine cg_11 G X 0 0 rfl rfl 11 (by decide) (G.2.2.2.1 _ ck_518) rfl rfl dX11_keep_61 ?_
      refine lv_iload_n hx hb dX11_keep_64 rfl (lv_at hl 1 rfl) ?_
      refine lv_null hx hb dX11_keep_65 ?_
      refine cx_astn (ps' := [anQ Z an x0 x1 x2 x3 x4 x5 x6 x7 x8 x9 hi (va_up (shR sb (ρ.2 41) 1) jd none) (va_up (shR sb (ρ.2 41) 2) jd none), shOn (shF Z sb sc ρ) 8]) 4 (C := "AskNext$Row") rfl G X 0 2 rfl rfl (by omega) (by decide) rfl dX11_keep_66 (fun H locs X => ?_)
      replace X := sh_gone (qs := [anQ Z an x0 x1 x2 x3 x4 x5 x6 x7 x8 x9 hi (va_up (shR sb (ρ.2 41) 1) jd none) (va_up (shR sb (ρ.2 41) 2) jd none)]) (g := shF Z sb sc (zkpT ρ jd 0 (iN xk) (iN xf))) hjd shF_keep0 X
      refine lv_iconst (v := nI 0) hx hb dX11_keep_67 (by decide) ?_
      refine W.widen (k := 1) (n := 1) (Nat.le_of_ble_eq_true rfl) (Nat.le_of_ble_eq_true rfl) ?_
      exact cfin_I ((sb, sc)) (trivial) (by rw [show xw = nI 0 from c_10]; rw [an_keep0 (k := iN xk) (f := iN xf)]; exact congrArg (fun z => wcat [anP Z an x0 x1 x2 x3 x4 x5 x6 x7 x8 x9 hi sb (z.2 41), shOn (shF Z sb sc z) 8]) (zkp_0 hjd).2) (by rw [show xw = nI 0 from c_10]; exact (zkp_0 (ρ := ρ) hjd).1) X dX11_keep_68 fin
  ·
    refine lv_iconst (v := (-1)) hx hb dX11_keep_7 (by decide) ?_
    refine W.widen (k := 1) (n := 1) (Nat.le_of_ble_eq_true rfl) (Nat.le_of_ble_eq_true rfl) ?_
    exact cfin_I ((sb, sc)) (trivial) (congrArg (fun z => wcat [anP Z an x0 x1 x2 x3 x4 x5 x6 x7 x8 x9 hi sb (z.2 41), shOn (shF Z sb sc z) 8]) (zkp_n (ρ := ρ) (d := xd) (w := xw) (k := xk) (f := xf) (by rintro ⟨g1, g2, g3⟩; first | exact c_4 g1 | exact c_25 (zir2_1 g2 c_10) | exact c_32 (g3 c_25).1 | exact c_40 (g3 c_25).2)).2) ((zkp_n (ρ := ρ) (d := xd) (w := xw) (k := xk) (f := xf) (by rintro ⟨g1, g2, g3⟩; first | exact c_4 g1 | exact c_25 (zir2_1 g2 c_10) | exact c_32 (g3 c_25).1 | exact c_40 (g3 c_25).2)).1) X dX11_keep_8 fin
set_option maxHeartbeats 4000000 in
set_option maxRecDepth 100000 in
theorem k11_row {E : (Nat → Prop) → State → Heap → Prop} (hE : cEok E) {l : Launch} {D : va_G} {Z : Nat → ClassId} {an : Nat × Nat × Nat} {x0 x1 x2 x3 x4 x5 x6 x7 x8 x9 hi : Nat} {sb sc : Nat → Nat} {ρ : MS} (xd : Int32) (xt : Int32) (xn : Int32) (hzs : zSh ρ) : dtI E l D Z yX11_row (Cond.code yX11_row cX11_row 4 (some .int) :: cW) { frames := 2, cells := 2, slots := 102, locals := 42 } [.ref an.1, .int xd, .int xt, .int xn] (wcat [anP Z an x0 x1 x2 x3 x4 x5 x6 x7 x8 x9 hi sb (ρ.2 41), shOn (shF Z sb sc ρ) 8]) (S := ((Nat → Nat) × (Nat → Nat))) (fun u => wcat [anP Z an x0 x1 x2 x3 x4 x5 x6 x7 x8 x9 hi u.1 ((zrowT ρ xd xt xn).2 41), shOn (shF Z u.1 u.2 (zrowT ρ xd xt xn)) 8]) (fun u => zrowS xd xt xn) (fun _ => True) := by
  refine dtI_of hE (cc := cX11_row) (maxL := 4) (by decide +kernel) (fun w h => List.mem_cons_of_mem _ h) (Nat.le_of_ble_eq_true rfl) ?_
  intro p e s m args below meth c A Q ls hx hb hml hown hts G X hl fin
  replace hl : lv_has ls 4 [(0, .ref an.1), (1, .int xd), (2, .int xt), (3, .int xn)] := hl
  refine lv_iload_n hx hb dX11_row_0 rfl (lv_at hl 1 rfl) ?_
  refine dtI_go (w := wcat []) (wf := wcat [anP Z an x0 x1 x2 x3 x4 x5 x6 x7 x8 x9 hi sb (ρ.2 41), shOn (shF Z sb sc ρ) 8]) (W1 := fun _ => wcat [anP Z an x0 x1 x2 x3 x4 x5 x6 x7 x8 x9 hi sb (ρ.2 41), shOn (shF Z sb sc ρ) 8]) G X (wsel [0, 1] rfl rfl) (run_S (As := [.int xd]) (rest := []) (n := 1) G hml hts hl.1 (k11_isShelf hE xd _) (va_cwS 1 hts (cg_S ck_525 ck_527 ck_528 ck_89) rfl rfl rfl (by decide +kernel) ⟨Nat.le_of_ble_eq_true rfl, Nat.le_of_ble_eq_true rfl⟩) rfl (Nat.le_of_ble_eq_true rfl) dX11_row_1 ⟨Nat.le_of_ble_eq_true rfl, Nat.le_of_ble_eq_true rfl⟩) (fun _ => wback [0, 1] rfl rfl) (fun H locs _ _ X => ?_)
  refine gb_if_eq (tgt := 22) hx hb dX11_row_4 (by decide) (fun c_4 => ?_) (fun c_4 => ?_)
  ·
    refine lv_iconst (v := (-1)) hx hb dX11_row_22 (by decide) ?_
    refine W.widen (k := 2) (n := 102) (Nat.le_of_ble_eq_true rfl) (Nat.le_of_ble_eq_true rfl) ?_
    exact cfin_I ((sb, sc)) (trivial) (congrArg (fun z => wcat [anP Z an x0 x1 x2 x3 x4 x5 x6 x7 x8 x9 hi sb (z.2 41), shOn (shF Z sb sc z) 8]) (zrwS_n (ρ := ρ) (d := xd) (t := xt) (n := xn) (by rintro ⟨g1, g2, g3⟩; first | exact c_4 g1 | exact zir_f1 c_8 g2 | exact zir_f2 (n := 3) (by decide) c_13 g2 | exact c_19 g3)).2) ((zrwS_n (ρ := ρ) (d := xd) (t := xt) (n := xn) (by rintro ⟨g1, g2, g3⟩; first | exact c_4 g1 | exact zir_f1 c_8 g2 | exact zir_f2 (n := 3) (by decide) c_13 g2 | exact c_19 g3)).1) X dX11_row_23 fin
  ·
    obtain ⟨jd, hjd, rfl⟩ := zir_of (by decide) c_4
    refine lv_iload_n hx hb dX11_row_7 rfl (lv_at hl 2 rfl) ?_
    refine lv_if_lt (tgt := 22) hx hb dX11_row_8 (by decide) (fun c_8 => ?_) (fun c_8 => ?_)
    ·
      refine lv_iconst (v := (-1)) hx hb dX11_row_22 (by decide) ?_
      refine W.widen (k := 2) (n := 102) (Nat.le_of_ble_eq_true rfl) (Nat.le_of_ble_eq_true rfl) ?_
      exact cfin_I ((sb, sc)) (trivial) (congrArg (fun z => wcat [anP Z an x0 x1 x2 x3 x4 x5 x6 x7 x8 x9 hi sb (z.2 41), shOn (shF Z sb sc z) 8]) (zrwS_n (ρ := ρ) (d := nI jd) (t := xt) (n := xn) (by rintro ⟨g1, g2, g3⟩; first | exact c_4 g1 | exact zir_f1 c_8 g2 | exact zir_f2 (n := 3) (by decide) c_13 g2 | exact c_19 g3)).2) ((zrwS_n (ρ := ρ) (d := nI jd) (t := xt) (n := xn) (by rintro ⟨g1, g2, g3⟩; first | exact c_4 g1 | exact zir_f1 c_8 g2 | exact zir_f2 (n := 3) (by decide) c_13 g2 | exact c_19 g3)).1) X dX11_row_23 fin
    ·
      refine lv_iload_n hx hb dX11_row_11 rfl (lv_at hl 2 rfl) ?_
      refine lv_iconst (v := nI 3) hx hb dX11_row_12 (by decide) ?_
      refine lv_icmp_ge (tgt := 22) hx hb dX11_row_13 (by decide) (fun c_13 => ?_) (fun c_13 => ?_)
      ·
        refine lv_iconst (v := (-1)) hx hb dX11_row_22 (by decide) ?_
        refine W.widen (k := 2) (n := 102) (Nat.le_of_ble_eq_true rfl) (Nat.le_of_ble_eq_true rfl) ?_
        exact cfin_I ((sb, sc)) (trivial) (congrArg (fun z => wcat [anP Z an x0 x1 x2 x3 x4 x5 x6 x7 x8 x9 hi sb (z.2 41), shOn (shF Z sb sc z) 8]) (zrwS_n (ρ := ρ) (d := nI jd) (t := xt) (n := xn) (by rintro ⟨g1, g2, g3⟩; first | exact c_4 g1 | exact zir_f1 c_8 g2 | exact zir_f2 (n := 3) (by decide) c_13 g2 | exact c_19 g3)).2) ((zrwS_n (ρ := ρ) (d := nI jd) (t := xt) (n := xn) (by rintro ⟨g1, g2, g3⟩; first | exact c_4 g1 | exact zir_f1 c_8 g2 | exact zir_f2 (n := 3) (by decide) c_13 g2 | exact c_19 g3)).1) X dX11_row_23 fin
      ·
        obtain ⟨jt, hjt, rfl⟩ := zir_of (by decide) (zir_t (n := 3) (by decide) c_8 c_13)
        refine lv_iload_n hx hb dX11_row_16 rfl (lv_at hl 3 rfl) ?_
        refine lv_bipush (v := nI 100) hx hb dX11_row_17 (by decide) ?_
        refine lv_icmp_le (tgt := 24) hx hb dX11_row_19 (by decide) (fun c_19 => ?_) (fun c_19 => ?_)
        ·
          refine lv_iload_n hx hb dX11_row_24 rfl (lv_at hl 3 rfl) ?_
          refine lv_if_ge (tgt := 31) hx hb dX11_row_25 (by decide) (fun c_25 => ?_) (fun c_25 => ?_)
          ·
            obtain ⟨jn, hjn, rfl⟩ := zi_nn c_19 (Int32.not_lt.mpr c_25)
            refine lv_aload_n hx hb dX11_row_31 rfl (lv_at hl 0 rfl) ?_
            refine cg_11 G X 0 0 rfl rfl 10 (by decide) (G.2.2.2.1 _ ck_516) rfl rfl dX11_row_32 ?_
            refine lv_iload_n hx hb dX11_row_35 rfl (lv_at hl 1 rfl) ?_
            refine lv_null hx hb dX11_row_36 ?_
            refine cx_astn (ps' := [anQ Z an x0 x1 x2 x3 x4 x5 x6 x7 x8 x9 hi (va_up (shR sb (ρ.2 41) 1) jd none) (shR sb (ρ.2 41) 2), shOn (shF Z sb sc ρ) 8]) 3 (C := "AskNext$Rule") rfl G X 0 1 rfl rfl (by omega) (by decide) rfl dX11_row_37 (fun H locs X => ?_)
            refine lv_aload_n hx hb dX11_row_38 rfl (lv_at hl 0 rfl) ?_
            refine cg_11 G X 0 0 rfl rfl 11 (by decide) (G.2.2.2.1 _ ck_518) rfl rfl dX11_row_39 ?_
            refine lv_iload_n hx hb dX11_row_42 rfl (lv_at hl 1 rfl) ?_
            refine cx_n5 G X (G.2.2.2.1 _ ck_517) (G.2.2.2.1 _ ck_705) (G.2.2.2.1 _ ck_616) (by decide) (by decide) dX11_row_43 (fun q_43 H X => ?_)
            refine lv_dup hx hb dX11_row_46 rfl ?_
            refine lv_iload_n hx hb dX11_row_47 rfl (lv_at hl 2 rfl) ?_
            refine lv_iload_n hx hb dX11_row_48 rfl (lv_at hl 3 rfl) ?_
            refine dtV_go (w := wcat [[(q_43, Sum.inr (5, [.int 0, .null]))]]) (wf := wcat [anQ Z an x0 x1 x2 x3 x4 x5 x6 x7 x8 x9 hi (va_up (shR sb (ρ.2 41) 1) jd none) (shR sb (ρ.2 41) 2), shOn (shF Z sb sc ρ) 8]) (W1 := fun u_49 => wcat [anQ Z an x0 x1 x2 x3 x4 x5 x6 x7 x8 x9 hi (va_up (shR sb (ρ.2 41) 1) jd none) (shR sb (ρ.2 41) 2), shOn (shF Z sb sc ρ) 8, roP Z (q_43, u_49) jt jn (fun _ => 0)]) G X (wsel [2, 0, 1] rfl rfl) (run_I (As := [.int (nI jt), .int (nI jn)]) (rest := [.ref q_43, .int (nI jd), .ref an.2.2]) (n := 2) G hml hts hl.1 (k5_init hE (ob := q_43) jt jn (by omega) _) (cwI 2 hts (cg_0 ck_273) rfl rfl rfl (G.2.2.2.1 _ ck_616) (G.2.2.2.1 _ ck_706) (G.2.2.2.1 _ ck_707) rfl (by decide +kernel) ⟨Nat.le_of_ble_eq_true rfl, Nat.le_of_ble_eq_true rfl⟩) rfl (Nat.le_of_ble_eq_true rfl) dX11_row_49 ⟨Nat.le_of_ble_eq_true rfl, Nat.le_of_ble_eq_true rfl⟩) (fun u_49 => wback [2, 0, 1] rfl rfl) (fun H locs u_49 hu_49 X => ?_)
            refine cx_astW (ps' := [anQ Z an x0 x1 x2 x3 x4 x5 x6 x7 x8 x9 hi (va_up (shR sb (ρ.2 41) 1) jd none) (va_up (shR sb (ρ.2 41) 2) jd (some q_43)), shOn (shF Z sb sc ρ) 8, roP Z (q_43, u_49) jt jn (fun _ => 0)]) (v := (q_43, u_49)) G X 0 2 rfl rfl 2 rfl (by omega) (by decide) rfl dX11_row_52 (fun H locs X => ?_)
            replace X := sh_new (qs := [anQ Z an x0 x1 x2 x3 x4 x5 x6 x7 x8 x9 hi (va_up (shR sb (ρ.2 41) 1) jd none) (va_up (shR sb (ρ.2 41) 2) jd (some q_43))]) (g := shF Z (va_up sb jd q_43) (va_up sc jd u_49) (zrwT ρ jd jt jn)) hjd (shF_row hzs (by omega)) X
            refine lv_iconst (v := nI 0) hx hb dX11_row_53 (by decide) ?_
            refine W.widen (k := 2) (n := 102) (Nat.le_of_ble_eq_true rfl) (Nat.le_of_ble_eq_true rfl) ?_
            exact cfin_I (((va_up sb jd q_43), (va_up sc jd u_49))) (trivial) (by rw [an_row (t := jt) (n := jn) hjd]; exact congrArg (fun z => wcat [anP Z an x0 x1 x2 x3 x4 x5 x6 x7 x8 x9 hi (va_up sb jd q_43) (z.2 41), shOn (shF Z (va_up sb jd q_43) (va_up sc jd u_49) z) 8]) (zrwS_v (ρ := ρ) hjd hjt (show jn ≤ 100 by omega)).2) ((zrwS_v (ρ := ρ) hjd hjt (show jn ≤ 100 by omega)).1) X dX11_row_54 fin
          ·
            refine lv_bipush (v := (-14)) hx hb dX11_row_28 (by decide) ?_
            refine W.widen (k := 2) (n := 102) (Nat.le_of_ble_eq_true rfl) (Nat.le_of_ble_eq_true rfl) ?_
            exact cfin_I ((sb, sc)) (trivial) (congrArg (fun z => wcat [anP Z an x0 x1 x2 x3 x4 x5 x6 x7 x8 x9 hi sb (z.2 41), shOn (shF Z sb sc z) 8]) (zrwS_l (ρ := ρ) (d := nI jd) (t := nI jt) (n := xn) ⟨zir_N hjd (by decide), zir_N hjt (by decide), c_19⟩ (Int32.not_le.mp c_25)).2) ((zrwS_l (ρ := ρ) (d := nI jd) (t := nI jt) (n := xn) ⟨zir_N hjd (by decide), zir_N hjt (by decide), c_19⟩ (Int32.not_le.mp c_25)).1) X dX11_row_30 fin
        ·
          refine lv_iconst (v := (-1)) hx hb dX11_row_22 (by decide) ?_
          refine W.widen (k := 2) (n := 102) (Nat.le_of_ble_eq_true rfl) (Nat.le_of_ble_eq_true rfl) ?_
          exact cfin_I ((sb, sc)) (trivial) (congrArg (fun z => wcat [anP Z an x0 x1 x2 x3 x4 x5 x6 x7 x8 x9 hi sb (z.2 41), shOn (shF Z sb sc z) 8]) (zrwS_n (ρ := ρ) (d := nI jd) (t := nI jt) (n := xn) (by rintro ⟨g1, g2, g3⟩; first | exact c_4 g1 | exact zir_f1 c_8 g2 | exact zir_f2 (n := 3) (by decide) c_13 g2 | exact c_19 g3)).2) ((zrwS_n (ρ := ρ) (d := nI jd) (t := nI jt) (n := xn) (by rintro ⟨g1, g2, g3⟩; first | exact c_4 g1 | exact zir_f1 c_8 g2 | exact zir_f2 (n := 3) (by decide) c_13 g2 | exact c_19 g3)).1) X dX11_row_23 fin
set_option maxHeartbeats 4000000 in
set_option maxRecDepth 100000 in
theorem k11_best {E : (Nat → Prop) → State → Heap → Prop} (hE : cEok E) {l : Launch} {D : va_G} {Z : Nat → ClassId} {an : Nat × Nat × Nat} {x2 x3 x4 x5 x6 x7 x8 x9 hi : Nat} {sb sc : Nat → Nat} {ρ : MS} {wo vq r0 a4 a5 a6 a7 a8 a9 a10 a11 : Nat} {La : LA} {τ : MS} {tm : Nat × Nat × Nat} {FM KM vv : Nat → Nat} (xd : Int32) (xf : Int32) (xn : Int32) (xz : Nat) (hT : tOk τ) (hp28 : τ.1 28 = 4294967295) (hzs : zSh ρ) : dtI E l D Z yX11_best (Cond.code yX11_best cX11_best 10 (some .int) :: cW) { frames := 6, cells := 6, slots := 6, locals := 141 } [.ref an.1, .int xd, .int xf, .int xn, .int (nI xz)] (wcat [anP Z an wo La.1 x2 x3 x4 x5 x6 x7 x8 x9 hi sb (ρ.2 41), wkP Z (wo, La.1, tm.1, vq) r0 a4 a5 a6 a7 a8 a9 a10 a11 vv, landP Z La τ, thP Z tm FM KM, shOn (shF Z sb sc ρ) 8]) (S := (Nat × Nat × Nat × Nat × Nat × Nat × Nat × Nat × Nat × (Nat → Nat) × (Nat → Nat) × (Nat → Nat))) (fun u => wcat [anP Z an wo La.1 x2 x3 x4 x5 x6 x7 x8 x9 hi sb (ρ.2 41), wkP Z (wo, La.1, tm.1, vq) u.1 u.2.1 u.2.2.1 u.2.2.2.1 u.2.2.2.2.1 u.2.2.2.2.2.1 u.2.2.2.2.2.2.1 u.2.2.2.2.2.2.2.1 u.2.2.2.2.2.2.2.2.1 u.2.2.2.2.2.2.2.2.2.1, landP Z La τ, thP Z tm u.2.2.2.2.2.2.2.2.2.2.1 u.2.2.2.2.2.2.2.2.2.2.2, shOn (shF Z sb sc ρ) 8]) (fun u => zbestC τ ρ xd xf xn xz) (fun _ => True) := by
  refine dtI_of hE (cc := cX11_best) (maxL := 10) (by decide +kernel) (fun w h => List.mem_cons_of_mem _ h) (Nat.le_of_ble_eq_true rfl) ?_
  intro p e s m args below meth c A Q ls hx hb hml hown hts G X hl fin
  replace hl : lv_has ls 10 [(0, .ref an.1), (1, .int xd), (2, .int xf), (3, .int xn), (4, .int (nI xz))] := hl
  obtain ⟨hok, hpl, hod, hrows, hnx, hsh6, hgl8⟩ := id hT
  obtain ⟨k0, k4, k8, kr, kw, ks, kmet, kmt, k12, k13⟩ := id hok
  refine lv_iload_n hx hb dX11_best_0 rfl (lv_at hl 1 rfl) ?_
  refine dtI_go (w := wcat []) (wf := wcat [anP Z an wo La.1 x2 x3 x4 x5 x6 x7 x8 x9 hi sb (ρ.2 41), wkP Z (wo, La.1, tm.1, vq) r0 a4 a5 a6 a7 a8 a9 a10 a11 vv, landP Z La τ, thP Z tm FM KM, shOn (shF Z sb sc ρ) 8]) (W1 := fun _ => wcat [anP Z an wo La.1 x2 x3 x4 x5 x6 x7 x8 x9 hi sb (ρ.2 41), wkP Z (wo, La.1, tm.1, vq) r0 a4 a5 a6 a7 a8 a9 a10 a11 vv, landP Z La τ, thP Z tm FM KM, shOn (shF Z sb sc ρ) 8]) G X (wsel [0, 1, 2, 3, 4] rfl rfl) (run_S (As := [.int xd]) (rest := []) (n := 1) G hml hts hl.1 (k11_isShelf hE xd _) (va_cwS 1 hts (cg_S ck_525 ck_527 ck_528 ck_89) rfl rfl rfl (by decide +kernel) ⟨Nat.le_of_ble_eq_true rfl, Nat.le_of_ble_eq_true rfl⟩) rfl (Nat.le_of_ble_eq_true rfl) dX11_best_1 ⟨Nat.le_of_ble_eq_true rfl, Nat.le_of_ble_eq_true rfl⟩) (fun _ => wback [0, 1, 2, 3, 4] rfl rfl) (fun H locs _ _ X => ?_)
  refine gb_if_eq (tgt := 21) hx hb dX11_best_4 (by decide) (fun c_4 => ?_) (fun c_4 => ?_)
  ·
    refine lv_iconst (v := nI 4294967295) hx hb dX11_best_21 (by decide) ?_
    refine W.widen (k := 6) (n := 6) (Nat.le_of_ble_eq_true rfl) (Nat.le_of_ble_eq_true rfl) ?_
    exact cfin_I ((r0, a4, a5, a6, a7, a8, a9, a10, a11, vv, FM, KM)) (trivial) (rfl) (by rw [nI_m1]; first | exact zbestC_n (fun q => c_4 q.1) | exact zbestC_n (fun q => c_11 q.2.1) | exact zbestC_n (fun q => c_18 q.2.2)) X dX11_best_22 fin
  ·
    obtain ⟨jd, hjd, rfl⟩ := zir_of (by decide) c_4
    refine lv_iload_n hx hb dX11_best_7 rfl (lv_at hl 2 rfl) ?_
    refine dtI_go (w := wcat []) (wf := wcat [anP Z an wo La.1 x2 x3 x4 x5 x6 x7 x8 x9 hi sb (ρ.2 41), wkP Z (wo, La.1, tm.1, vq) r0 a4 a5 a6 a7 a8 a9 a10 a11 vv, landP Z La τ, thP Z tm FM KM, shOn (shF Z sb sc ρ) 8]) (W1 := fun _ => wcat [anP Z an wo La.1 x2 x3 x4 x5 x6 x7 x8 x9 hi sb (ρ.2 41), wkP Z (wo, La.1, tm.1, vq) r0 a4 a5 a6 a7 a8 a9 a10 a11 vv, landP Z La τ, thP Z tm FM KM, shOn (shF Z sb sc ρ) 8]) G X (wsel [0, 1, 2, 3, 4] rfl rfl) (run_S (As := [.int xf]) (rest := []) (n := 1) G hml hts hl.1 (k11_isFigure hE xf _) (va_cwS 1 hts (cg_S ck_92 ck_687 ck_94 ck_89) rfl rfl rfl (by decide +kernel) ⟨Nat.le_of_ble_eq_true rfl, Nat.le_of_ble_eq_true rfl⟩) rfl (Nat.le_of_ble_eq_true rfl) dX11_best_8 ⟨Nat.le_of_ble_eq_true rfl, Nat.le_of_ble_eq_true rfl⟩) (fun _ => wback [0, 1, 2, 3, 4] rfl rfl) (fun H locs _ _ X => ?_)
    refine gb_if_eq (tgt := 21) hx hb dX11_best_11 (by decide) (fun c_11 => ?_) (fun c_11 => ?_)
    ·
      refine lv_iconst (v := nI 4294967295) hx hb dX11_best_21 (by decide) ?_
      refine W.widen (k := 6) (n := 6) (Nat.le_of_ble_eq_true rfl) (Nat.le_of_ble_eq_true rfl) ?_
      exact cfin_I ((r0, a4, a5, a6, a7, a8, a9, a10, a11, vv, FM, KM)) (trivial) (rfl) (by rw [nI_m1]; first | exact zbestC_n (fun q => c_4 q.1) | exact zbestC_n (fun q => c_11 q.2.1) | exact zbestC_n (fun q => c_18 q.2.2)) X dX11_best_22 fin
    ·
      obtain ⟨jf, hjf, rfl⟩ := zir_of (by decide) c_11
      refine lv_iload_n hx hb dX11_best_14 rfl (lv_at hl 3 rfl) ?_
      refine dtI_go (w := wcat []) (wf := wcat [anP Z an wo La.1 x2 x3 x4 x5 x6 x7 x8 x9 hi sb (ρ.2 41), wkP Z (wo, La.1, tm.1, vq) r0 a4 a5 a6 a7 a8 a9 a10 a11 vv, landP Z La τ, thP Z tm FM KM, shOn (shF Z sb sc ρ) 8]) (W1 := fun _ => wcat [anP Z an wo La.1 x2 x3 x4 x5 x6 x7 x8 x9 hi sb (ρ.2 41), wkP Z (wo, La.1, tm.1, vq) r0 a4 a5 a6 a7 a8 a9 a10 a11 vv, landP Z La τ, thP Z tm FM KM, shOn (shF Z sb sc ρ) 8]) G X (wsel [0, 1, 2, 3, 4] rfl rfl) (run_S (As := [.int xn]) (rest := []) (n := 1) G hml hts hl.1 (k11_isSeeds hE xn _) (va_cwS 1 hts (cg_S ck_657 ck_659 ck_660 ck_89) rfl rfl rfl (by decide +kernel) ⟨Nat.le_of_ble_eq_true rfl, Nat.le_of_ble_eq_true rfl⟩) rfl (Nat.le_of_ble_eq_true rfl) dX11_best_15 ⟨Nat.le_of_ble_eq_true rfl, Nat.le_of_ble_eq_true rfl⟩) (fun _ => wback [0, 1, 2, 3, 4] rfl rfl) (fun H locs _ _ X => ?_)
      refine gb_if_ne (tgt := 23) hx hb dX11_best_18 (by decide) (fun c_18 => ?_) (fun c_18 => ?_)
      ·
        obtain ⟨jn, hjn, rfl⟩ := zsd_of c_18
        refine lv_aload_n hx hb dX11_best_23 rfl (lv_at hl 0 rfl) ?_
        refine lv_iload_n hx hb dX11_best_24 rfl (lv_at hl 1 rfl) ?_
        refine dtQ_go (w := wcat [anP Z an wo La.1 x2 x3 x4 x5 x6 x7 x8 x9 hi sb (ρ.2 41)]) (wf := wcat [wkP Z (wo, La.1, tm.1, vq) r0 a4 a5 a6 a7 a8 a9 a10 a11 vv, landP Z La τ, thP Z tm FM KM, shOn (shF Z sb sc ρ) 8]) (W1 := fun _ => wcat [anP Z an wo La.1 x2 x3 x4 x5 x6 x7 x8 x9 hi sb (ρ.2 41), wkP Z (wo, La.1, tm.1, vq) r0 a4 a5 a6 a7 a8 a9 a10 a11 vv, landP Z La τ, thP Z tm FM KM, shOn (shF Z sb sc ρ) 8]) G X (wsel [0, 1, 2, 3, 4] rfl rfl) (run_V (As := [.int (nI jd)]) (rest := []) (n := 1) G hml hts hl.1 (p_recv G X 0 0 rfl rfl rfl) (k11_rowOn hE (nI jd) _) (cwV 1 hts (cg_V ck_526 ck_534 ck_535 ck_536 ck_89) rfl rfl rfl (by decide +kernel) ⟨Nat.le_of_ble_eq_true rfl, Nat.le_of_ble_eq_true rfl⟩) rfl (Nat.le_of_ble_eq_true rfl) dX11_best_25 ⟨Nat.le_of_ble_eq_true rfl, Nat.le_of_ble_eq_true rfl⟩) (fun _ => wback [0, 1, 2, 3, 4] rfl rfl) (fun H locs _ _ X => ?_)
        by_cases q_25 : (ρ.2 41) jd = 2
        · refine gq_s (shQ_s (by omega) q_25) ?_
          replace X := sh_out (qs := [anP Z an wo La.1 x2 x3 x4 x5 x6 x7 x8 x9 hi sb (ρ.2 41), wkP Z (wo, La.1, tm.1, vq) r0 a4 a5 a6 a7 a8 a9 a10 a11 vv, landP Z La τ, thP Z tm FM KM]) hjd (shF_2 (show ρ.2 41 jd = 2 from q_25)) X
          have hz4 := hzs.2.2 jd hjd q_25
          refine lv_astore (lv' := [(5, .ref (sb jd)), (0, .ref an.1), (1, .int (nI jd)), (2, .int (nI jf)), (3, .int (nI jn)), (4, .int (nI xz))]) hx hb dX11_best_28 hl (by decide) rfl (fun ls hl => ?_)
          refine lv_aload hx hb dX11_best_30 (lv_at hl 0 rfl) ?_
          refine lv_ifnonnull (tgt := 41) hx hb dX11_best_32 (by decide) ?_
          refine lv_aload hx hb dX11_best_41 (lv_at hl 0 rfl) ?_
          refine cg_5 G X 4 0 rfl rfl 0 (by decide) (G.2.2.2.1 _ ck_541) rfl rfl dX11_best_43 ?_
          refine gn_if_eq (tgt := 52) hx hb dX11_best_46 (by decide) (by omega) (fun c_46 => ?_) (fun c_46 => ?_)
          ·
            refine lv_aload hx hb dX11_best_52 (lv_at hl 0 rfl) ?_
            refine dtI_go (w := wcat [roP Z (sb jd, sc jd) (ρ.2 44 jd) (ρ.2 45 jd) (sel ρ jd)]) (wf := wcat [anP Z an wo La.1 x2 x3 x4 x5 x6 x7 x8 x9 hi sb (ρ.2 41), wkP Z (wo, La.1, tm.1, vq) r0 a4 a5 a6 a7 a8 a9 a10 a11 vv, landP Z La τ, thP Z tm FM KM, shOn (shNo (shF Z sb sc ρ) jd) 8]) (W1 := fun _ => wcat [anP Z an wo La.1 x2 x3 x4 x5 x6 x7 x8 x9 hi sb (ρ.2 41), wkP Z (wo, La.1, tm.1, vq) r0 a4 a5 a6 a7 a8 a9 a10 a11 vv, landP Z La τ, thP Z tm FM KM, roP Z (sb jd, sc jd) (ρ.2 44 jd) (ρ.2 45 jd) (sel ρ jd), shOn (shNo (shF Z sb sc ρ) jd) 8]) G X (wsel [4, 0, 1, 2, 3, 5] rfl rfl) (run_S (As := [.ref (sb jd)]) (rest := []) (n := 1) G hml hts hl.1 (k11_holdsKinds hE (ro := (sb jd, sc jd)) hz4.2 _) (va_cwS 1 hts (cg_S ck_667 ck_688 ck_689 ck_89) rfl rfl rfl (by decide +kernel) ⟨Nat.le_of_ble_eq_true rfl, Nat.le_of_ble_eq_true rfl⟩) rfl (Nat.le_of_ble_eq_true rfl) dX11_best_54 ⟨Nat.le_of_ble_eq_true rfl, Nat.le_of_ble_eq_true rfl⟩) (fun _ => wback [4, 0, 1, 2, 3, 5] rfl rfl) (fun H locs _ _ X => ?_)
            refine gb_if_ne (tgt := 63) hx hb dX11_best_57 (by decide) (fun c_57 => ?_) (fun c_57 => ?_)
            ·
              obtain ⟨hn16, hall⟩ := zhk_of c_57
              refine lv_aload_n hx hb dX11_best_63 rfl (lv_at hl 1 rfl) ?_
              refine cg_11 G X 0 0 rfl rfl 1 (by decide) (G.2.2.2.1 _ ck_500) rfl rfl dX11_best_64 ?_
              refine dtI_go (w := wcat [landP Z La τ]) (wf := wcat [anP Z an wo La.1 x2 x3 x4 x5 x6 x7 x8 x9 hi sb (ρ.2 41), wkP Z (wo, La.1, tm.1, vq) r0 a4 a5 a6 a7 a8 a9 a10 a11 vv, thP Z tm FM KM, roP Z (sb jd, sc jd) (ρ.2 44 jd) (ρ.2 45 jd) (sel ρ jd), shOn (shNo (shF Z sb sc ρ) jd) 8]) (W1 := fun _ => wcat [anP Z an wo La.1 x2 x3 x4 x5 x6 x7 x8 x9 hi sb (ρ.2 41), wkP Z (wo, La.1, tm.1, vq) r0 a4 a5 a6 a7 a8 a9 a10 a11 vv, landP Z La τ, thP Z tm FM KM, roP Z (sb jd, sc jd) (ρ.2 44 jd) (ρ.2 45 jd) (sel ρ jd), shOn (shNo (shF Z sb sc ρ) jd) 8]) G X (wsel [2, 0, 1, 3, 4, 5] rfl rfl) (run_V (As := []) (rest := []) (n := 0) G hml hts hl.1 (p_recv G X 2 0 rfl rfl rfl) (k2_isReady hE hok _) (cwV 0 hts (cg_V ck_75 ck_586 ck_587 ck_588 ck_79) rfl rfl rfl (by decide +kernel) ⟨Nat.le_of_ble_eq_true rfl, Nat.le_of_ble_eq_true rfl⟩) rfl (Nat.le_of_ble_eq_true rfl) dX11_best_67 ⟨Nat.le_of_ble_eq_true rfl, Nat.le_of_ble_eq_true rfl⟩) (fun _ => wback [2, 0, 1, 3, 4, 5] rfl rfl) (fun H locs _ _ X => ?_)
              refine gb_if_ne (tgt := 76) hx hb dX11_best_70 (by decide) (fun c_70 => ?_) (fun c_70 => ?_)
              ·
                have hmb : ∀ i, (zbeF τ ρ jd jf jn xz) i < 2147483648 := fun i => zbeF_lt hok hjf hjn
                refine lv_iconst (v := nI 0) hx hb dX11_best_76 (by decide) ?_
                refine lv_istore (lv' := [(6, .int (nI 0)), (5, .ref (sb jd)), (0, .ref an.1), (1, .int (nI jd)), (2, .int (nI jf)), (3, .int (nI jn)), (4, .int (nI xz))]) hx hb dX11_best_77 hl (by decide) rfl (fun ls hl => ?_)
                refine gn_ldcw (v := 2147483647) (k := 2147483647) hx hb G.2.2.1 (G.2.2.2.1 _ ck_686) (by decide) dX11_best_79 ?_
                refine lv_istore (lv' := [(7, .int (nI 2147483647)), (6, .int (nI 0)), (5, .ref (sb jd)), (0, .ref an.1), (1, .int (nI jd)), (2, .int (nI jf)), (3, .int (nI jn)), (4, .int (nI xz))]) hx hb dX11_best_82 hl (by decide) rfl (fun ls hl => ?_)
                refine lv_iconst (v := nI 0) hx hb dX11_best_84 (by decide) ?_
                refine lv_istore (lv' := [(8, .int (nI 0)), (7, .int (nI 2147483647)), (6, .int (nI 0)), (5, .ref (sb jd)), (0, .ref an.1), (1, .int (nI jd)), (2, .int (nI jf)), (3, .int (nI jn)), (4, .int (nI xz))]) hx hb dX11_best_85 hl (by decide) rfl (fun ls hl => ?_)
                have cut_87 : ∀ (NN : Nat) (i1 : Nat) (r1 : Nat) (b4 : Nat) (b5 : Nat) (b6 : Nat) (b7 : Nat) (b8 : Nat) (b9 : Nat) (b10 : Nat) (b11 : Nat) (v1 : Nat → Nat) (F1 : Nat → Nat) (K1 : Nat → Nat) (h1 : i1 ≤ ρ.2 45 jd), ρ.2 45 jd - i1 < NN → ∀ (H : Heap) (locs : List Loc) (ls : Array Slot), wH D vwCl A s.heap H locs (wcat [anP Z an wo La.1 x2 x3 x4 x5 x6 x7 x8 x9 hi sb (ρ.2 41), wkP Z (wo, La.1, tm.1, vq) r1 b4 b5 b6 b7 b8 b9 b10 b11 v1, landP Z La τ, thP Z tm F1 K1, roP Z (sb jd, sc jd) (ρ.2 44 jd) (ρ.2 45 jd) (sel ρ jd), shOn (shNo (shF Z sb sc ρ) jd) 8]) → lv_has ls 10 [(0, .ref an.1), (2, .int (nI jf)), (3, .int (nI jn)), (4, .int (nI xz)), (5, .ref (sb jd)), (6, .int (nI (zlp (zbeF τ ρ jd jf jn xz) i1))), (7, .int (nI (zlv (zbeF τ ρ jd jf jn xz) i1))), (8, .int (nI i1))] → W p l e { frames := 6, cells := 6, slots := 6, locals := 141 } s m args below meth c H locs i1 i1 Q (F0 m 87 ls []) := by
                  intro NN
                  induction NN with
                  | zero => intro i1 r1 b4 b5 b6 b7 b8 b9 b10 b11 v1 F1 K1 h1 hNN; exact absurd hNN (Nat.not_lt_zero _)
                  | succ NN ih_87 =>
                    intro i1 r1 b4 b5 b6 b7 b8 b9 b10 b11 v1 F1 K1 h1 hNN H locs ls X hl
                    refine lv_iload hx hb dX11_best_87 (lv_at hl 7 rfl) ?_
                    refine lv_aload hx hb dX11_best_89 (lv_at hl 4 rfl) ?_
                    refine cg_5 G X 4 0 rfl rfl 1 (by decide) (G.2.2.2.1 _ ck_611) rfl rfl dX11_best_91 ?_
                    refine cr_alen 0 G X 4 1 (ty := .int) rfl rfl rfl dX11_best_94 ?_
                    refine gn_icmp_ge (tgt := 141) hx hb dX11_best_95 (by decide) (by omega) (by omega) (fun c_95 => ?_) (fun c_95 => ?_)
                    ·
                      replace X := sh_in (qs := [anP Z an wo La.1 x2 x3 x4 x5 x6 x7 x8 x9 hi sb (ρ.2 41), wkP Z (wo, La.1, tm.1, vq) r1 b4 b5 b6 b7 b8 b9 b10 b11 v1, landP Z La τ, thP Z tm F1 K1]) hjd (shF_2 (show ρ.2 41 jd = 2 from q_25)) X
                      refine lv_iload hx hb dX11_best_141 (lv_at hl 5 rfl) ?_
                      refine W.widen (k := 6) (n := 6) (by omega) (by omega) ?_
                      exact cfin_I ((r1, b4, b5, b6, b7, b8, b9, b10, b11, v1, F1, K1)) (trivial) (rfl) (by rw [zbestC_v (ρ := ρ) (z := xz) hjd hjf hjn q_25, if_neg (show ¬ ρ.2 44 jd ≠ 0 by omega), if_neg (fun q => q c_57), if_neg (fun q => q c_70), zlp_p (show i1 ≠ 0 by omega), show i1 = ρ.2 45 jd by omega]) X dX11_best_143 fin
                    ·
                      refine lv_aload_n hx hb dX11_best_98 rfl (lv_at hl 0 rfl) ?_
                      refine lv_aload hx hb dX11_best_99 (lv_at hl 4 rfl) ?_
                      refine cg_5 G X 4 0 rfl rfl 1 (by decide) (G.2.2.2.1 _ ck_611) rfl rfl dX11_best_101 ?_
                      refine lv_iload hx hb dX11_best_104 (lv_at hl 7 rfl) ?_
                      refine cr_ialdr G X 4 1 rfl rfl (by omega) (by omega) dX11_best_106 ?_
                      obtain ⟨kd, hkd, hek⟩ := zir_of (by decide) (hall i1 c_95)
                      refine gi_to (a := kd) (hek) ?_
                      refine lv_iload_n hx hb dX11_best_107 rfl (lv_at hl 1 rfl) ?_
                      refine dtQ_go (w := wcat []) (wf := wcat [anP Z an wo La.1 x2 x3 x4 x5 x6 x7 x8 x9 hi sb (ρ.2 41), wkP Z (wo, La.1, tm.1, vq) r1 b4 b5 b6 b7 b8 b9 b10 b11 v1, landP Z La τ, thP Z tm F1 K1, roP Z (sb jd, sc jd) (ρ.2 44 jd) (ρ.2 45 jd) (sel ρ jd), shOn (shNo (shF Z sb sc ρ) jd) 8]) (W1 := fun u_108 => wcat [anP Z an wo La.1 x2 x3 x4 x5 x6 x7 x8 x9 hi sb (ρ.2 41), wkP Z (wo, La.1, tm.1, vq) r1 b4 b5 b6 b7 b8 b9 b10 b11 v1, landP Z La τ, thP Z tm F1 K1, roP Z (sb jd, sc jd) (ρ.2 44 jd) (ρ.2 45 jd) (sel ρ jd), shOn (shNo (shF Z sb sc ρ) jd) 8, ruP u_108 kd jf]) G X (wsel [0, 1, 2, 3, 4, 5] rfl rfl) (run_S (As := [.int (nI kd), .int (nI jf)]) (rest := [.ref an.1]) (n := 2) G hml hts hl.1 (k11_ruleOf hE kd jf hkd _) (va_cwS 2 hts (cg_S ck_685 ck_690 ck_691 ck_89) rfl rfl rfl (by decide +kernel) ⟨Nat.le_of_ble_eq_true rfl, Nat.le_of_ble_eq_true rfl⟩) rfl (Nat.le_of_ble_eq_true rfl) dX11_best_108 ⟨by show i1 + 1 ≤ 6; omega, by show i1 + 1 ≤ 6; omega⟩) (fun u_108 => wback [6, 0, 1, 2, 3, 4, 5] rfl rfl) (fun H locs u_108 hu_108 X => ?_)
                      refine lv_iload_n hx hb dX11_best_111 rfl (lv_at hl 2 rfl) ?_
                      refine lv_iload hx hb dX11_best_112 (lv_at hl 3 rfl) ?_
                      refine lv_iconst (v := nI 4294967295) hx hb dX11_best_114 (by decide) ?_
                      refine dtI_go (w := wcat [anP Z an wo La.1 x2 x3 x4 x5 x6 x7 x8 x9 hi sb (ρ.2 41), wkP Z (wo, La.1, tm.1, vq) r1 b4 b5 b6 b7 b8 b9 b10 b11 v1, landP Z La τ, thP Z tm F1 K1, ruP u_108 kd jf]) (wf := wcat [roP Z (sb jd, sc jd) (ρ.2 44 jd) (ρ.2 45 jd) (sel ρ jd), shOn (shNo (shF Z sb sc ρ) jd) 8]) (W1 := fun u_115 => wcat [anP Z an wo La.1 x2 x3 x4 x5 x6 x7 x8 x9 hi sb (ρ.2 41), wkP Z (wo, La.1, tm.1, vq) u_115.1 u_115.2.1 u_115.2.2.1 u_115.2.2.2.1 u_115.2.2.2.2.1 u_115.2.2.2.2.2.1 u_115.2.2.2.2.2.2.1 u_115.2.2.2.2.2.2.2.1 u_115.2.2.2.2.2.2.2.2.1 u_115.2.2.2.2.2.2.2.2.2.1, landP Z La τ, thP Z tm u_115.2.2.2.2.2.2.2.2.2.2.1 u_115.2.2.2.2.2.2.2.2.2.2.2, roP Z (sb jd, sc jd) (ρ.2 44 jd) (ρ.2 45 jd) (sel ρ jd), shOn (shNo (shF Z sb sc ρ) jd) 8, ruP u_108 kd jf]) G X (wsel [0, 1, 2, 3, 6, 4, 5] rfl rfl) (run_V (As := [.ref u_108, .int (nI jn), .int (nI xz), .int (nI 4294967295)]) (rest := []) (n := 4) G hml hts hl.1 (p_recv G X 0 0 rfl rfl rfl) (k11_meanOf hE jn xz 4294967295 hT (⟨hp28.symm, by decide⟩) hkd hjf (by omega) _) (cwV 4 hts (cg_V ck_658 ck_661 ck_662 ck_663 ck_89) rfl rfl rfl (by decide +kernel) ⟨Nat.le_of_ble_eq_true rfl, Nat.le_of_ble_eq_true rfl⟩) rfl (Nat.le_of_ble_eq_true rfl) dX11_best_115 ⟨by show i1 + 1 + 0 ≤ 6; omega, by show i1 + 1 + 0 ≤ 6; omega⟩) (fun u_115 => wback [0, 1, 2, 3, 6, 4, 5] rfl rfl) (fun H locs u_115 hu_115 X => ?_)
                      replace X := wh_last (qs := [anP Z an wo La.1 x2 x3 x4 x5 x6 x7 x8 x9 hi sb (ρ.2 41), wkP Z (wo, La.1, tm.1, vq) u_115.1 u_115.2.1 u_115.2.2.1 u_115.2.2.2.1 u_115.2.2.2.2.1 u_115.2.2.2.2.2.1 u_115.2.2.2.2.2.2.1 u_115.2.2.2.2.2.2.2.1 u_115.2.2.2.2.2.2.2.2.1 u_115.2.2.2.2.2.2.2.2.2.1, landP Z La τ, thP Z tm u_115.2.2.2.2.2.2.2.2.2.2.1 u_115.2.2.2.2.2.2.2.2.2.2.2, roP Z (sb jd, sc jd) (ρ.2 44 jd) (ρ.2 45 jd) (sel ρ jd), shOn (shNo (shF Z sb sc ρ) jd) 8]) X
                      refine gi_eq (a := (zbeF τ ρ jd jf jn xz) i1) (zbeF_is hek hkd) ?_
                      refine lv_istore (lv' := [(9, .int (nI ((zbeF τ ρ jd jf jn xz) i1))), (0, .ref an.1), (2, .int (nI jf)), (3, .int (nI jn)), (4, .int (nI xz)), (5, .ref (sb jd)), (6, .int (nI (zlp (zbeF τ ρ jd jf jn xz) i1))), (7, .int (nI (zlv (zbeF τ ρ jd jf jn xz) i1))), (8, .int (nI i1))]) hx hb dX11_best_118 hl (by decide) rfl (fun ls hl => ?_)
                      refine lv_iload hx hb dX11_best_120 (lv_at hl 0 rfl) ?_
                      refine lv_iload hx hb dX11_best_122 (lv_at hl 7 rfl) ?_
                      have hvb := zlv_lt hmb i1
                      refine gn_icmp_ge (tgt := 135) hx hb dX11_best_124 (by decide) (hmb i1) (hvb) (fun c_124 => ?_) (fun c_124 => ?_)
                      ·
                        refine lv_iinc (v := nI (i1 + 1)) (lv' := [(8, .int (nI (i1 + 1))), (9, .int (nI ((zbeF τ ρ jd jf jn xz) i1))), (0, .ref an.1), (2, .int (nI jf)), (3, .int (nI jn)), (4, .int (nI xz)), (5, .ref (sb jd)), (6, .int (nI (zlp (zbeF τ ρ jd jf jn xz) i1))), (7, .int (nI (zlv (zbeF τ ρ jd jf jn xz) i1)))]) hx hb dX11_best_135 hl (k := 8) rfl (zn_inc _) (by decide) rfl (fun ls hl => ?_)
                        refine lv_goto (tgt := 87) hx hb dX11_best_138 (by decide) ?_
                        refine W.widen (k := i1 + 1) (n := i1 + 1) (Nat.le_refl (i1 + 1)) (Nat.le_refl (i1 + 1)) ?_
                        refine ih_87 (i1 + 1) u_115.1 u_115.2.1 u_115.2.2.1 u_115.2.2.2.1 u_115.2.2.2.2.1 u_115.2.2.2.2.2.1 u_115.2.2.2.2.2.2.1 u_115.2.2.2.2.2.2.2.1 u_115.2.2.2.2.2.2.2.2.1 u_115.2.2.2.2.2.2.2.2.2.1 u_115.2.2.2.2.2.2.2.2.2.2.1 u_115.2.2.2.2.2.2.2.2.2.2.2 (by omega) (by omega) _ _ _ (by exact X) (by have hn9 := zlp_old (f := (zbeF τ ρ jd jf jn xz)) (c := i1) (hmb i1) c_124; rw [hn9.1, hn9.2]; exact lv_sub hl [2, 3, 4, 5, 6, 7, 8, 0] rfl)
                      ·
                        refine lv_iload hx hb dX11_best_127 (lv_at hl 8 rfl) ?_
                        refine lv_istore (lv' := [(6, .int (nI i1)), (9, .int (nI ((zbeF τ ρ jd jf jn xz) i1))), (0, .ref an.1), (2, .int (nI jf)), (3, .int (nI jn)), (4, .int (nI xz)), (5, .ref (sb jd)), (7, .int (nI (zlv (zbeF τ ρ jd jf jn xz) i1))), (8, .int (nI i1))]) hx hb dX11_best_129 hl (by decide) rfl (fun ls hl => ?_)
                        refine lv_iload hx hb dX11_best_131 (lv_at hl 1 rfl) ?_
                        refine lv_istore (lv' := [(7, .int (nI ((zbeF τ ρ jd jf jn xz) i1))), (6, .int (nI i1)), (9, .int (nI ((zbeF τ ρ jd jf jn xz) i1))), (0, .ref an.1), (2, .int (nI jf)), (3, .int (nI jn)), (4, .int (nI xz)), (5, .ref (sb jd)), (8, .int (nI i1))]) hx hb dX11_best_133 hl (by decide) rfl (fun ls hl => ?_)
                        refine lv_iinc (v := nI (i1 + 1)) (lv' := [(8, .int (nI (i1 + 1))), (7, .int (nI ((zbeF τ ρ jd jf jn xz) i1))), (6, .int (nI i1)), (9, .int (nI ((zbeF τ ρ jd jf jn xz) i1))), (0, .ref an.1), (2, .int (nI jf)), (3, .int (nI jn)), (4, .int (nI xz)), (5, .ref (sb jd))]) hx hb dX11_best_135 hl (k := 8) rfl (zn_inc _) (by decide) rfl (fun ls hl => ?_)
                        refine lv_goto (tgt := 87) hx hb dX11_best_138 (by decide) ?_
                        refine W.widen (k := i1 + 1) (n := i1 + 1) (Nat.le_refl (i1 + 1)) (Nat.le_refl (i1 + 1)) ?_
                        refine ih_87 (i1 + 1) u_115.1 u_115.2.1 u_115.2.2.1 u_115.2.2.2.1 u_115.2.2.2.2.1 u_115.2.2.2.2.2.1 u_115.2.2.2.2.2.2.1 u_115.2.2.2.2.2.2.2.1 u_115.2.2.2.2.2.2.2.2.1 u_115.2.2.2.2.2.2.2.2.2.1 u_115.2.2.2.2.2.2.2.2.2.2.1 u_115.2.2.2.2.2.2.2.2.2.2.2 (by omega) (by omega) _ _ _ (by exact X) (by have hn9 := zlp_new (f := (zbeF τ ρ jd jf jn xz)) (c := i1) c_124; rw [hn9.1, hn9.2]; exact lv_sub hl [4, 5, 6, 7, 8, 2, 1, 0] rfl)
                refine W.widen (k := 0) (n := 0) (Nat.le_of_ble_eq_true rfl) (Nat.le_of_ble_eq_true rfl) ?_
                refine cut_87 _ 0 r0 a4 a5 a6 a7 a8 a9 a10 a11 vv FM KM (Nat.zero_le _) (Nat.lt_succ_self _) _ _ _ (by exact X) (by rw [zlp_0, zlv_0]; exact lv_sub hl [4, 6, 7, 8, 3, 2, 1, 0] rfl)
              ·
                replace X := sh_in (qs := [anP Z an wo La.1 x2 x3 x4 x5 x6 x7 x8 x9 hi sb (ρ.2 41), wkP Z (wo, La.1, tm.1, vq) r0 a4 a5 a6 a7 a8 a9 a10 a11 vv, landP Z La τ, thP Z tm FM KM]) hjd (shF_2 (show ρ.2 41 jd = 2 from q_25)) X
                refine lv_bipush (v := (-3)) hx hb dX11_best_73 (by decide) ?_
                refine W.widen (k := 6) (n := 6) (Nat.le_of_ble_eq_true rfl) (Nat.le_of_ble_eq_true rfl) ?_
                exact cfin_I ((r0, a4, a5, a6, a7, a8, a9, a10, a11, vv, FM, KM)) (trivial) (rfl) (by rw [zbestC_v (ρ := ρ) (z := xz) hjd hjf hjn q_25, if_neg (show ¬ ρ.2 44 jd ≠ 0 by omega), if_neg (fun q => q c_57), if_pos c_70]) X dX11_best_75 fin
            ·
              replace X := sh_in (qs := [anP Z an wo La.1 x2 x3 x4 x5 x6 x7 x8 x9 hi sb (ρ.2 41), wkP Z (wo, La.1, tm.1, vq) r0 a4 a5 a6 a7 a8 a9 a10 a11 vv, landP Z La τ, thP Z tm FM KM]) hjd (shF_2 (show ρ.2 41 jd = 2 from q_25)) X
              refine lv_bipush (v := (-13)) hx hb dX11_best_60 (by decide) ?_
              refine W.widen (k := 6) (n := 6) (Nat.le_of_ble_eq_true rfl) (Nat.le_of_ble_eq_true rfl) ?_
              exact cfin_I ((r0, a4, a5, a6, a7, a8, a9, a10, a11, vv, FM, KM)) (trivial) (rfl) (by rw [zbestC_v (ρ := ρ) (z := xz) hjd hjf hjn q_25, if_neg (show ¬ ρ.2 44 jd ≠ 0 by omega), if_pos c_57]) X dX11_best_62 fin
          ·
            replace X := sh_in (qs := [anP Z an wo La.1 x2 x3 x4 x5 x6 x7 x8 x9 hi sb (ρ.2 41), wkP Z (wo, La.1, tm.1, vq) r0 a4 a5 a6 a7 a8 a9 a10 a11 vv, landP Z La τ, thP Z tm FM KM]) hjd (shF_2 (show ρ.2 41 jd = 2 from q_25)) X
            refine lv_bipush (v := (-12)) hx hb dX11_best_49 (by decide) ?_
            refine W.widen (k := 6) (n := 6) (Nat.le_of_ble_eq_true rfl) (Nat.le_of_ble_eq_true rfl) ?_
            exact cfin_I ((r0, a4, a5, a6, a7, a8, a9, a10, a11, vv, FM, KM)) (trivial) (rfl) (by rw [zbestC_v (ρ := ρ) (z := xz) hjd hjf hjn q_25, if_pos (show ρ.2 44 jd ≠ 0 by omega)]) X dX11_best_51 fin
        · refine gq_n (by rw [shQ_j (by omega)]; exact shR_n q_25) ?_
          refine lv_astoreN (lv' := [(5, .null), (0, .ref an.1), (1, .int (nI jd)), (2, .int (nI jf)), (3, .int (nI jn)), (4, .int (nI xz))]) hx hb dX11_best_28 hl (by decide) rfl (fun ls hl => ?_)
          refine lv_aloadN hx hb dX11_best_30 (lv_at hl 0 rfl) ?_
          refine lv_ifnonnullN hx hb dX11_best_32 ?_
          refine lv_aload_n hx hb dX11_best_35 rfl (lv_at hl 1 rfl) ?_
          refine lv_iload_n hx hb dX11_best_36 rfl (lv_at hl 2 rfl) ?_
          refine dtI_go (w := wcat [anP Z an wo La.1 x2 x3 x4 x5 x6 x7 x8 x9 hi sb (ρ.2 41)]) (wf := wcat [wkP Z (wo, La.1, tm.1, vq) r0 a4 a5 a6 a7 a8 a9 a10 a11 vv, landP Z La τ, thP Z tm FM KM, shOn (shF Z sb sc ρ) 8]) (W1 := fun _ => wcat [anP Z an wo La.1 x2 x3 x4 x5 x6 x7 x8 x9 hi sb (ρ.2 41), wkP Z (wo, La.1, tm.1, vq) r0 a4 a5 a6 a7 a8 a9 a10 a11 vv, landP Z La τ, thP Z tm FM KM, shOn (shF Z sb sc ρ) 8]) G X (wsel [0, 1, 2, 3, 4] rfl rfl) (run_V (As := [.int (nI jd)]) (rest := []) (n := 1) G hml hts hl.1 (p_recv G X 0 0 rfl rfl rfl) (k11_lackOn hE (nI jd) _) (cwV 1 hts (cg_V ck_537 ck_542 ck_543 ck_544 ck_89) rfl rfl rfl (by decide +kernel) ⟨Nat.le_of_ble_eq_true rfl, Nat.le_of_ble_eq_true rfl⟩) rfl (Nat.le_of_ble_eq_true rfl) dX11_best_37 ⟨Nat.le_of_ble_eq_true rfl, Nat.le_of_ble_eq_true rfl⟩) (fun _ => wback [0, 1, 2, 3, 4] rfl rfl) (fun H locs _ _ X => ?_)
          refine W.widen (k := 6) (n := 6) (Nat.le_of_ble_eq_true rfl) (Nat.le_of_ble_eq_true rfl) ?_
          exact cfin_I ((r0, a4, a5, a6, a7, a8, a9, a10, a11, vv, FM, KM)) (trivial) (rfl) (zbestC_l hzs hjd hjf hjn (fun q => q_25 q)) X dX11_best_40 fin
      ·
        refine lv_iconst (v := nI 4294967295) hx hb dX11_best_21 (by decide) ?_
        refine W.widen (k := 6) (n := 6) (Nat.le_of_ble_eq_true rfl) (Nat.le_of_ble_eq_true rfl) ?_
        exact cfin_I ((r0, a4, a5, a6, a7, a8, a9, a10, a11, vv, FM, KM)) (trivial) (rfl) (by rw [nI_m1]; first | exact zbestC_n (fun q => c_4 q.1) | exact zbestC_n (fun q => c_11 q.2.1) | exact zbestC_n (fun q => c_18 q.2.2)) X dX11_best_22 fin
