set_option maxHeartbeats 4000000 in
set_option maxRecDepth 100000 in
theorem k11_think {E : (Nat → Prop) → State → Heap → Prop} (hE : cEok E) {l : Launch} {D : va_G} {Z : Nat → ClassId} {an : Nat × Nat × Nat} {x0 x2 x3 x5 x6 x7 x8 x9 hi : Nat} {sb sh : Nat → Nat} {La : LA} {τ : MS} {ta : Nat × Nat × Nat} {F K : Nat → Nat} (xw : Int32) (xk : Int32) (hok : mOk τ) (hF : ∀ w, w < 5 → F w ≤ 100000000000) : dtL E l D Z yX11_think (Cond.code yX11_think cX11_think 9 (some .long) :: cW) { frames := 2, cells := 0, slots := 0, locals := 42 } [.ref an.1, .int xw, .int xk] (wcat [anP Z an x0 La.1 x2 x3 ta.1 x5 x6 x7 x8 x9 hi sb sh, landP Z La τ, thP Z ta F K]) (S := Unit) (fun _ => wcat [anP Z an x0 La.1 x2 x3 ta.1 x5 x6 x7 x8 x9 hi sb sh, landP Z La τ, thP Z ta F K]) (fun _ => zthkC τ F xw xk) (fun _ => True) := by
  refine dtL_of hE (cc := cX11_think) (maxL := 9) (by decide +kernel) (fun w h => List.mem_cons_of_mem _ h) (Nat.le_of_ble_eq_true rfl) ?_
  intro p e s m args below meth c A Q ls hx hb hml hown hts G X hl fin
  replace hl : lv_has ls 9 [(0, .ref an.1), (1, .int xw), (2, .int xk)] := hl
  obtain ⟨k0, k4, k8, kr, kw, ks, kmet, kmt, k12, k13⟩ := id hok
  refine lv_aload_n hx hb dX11_think_0 rfl (lv_at hl 0 rfl) ?_
  refine cg_11 G X 0 0 rfl rfl 1 (by decide) (G.2.2.2.1 _ ck_500) rfl rfl dX11_think_1 ?_
  refine lv_iload_n hx hb dX11_think_4 rfl (lv_at hl 1 rfl) ?_
  refine dtI_go (w := wcat [landP Z La τ]) (wf := wcat [anP Z an x0 La.1 x2 x3 ta.1 x5 x6 x7 x8 x9 hi sb sh, thP Z ta F K]) (W1 := fun _ => wcat [anP Z an x0 La.1 x2 x3 ta.1 x5 x6 x7 x8 x9 hi sb sh, landP Z La τ, thP Z ta F K]) G X (wsel [1, 0, 2] rfl rfl) (run_V (As := [.int xw]) (rest := []) (n := 1) G hml hts hl.1 (p_recv G X 1 0 rfl rfl rfl) (k2_hasWorld hE xw hok _) (cwV 1 hts (cg_V ck_72 ck_565 ck_297 ck_298 ck_79) rfl rfl rfl (by decide +kernel) ⟨Nat.le_of_ble_eq_true rfl, Nat.le_of_ble_eq_true rfl⟩) rfl (Nat.le_of_ble_eq_true rfl) dX11_think_5 ⟨Nat.le_refl _, Nat.le_refl _⟩) (fun _ => wback [1, 0, 2] rfl rfl) (fun H locs _ _ X => ?_)
  refine gb_if_eq (tgt := 20) hx hb dX11_think_8 (by decide) (fun c_8 => ?_) (fun c_8 => ?_)
  ·
    refine lv_ldc2 (v := (-4000000000000000001)) hx hb G.2.2.1 (G.2.2.2.1 _ ck_604) dX11_think_20 ?_
    exact cfin_L (()) (trivial) (rfl) (by unfold zthkC; first | rw [if_pos (fun q => c_8 q.1)] | rw [if_pos (fun q => zir_f1 c_12 q.2)] | rw [if_pos (fun q => zir_f3 (n := 1) (by decide) c_17 q.2)]) X dX11_think_23 fin
  ·
    obtain ⟨jw, hjw, rfl⟩ := zir_of (by omega) c_8
    refine lv_iload_n hx hb dX11_think_11 rfl (lv_at hl 2 rfl) ?_
    refine lv_if_lt (tgt := 20) hx hb dX11_think_12 (by decide) (fun c_12 => ?_) (fun c_12 => ?_)
    ·
      refine lv_ldc2 (v := (-4000000000000000001)) hx hb G.2.2.1 (G.2.2.2.1 _ ck_604) dX11_think_20 ?_
      exact cfin_L (()) (trivial) (rfl) (by unfold zthkC; first | rw [if_pos (fun q => c_8 q.1)] | rw [if_pos (fun q => zir_f1 c_12 q.2)] | rw [if_pos (fun q => zir_f3 (n := 1) (by decide) c_17 q.2)]) X dX11_think_23 fin
    ·
      refine lv_iload_n hx hb dX11_think_15 rfl (lv_at hl 2 rfl) ?_
      refine lv_iconst (v := nI 1) hx hb dX11_think_16 (by decide) ?_
      refine lv_icmp_le (tgt := 24) hx hb dX11_think_17 (by decide) (fun c_17 => ?_) (fun c_17 => ?_)
      ·
        have hzk := zir_t'' (n := 1) (by decide) c_12 c_17
        refine lv_aload_n hx hb dX11_think_24 rfl (lv_at hl 0 rfl) ?_
        refine cg_11 G X 0 0 rfl rfl 1 (by decide) (G.2.2.2.1 _ ck_500) rfl rfl dX11_think_25 ?_
        refine dtI_go (w := wcat [landP Z La τ]) (wf := wcat [anP Z an x0 La.1 x2 x3 ta.1 x5 x6 x7 x8 x9 hi sb sh, thP Z ta F K]) (W1 := fun _ => wcat [anP Z an x0 La.1 x2 x3 ta.1 x5 x6 x7 x8 x9 hi sb sh, landP Z La τ, thP Z ta F K]) G X (wsel [1, 0, 2] rfl rfl) (run_V (As := []) (rest := []) (n := 0) G hml hts hl.1 (p_recv G X 1 0 rfl rfl rfl) (k2_isReady hE hok _) (cwV 0 hts (cg_V ck_75 ck_586 ck_587 ck_588 ck_79) rfl rfl rfl (by decide +kernel) ⟨Nat.le_of_ble_eq_true rfl, Nat.le_of_ble_eq_true rfl⟩) rfl (Nat.le_of_ble_eq_true rfl) dX11_think_28 ⟨Nat.le_refl _, Nat.le_refl _⟩) (fun _ => wback [1, 0, 2] rfl rfl) (fun H locs _ _ X => ?_)
        refine gb_if_ne (tgt := 38) hx hb dX11_think_31 (by decide) (fun c_31 => ?_) (fun c_31 => ?_)
        ·
          refine lv_aload_n hx hb dX11_think_38 rfl (lv_at hl 0 rfl) ?_
          refine cg_11 G X 0 0 rfl rfl 4 (by decide) (G.2.2.2.1 _ ck_505) rfl rfl dX11_think_39 ?_
          refine cg_8 G X 2 0 rfl rfl 0 (by decide) (G.2.2.2.1 _ ck_606) rfl rfl dX11_think_42 ?_
          refine lv_iload_n hx hb dX11_think_45 rfl (lv_at hl 1 rfl) ?_
          refine cr_lald G X 2 1 rfl rfl (by omega) (by decide) dX11_think_46 ?_
          refine gl_eq (a := (F jw)) (zcl_in (by omega)) ?_
          refine lv_lstore_n (lv' := [(3, .long (lN (F jw))), (0, .ref an.1), (1, .int (nI jw)), (2, .int xk)]) hx hb dX11_think_47 rfl hl (by decide) rfl (fun ls hl => ?_)
          have q1 := hF jw (by omega)
          have q2 := zsum_le (f := F) (b := 100000000000) 5 hF
          have q3 : Nat.gcd (F jw) (zsum F 5) < 9223372036854775808 := by rcases Nat.eq_zero_or_pos (F jw) with h9 | h9; rw [h9, Nat.gcd_zero_left]; omega; exact Nat.lt_of_le_of_lt (Nat.le_of_dvd h9 (Nat.gcd_dvd_left _ _)) (by omega)
          refine lv_aload_n hx hb dX11_think_48 rfl (lv_at hl 1 rfl) ?_
          refine cg_11 G X 0 0 rfl rfl 4 (by decide) (G.2.2.2.1 _ ck_505) rfl rfl dX11_think_49 ?_
          refine dtL_go (w := wcat [thP Z ta F K]) (wf := wcat [anP Z an x0 La.1 x2 x3 ta.1 x5 x6 x7 x8 x9 hi sb sh, landP Z La τ]) (W1 := fun _ => wcat [anP Z an x0 La.1 x2 x3 ta.1 x5 x6 x7 x8 x9 hi sb sh, landP Z La τ, thP Z ta F K]) G X (wsel [2, 0, 1] rfl rfl) (run_V (As := []) (rest := []) (n := 0) G hml hts hl.1 (p_recv G X 2 0 rfl rfl rfl) (k8_all hE  _) (cwV 0 hts (cg_V ck_28 ck_607 ck_37 ck_38 ck_35) rfl rfl rfl (by decide +kernel) ⟨Nat.le_of_ble_eq_true rfl, Nat.le_of_ble_eq_true rfl⟩) rfl (Nat.le_of_ble_eq_true rfl) dX11_think_52 ⟨Nat.le_refl _, Nat.le_refl _⟩) (fun _ => wback [2, 0, 1] rfl rfl) (fun H locs _ _ X => ?_)
          refine lv_lstore (lv' := [(5, .long (lN (zsum F 5))), (3, .long (lN (F jw))), (0, .ref an.1), (1, .int (nI jw)), (2, .int xk)]) hx hb dX11_think_55 hl (by decide) rfl (fun ls hl => ?_)
          refine lv_lload_n hx hb dX11_think_57 rfl (lv_at hl 1 rfl) ?_
          refine lv_lload hx hb dX11_think_58 (lv_at hl 0 rfl) ?_
          refine dtL_go (w := wcat []) (wf := wcat [anP Z an x0 La.1 x2 x3 ta.1 x5 x6 x7 x8 x9 hi sb sh, landP Z La τ, thP Z ta F K]) (W1 := fun _ => wcat [anP Z an x0 La.1 x2 x3 ta.1 x5 x6 x7 x8 x9 hi sb sh, landP Z La τ, thP Z ta F K]) G X (wsel [0, 1, 2] rfl rfl) (run_S (As := [.long (lN (F jw)), .long (lN (zsum F 5))]) (rest := []) (n := 2) G hml hts hl.1 (k8_greatestDivisor hE (F jw) (zsum F 5) (by omega) (by omega) _) (va_cwS 2 hts (cg_S ck_314 ck_608 ck_324 ck_35) rfl rfl rfl (by decide +kernel) ⟨Nat.le_of_ble_eq_true rfl, Nat.le_of_ble_eq_true rfl⟩) rfl (Nat.le_of_ble_eq_true rfl) dX11_think_60 ⟨Nat.le_refl _, Nat.le_refl _⟩) (fun _ => wback [0, 1, 2] rfl rfl) (fun H locs _ _ X => ?_)
          refine lv_lstore (lv' := [(7, .long (lN (Nat.gcd (F jw) (zsum F 5)))), (5, .long (lN (zsum F 5))), (3, .long (lN (F jw))), (0, .ref an.1), (1, .int (nI jw)), (2, .int xk)]) hx hb dX11_think_63 hl (by decide) rfl (fun ls hl => ?_)
          refine lv_lload hx hb dX11_think_65 (lv_at hl 0 rfl) ?_
          refine lv_lconst (v := lN 0) hx hb dX11_think_67 (by decide) ?_
          refine gn_lc_gt (tgt := 76) hx hb dX11_think_68 dX11_think_69 (by decide) (by omega) (by omega) (fun c_68 => ?_) (fun c_68 => ?_)
          ·
            refine lv_iload_n hx hb dX11_think_76 rfl (lv_at hl 5 rfl) ?_
            refine lv_if_ne (tgt := 84) hx hb dX11_think_77 (by decide) (fun c_77 => ?_) (fun c_77 => ?_)
            ·
              refine lv_lload hx hb dX11_think_84 (lv_at hl 1 rfl) ?_
              refine lv_lload hx hb dX11_think_86 (lv_at hl 0 rfl) ?_
              refine gn_ldiv hx hb dX11_think_88 (by omega) (by omega) (by omega) ?_
              exact cfin_L (()) (trivial) (rfl) (by rw [zthkC_v hjw (by omega) hzk, if_neg (fun q => q.elim (fun q => q c_31) (fun q => by omega))]; first | rw [if_pos (show xk = 0 from c_77)] | rw [if_neg (show ¬ xk = 0 from c_77)]) X dX11_think_89 fin
            ·
              refine lv_lload_n hx hb dX11_think_80 rfl (lv_at hl 2 rfl) ?_
              refine lv_goto (tgt := 86) hx hb dX11_think_81 (by decide) ?_
              refine lv_lload hx hb dX11_think_86 (lv_at hl 0 rfl) ?_
              refine gn_ldiv hx hb dX11_think_88 (by omega) (by omega) (by omega) ?_
              exact cfin_L (()) (trivial) (rfl) (by rw [zthkC_v hjw (by omega) hzk, if_neg (fun q => q.elim (fun q => q c_31) (fun q => by omega))]; first | rw [if_pos (show xk = 0 from c_77)] | rw [if_neg (show ¬ xk = 0 from c_77)]) X dX11_think_89 fin
          ·
            refine lv_ldc2 (v := (-4000000000000000003)) hx hb G.2.2.1 (G.2.2.2.1 _ ck_605) dX11_think_72 ?_
            exact cfin_L (()) (trivial) (rfl) (by rw [zthkC_v hjw (by omega) hzk, if_pos (Or.inr (by omega))]) X dX11_think_75 fin
        ·
          refine lv_ldc2 (v := (-4000000000000000003)) hx hb G.2.2.1 (G.2.2.2.1 _ ck_605) dX11_think_34 ?_
          exact cfin_L (()) (trivial) (rfl) (by rw [zthkC_v hjw (by omega) hzk, if_pos (Or.inl c_31)]) X dX11_think_37 fin
      ·
        refine lv_ldc2 (v := (-4000000000000000001)) hx hb G.2.2.1 (G.2.2.2.1 _ ck_604) dX11_think_20 ?_
        exact cfin_L (()) (trivial) (rfl) (by unfold zthkC; first | rw [if_pos (fun q => c_8 q.1)] | rw [if_pos (fun q => zir_f1 c_12 q.2)] | rw [if_pos (fun q => zir_f3 (n := 1) (by decide) c_17 q.2)]) X dX11_think_23 fin
set_option maxHeartbeats 4000000 in
set_option maxRecDepth 100000 in
theorem k11_walk {E : (Nat → Prop) → State → Heap → Prop} (hE : cEok E) {l : Launch} {D : va_G} {Z : Nat → ClassId} {an : Nat × Nat × Nat} {x2 x3 x5 x6 x7 x9 hi : Nat} {sb sh : Nat → Nat} {wo vq r0 a4 a5 a6 a7 a8 a9 a10 a11 : Nat} {La : LA} {τ : MS} {tm : Nat × Nat × Nat} {FM KM vv : Nat → Nat} {ta : Nat × Nat × Nat} {F K : Nat → Nat} {rp : Nat} (xw : Int32) (xc : Int32) (hT : tOk τ) (hp28 : τ.1 28 = 4294967295) (hMF : zM (τ.1 4) F) : dtI E l D Z yX11_walk (Cond.code yX11_walk cX11_walk 3 (some .int) :: cW) { frames := 4, cells := 0, slots := 0, locals := 108 } [.ref an.1, .int xw, .int xc] (wcat [anP Z an wo La.1 x2 x3 ta.1 x5 x6 x7 rp x9 hi sb sh, wkP Z (wo, La.1, tm.1, vq) r0 a4 a5 a6 a7 a8 a9 a10 a11 vv, landP Z La τ, thP Z tm FM KM, thP Z ta F K, ruP rp 0 0]) (S := (Nat × Nat × Nat × Nat × Nat × Nat × Nat × Nat × Nat × (Nat → Nat) × (Nat → Nat) × (Nat → Nat))) (fun u => wcat [anP Z an wo La.1 x2 x3 ta.1 x5 x6 x7 rp x9 hi sb sh, wkP Z (wo, La.1, tm.1, vq) u.1 u.2.1 u.2.2.1 u.2.2.2.1 u.2.2.2.2.1 u.2.2.2.2.2.1 u.2.2.2.2.2.2.1 u.2.2.2.2.2.2.2.1 u.2.2.2.2.2.2.2.2.1 u.2.2.2.2.2.2.2.2.2.1, landP Z La τ, thP Z tm u.2.2.2.2.2.2.2.2.2.2.1 u.2.2.2.2.2.2.2.2.2.2.2, thP Z ta F K, ruP rp 0 0]) (fun u => zwalkC τ F xw xc) (fun _ => True) := by
  refine dtI_of hE (cc := cX11_walk) (maxL := 3) (by decide +kernel) (fun w h => List.mem_cons_of_mem _ h) (Nat.le_of_ble_eq_true rfl) ?_
  intro p e s m args below meth c A Q ls hx hb hml hown hts G X hl fin
  replace hl : lv_has ls 3 [(0, .ref an.1), (1, .int xw), (2, .int xc)] := hl
  obtain ⟨hok, hpl, hod, hrows, hnx, hsh6, hgl8⟩ := id hT
  obtain ⟨k0, k4, k8, kr, kw, ks, kmet, kmt, k12, k13⟩ := id hok
  refine lv_aload_n hx hb dX11_walk_0 rfl (lv_at hl 0 rfl) ?_
  refine cg_11 G X 0 0 rfl rfl 1 (by decide) (G.2.2.2.1 _ ck_500) rfl rfl dX11_walk_1 ?_
  refine lv_iload_n hx hb dX11_walk_4 rfl (lv_at hl 1 rfl) ?_
  refine dtI_go (w := wcat [landP Z La τ]) (wf := wcat [anP Z an wo La.1 x2 x3 ta.1 x5 x6 x7 rp x9 hi sb sh, wkP Z (wo, La.1, tm.1, vq) r0 a4 a5 a6 a7 a8 a9 a10 a11 vv, thP Z tm FM KM, thP Z ta F K, ruP rp 0 0]) (W1 := fun _ => wcat [anP Z an wo La.1 x2 x3 ta.1 x5 x6 x7 rp x9 hi sb sh, wkP Z (wo, La.1, tm.1, vq) r0 a4 a5 a6 a7 a8 a9 a10 a11 vv, landP Z La τ, thP Z tm FM KM, thP Z ta F K, ruP rp 0 0]) G X (wsel [2, 0, 1, 3, 4, 5] rfl rfl) (run_V (As := [.int xw]) (rest := []) (n := 1) G hml hts hl.1 (p_recv G X 2 0 rfl rfl rfl) (k2_hasWorld hE xw hok _) (cwV 1 hts (cg_V ck_72 ck_565 ck_297 ck_298 ck_79) rfl rfl rfl (by decide +kernel) ⟨Nat.le_of_ble_eq_true rfl, Nat.le_of_ble_eq_true rfl⟩) rfl (Nat.le_of_ble_eq_true rfl) dX11_walk_5 ⟨Nat.le_refl _, Nat.le_refl _⟩) (fun _ => wback [2, 0, 1, 3, 4, 5] rfl rfl) (fun H locs _ _ X => ?_)
  refine gb_if_eq (tgt := 18) hx hb dX11_walk_8 (by decide) (fun c_8 => ?_) (fun c_8 => ?_)
  ·
    refine lv_iconst (v := (-1)) hx hb dX11_walk_18 (by decide) ?_
    exact cfin_I ((r0, a4, a5, a6, a7, a8, a9, a10, a11, vv, FM, KM)) (trivial) (rfl) (by unfold zwalkC; first | exact (if_pos (fun q => c_8 q.1)).symm | exact (if_pos (fun q => c_15 q.2)).symm) X dX11_walk_19 fin
  ·
    obtain ⟨jw, hjw, rfl⟩ := zir_of (by omega) c_8
    refine lv_iload_n hx hb dX11_walk_11 rfl (lv_at hl 2 rfl) ?_
    refine dtI_go (w := wcat []) (wf := wcat [anP Z an wo La.1 x2 x3 ta.1 x5 x6 x7 rp x9 hi sb sh, wkP Z (wo, La.1, tm.1, vq) r0 a4 a5 a6 a7 a8 a9 a10 a11 vv, landP Z La τ, thP Z tm FM KM, thP Z ta F K, ruP rp 0 0]) (W1 := fun _ => wcat [anP Z an wo La.1 x2 x3 ta.1 x5 x6 x7 rp x9 hi sb sh, wkP Z (wo, La.1, tm.1, vq) r0 a4 a5 a6 a7 a8 a9 a10 a11 vv, landP Z La τ, thP Z tm FM KM, thP Z ta F K, ruP rp 0 0]) G X (wsel [0, 1, 2, 3, 4, 5] rfl rfl) (run_S (As := [.int xc]) (rest := []) (n := 1) G hml hts hl.1 (k11_isCrossing hE xc _) (va_cwS 1 hts (cg_S ck_86 ck_568 ck_88 ck_89) rfl rfl rfl (by decide +kernel) ⟨Nat.le_of_ble_eq_true rfl, Nat.le_of_ble_eq_true rfl⟩) rfl (Nat.le_of_ble_eq_true rfl) dX11_walk_12 ⟨Nat.le_refl _, Nat.le_refl _⟩) (fun _ => wback [0, 1, 2, 3, 4, 5] rfl rfl) (fun H locs _ _ X => ?_)
    refine gb_if_ne (tgt := 20) hx hb dX11_walk_15 (by decide) (fun c_15 => ?_) (fun c_15 => ?_)
    ·
      obtain ⟨jc, hjc, rfl⟩ := zir_of (by decide) c_15
      refine lv_aload_n hx hb dX11_walk_20 rfl (lv_at hl 0 rfl) ?_
      refine cg_11 G X 0 0 rfl rfl 1 (by decide) (G.2.2.2.1 _ ck_500) rfl rfl dX11_walk_21 ?_
      refine dtI_go (w := wcat [landP Z La τ]) (wf := wcat [anP Z an wo La.1 x2 x3 ta.1 x5 x6 x7 rp x9 hi sb sh, wkP Z (wo, La.1, tm.1, vq) r0 a4 a5 a6 a7 a8 a9 a10 a11 vv, thP Z tm FM KM, thP Z ta F K, ruP rp 0 0]) (W1 := fun _ => wcat [anP Z an wo La.1 x2 x3 ta.1 x5 x6 x7 rp x9 hi sb sh, wkP Z (wo, La.1, tm.1, vq) r0 a4 a5 a6 a7 a8 a9 a10 a11 vv, landP Z La τ, thP Z tm FM KM, thP Z ta F K, ruP rp 0 0]) G X (wsel [2, 0, 1, 3, 4, 5] rfl rfl) (run_V (As := []) (rest := []) (n := 0) G hml hts hl.1 (p_recv G X 2 0 rfl rfl rfl) (k2_isReady hE hok _) (cwV 0 hts (cg_V ck_75 ck_586 ck_587 ck_588 ck_79) rfl rfl rfl (by decide +kernel) ⟨Nat.le_of_ble_eq_true rfl, Nat.le_of_ble_eq_true rfl⟩) rfl (Nat.le_of_ble_eq_true rfl) dX11_walk_24 ⟨Nat.le_refl _, Nat.le_refl _⟩) (fun _ => wback [2, 0, 1, 3, 4, 5] rfl rfl) (fun H locs _ _ X => ?_)
      refine gb_if_ne (tgt := 33) hx hb dX11_walk_27 (by decide) (fun c_27 => ?_) (fun c_27 => ?_)
      ·
        refine lv_aload_n hx hb dX11_walk_33 rfl (lv_at hl 0 rfl) ?_
        refine cg_11 G X 0 0 rfl rfl 0 (by decide) (G.2.2.2.1 _ ck_498) rfl rfl dX11_walk_34 ?_
        refine lv_aload_n hx hb dX11_walk_37 rfl (lv_at hl 0 rfl) ?_
        refine cg_11 G X 0 0 rfl rfl 8 (by decide) (G.2.2.2.1 _ ck_512) rfl rfl dX11_walk_38 ?_
        refine lv_aload_n hx hb dX11_walk_41 rfl (lv_at hl 0 rfl) ?_
        refine cg_11 G X 0 0 rfl rfl 4 (by decide) (G.2.2.2.1 _ ck_505) rfl rfl dX11_walk_42 ?_
        refine lv_iload_n hx hb dX11_walk_45 rfl (lv_at hl 1 rfl) ?_
        refine lv_iload_n hx hb dX11_walk_46 rfl (lv_at hl 2 rfl) ?_
        refine dtV_go (w := wcat [wkP Z (wo, La.1, tm.1, vq) r0 a4 a5 a6 a7 a8 a9 a10 a11 vv, landP Z La τ, thP Z tm FM KM, ruP rp 0 0, thP Z ta F K]) (wf := wcat [anP Z an wo La.1 x2 x3 ta.1 x5 x6 x7 rp x9 hi sb sh]) (W1 := fun _ => wcat [anP Z an wo La.1 x2 x3 ta.1 x5 x6 x7 rp x9 hi sb sh, wkP Z (wo, La.1, tm.1, vq) rp jw a5 4294967295 jc 0 0 0 0 vv, landP Z La τ, thP Z tm F KM, thP Z ta F K, ruP rp 0 0]) G X (wsel [1, 2, 3, 5, 4, 0] rfl rfl) (run_V (As := [.ref rp, .ref ta.1, .int (nI jw), .int (nI jc)]) (rest := []) (n := 4) G hml hts hl.1 (p_recv G X 1 0 rfl rfl rfl) (k10_setOutByMind hE jw jc _) (cwV 4 hts (cg_V ck_361 ck_624 ck_625 ck_626 ck_365) rfl rfl rfl (by decide +kernel) ⟨Nat.le_of_ble_eq_true rfl, Nat.le_of_ble_eq_true rfl⟩) rfl (Nat.le_of_ble_eq_true rfl) dX11_walk_47 ⟨Nat.le_refl _, Nat.le_refl _⟩) (fun _ => wback [1, 2, 3, 5, 4, 0] rfl rfl) (fun H locs _ _ X => ?_)
        refine lv_aload_n hx hb dX11_walk_50 rfl (lv_at hl 0 rfl) ?_
        refine cg_11 G X 0 0 rfl rfl 0 (by decide) (G.2.2.2.1 _ ck_498) rfl rfl dX11_walk_51 ?_
        refine dtI_go (w := wcat [wkP Z (wo, La.1, tm.1, vq) rp jw a5 4294967295 jc 0 0 0 0 vv, landP Z La τ, thP Z tm F KM, ruP rp 0 0]) (wf := wcat [anP Z an wo La.1 x2 x3 ta.1 x5 x6 x7 rp x9 hi sb sh, thP Z ta F K]) (W1 := fun u_54 => wcat [anP Z an wo La.1 x2 x3 ta.1 x5 x6 x7 rp x9 hi sb sh, wkP Z (wo, La.1, tm.1, vq) rp jw u_54.2.2.1 4294967295 u_54.2.2.2.1 u_54.2.2.2.2.1 u_54.2.2.2.2.2.1 u_54.2.2.2.2.2.2.1 u_54.2.2.2.2.2.2.2 vv, landP Z La τ, thP Z tm u_54.1 u_54.2.1, thP Z ta F K, ruP rp 0 0]) G X (wsel [1, 2, 3, 5, 0, 4] rfl rfl) (run_V (As := []) (rest := []) (n := 0) G hml hts hl.1 (p_recv G X 1 0 rfl rfl rfl) (k10_minutesThere hE (yr := 0) (yg := 0) hT (by omega) (by omega) (⟨hp28.symm, by decide⟩) hMF (by decide) (by decide) _) (cwV 0 hts (cg_V ck_494 ck_627 ck_628 ck_629 ck_365) rfl rfl rfl (by decide +kernel) ⟨Nat.le_of_ble_eq_true rfl, Nat.le_of_ble_eq_true rfl⟩) rfl (Nat.le_of_ble_eq_true rfl) dX11_walk_54 ⟨Nat.le_refl _, Nat.le_refl _⟩) (fun u_54 => wback [1, 2, 3, 5, 0, 4] rfl rfl) (fun H locs u_54 hu_54 X => ?_)
        refine gi_eq (a := zmnN (zwalk τ jw jc 4294967295 0 F 0)) (congrArg zmnN zmw_is) ?_
        exact cfin_I ((rp, jw, u_54.2.2.1, 4294967295, u_54.2.2.2.1, u_54.2.2.2.2.1, u_54.2.2.2.2.2.1, u_54.2.2.2.2.2.2.1, u_54.2.2.2.2.2.2.2, vv, u_54.1, u_54.2.1)) (trivial) (rfl) (by rw [zwalkC_v hjw (by omega) hjc, if_neg (fun q => q c_27)]; exact zminutes_is _) X dX11_walk_57 fin
      ·
        refine lv_bipush (v := (-3)) hx hb dX11_walk_30 (by decide) ?_
        exact cfin_I ((r0, a4, a5, a6, a7, a8, a9, a10, a11, vv, FM, KM)) (trivial) (rfl) (by rw [zwalkC_v hjw (by omega) hjc, if_pos c_27]) X dX11_walk_32 fin
    ·
      refine lv_iconst (v := (-1)) hx hb dX11_walk_18 (by decide) ?_
      exact cfin_I ((r0, a4, a5, a6, a7, a8, a9, a10, a11, vv, FM, KM)) (trivial) (rfl) (by unfold zwalkC; first | exact (if_pos (fun q => c_8 q.1)).symm | exact (if_pos (fun q => c_15 q.2)).symm) X dX11_walk_19 fin
