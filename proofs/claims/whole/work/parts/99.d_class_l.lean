set_option maxHeartbeats 4000000 in
set_option maxRecDepth 100000 in
theorem k11_by {E : (Nat → Prop) → State → Heap → Prop} (hE : cEok E) {l : Launch} {D : va_G} {Z : Nat → ClassId} {an : Nat × Nat × Nat} {x2 x3 x4 x5 x6 x7 x8 x9 hi : Nat} {sb sc : Nat → Nat} {ρ : MS} {wo vq r0 a4 a5 a6 a7 a8 a9 a10 a11 : Nat} {La : LA} {τ : MS} {tm : Nat × Nat × Nat} {FM KM vv : Nat → Nat} (xd : Int32) (xw : Int32) (xz : Nat) (xh : Int32) (hT : tOk τ) (hp28 : τ.1 28 = 4294967295) (hzs : zSh ρ) : dtI E l D Z yX11_by (Cond.code yX11_by cX11_by 7 (some .int) :: cW) { frames := 5, cells := 0, slots := 0, locals := 114 } [.ref an.1, .int xd, .int xw, .int (nI xz), .int xh] (wcat [anP Z an wo La.1 x2 x3 x4 x5 x6 x7 x8 x9 hi sb (ρ.2 41), wkP Z (wo, La.1, tm.1, vq) r0 a4 a5 a6 a7 a8 a9 a10 a11 vv, landP Z La τ, thP Z tm FM KM, shOn (shF Z sb sc ρ) 8]) (S := (Nat × Nat × Nat × Nat × Nat × Nat × Nat × Nat × Nat × (Nat → Nat) × (Nat → Nat) × (Nat → Nat))) (fun u => wcat [anP Z an wo La.1 x2 x3 x4 x5 x6 x7 x8 x9 hi sb (ρ.2 41), wkP Z (wo, La.1, tm.1, vq) u.1 u.2.1 u.2.2.1 u.2.2.2.1 u.2.2.2.2.1 u.2.2.2.2.2.1 u.2.2.2.2.2.2.1 u.2.2.2.2.2.2.2.1 u.2.2.2.2.2.2.2.2.1 u.2.2.2.2.2.2.2.2.2.1, landP Z La τ, thP Z tm u.2.2.2.2.2.2.2.2.2.2.1 u.2.2.2.2.2.2.2.2.2.2.2, shOn (shF Z sb sc ρ) 8]) (fun u => zbyC τ ρ xd xw xz xh) (fun _ => True) := by
  refine dtI_of hE (cc := cX11_by) (maxL := 7) (by decide +kernel) (fun w h => List.mem_cons_of_mem _ h) (Nat.le_of_ble_eq_true rfl) ?_
  intro p e s m args below meth c A Q ls hx hb hml hown hts G X hl fin
  replace hl : lv_has ls 7 [(0, .ref an.1), (1, .int xd), (2, .int xw), (3, .int (nI xz)), (4, .int xh)] := hl
  obtain ⟨hok, hpl, hod, hrows, hnx, hsh6, hgl8⟩ := id hT
  obtain ⟨k0, k4, k8, kr, kw, ks, kmet, kmt, k12, k13⟩ := id hok
  refine lv_iload_n hx hb dX11_by_0 rfl (lv_at hl 1 rfl) ?_
  refine dtI_go (w := wcat []) (wf := wcat [anP Z an wo La.1 x2 x3 x4 x5 x6 x7 x8 x9 hi sb (ρ.2 41), wkP Z (wo, La.1, tm.1, vq) r0 a4 a5 a6 a7 a8 a9 a10 a11 vv, landP Z La τ, thP Z tm FM KM, shOn (shF Z sb sc ρ) 8]) (W1 := fun _ => wcat [anP Z an wo La.1 x2 x3 x4 x5 x6 x7 x8 x9 hi sb (ρ.2 41), wkP Z (wo, La.1, tm.1, vq) r0 a4 a5 a6 a7 a8 a9 a10 a11 vv, landP Z La τ, thP Z tm FM KM, shOn (shF Z sb sc ρ) 8]) G X (wsel [0, 1, 2, 3, 4] rfl rfl) (run_S (As := [.int xd]) (rest := []) (n := 1) G hml hts hl.1 (k11_isShelf hE xd _) (va_cwS 1 hts (cg_S ck_525 ck_527 ck_528 ck_89) rfl rfl rfl (by decide +kernel) ⟨Nat.le_of_ble_eq_true rfl, Nat.le_of_ble_eq_true rfl⟩) rfl (Nat.le_of_ble_eq_true rfl) dX11_by_1 ⟨Nat.le_refl _, Nat.le_refl _⟩) (fun _ => wback [0, 1, 2, 3, 4] rfl rfl) (fun H locs _ _ X => ?_)
  refine gb_if_eq (tgt := 29) hx hb dX11_by_4 (by decide) (fun c_4 => ?_) (fun c_4 => ?_)
  ·
    refine lv_iconst (v := nI 4294967295) hx hb dX11_by_29 (by decide) ?_
    exact cfin_I ((r0, a4, a5, a6, a7, a8, a9, a10, a11, vv, FM, KM)) (trivial) (rfl) (by rw [nI_m1]; unfold zbyC; first | exact (if_pos (fun q => c_4 q.1)).symm | exact (if_pos (fun q => c_15 q.2.1)).symm | exact (if_pos (fun q => zir_f1 c_20 q.2.2)).symm | exact (if_pos (fun q => zir_f3 (n := 2) (by decide) c_26 q.2.2)).symm) X dX11_by_30 fin
  ·
    obtain ⟨jd, hjd, rfl⟩ := zir_of (by decide) c_4
    refine lv_aload_n hx hb dX11_by_7 rfl (lv_at hl 0 rfl) ?_
    refine cg_11 G X 0 0 rfl rfl 1 (by decide) (G.2.2.2.1 _ ck_500) rfl rfl dX11_by_8 ?_
    refine lv_iload_n hx hb dX11_by_11 rfl (lv_at hl 2 rfl) ?_
    refine dtI_go (w := wcat [landP Z La τ]) (wf := wcat [anP Z an wo La.1 x2 x3 x4 x5 x6 x7 x8 x9 hi sb (ρ.2 41), wkP Z (wo, La.1, tm.1, vq) r0 a4 a5 a6 a7 a8 a9 a10 a11 vv, thP Z tm FM KM, shOn (shF Z sb sc ρ) 8]) (W1 := fun _ => wcat [anP Z an wo La.1 x2 x3 x4 x5 x6 x7 x8 x9 hi sb (ρ.2 41), wkP Z (wo, La.1, tm.1, vq) r0 a4 a5 a6 a7 a8 a9 a10 a11 vv, landP Z La τ, thP Z tm FM KM, shOn (shF Z sb sc ρ) 8]) G X (wsel [2, 0, 1, 3, 4] rfl rfl) (run_V (As := [.int xw]) (rest := []) (n := 1) G hml hts hl.1 (p_recv G X 2 0 rfl rfl rfl) (k2_hasWorld hE xw hok _) (cwV 1 hts (cg_V ck_72 ck_565 ck_297 ck_298 ck_79) rfl rfl rfl (by decide +kernel) ⟨Nat.le_of_ble_eq_true rfl, Nat.le_of_ble_eq_true rfl⟩) rfl (Nat.le_of_ble_eq_true rfl) dX11_by_12 ⟨Nat.le_refl _, Nat.le_refl _⟩) (fun _ => wback [2, 0, 1, 3, 4] rfl rfl) (fun H locs _ _ X => ?_)
    refine gb_if_eq (tgt := 29) hx hb dX11_by_15 (by decide) (fun c_15 => ?_) (fun c_15 => ?_)
    ·
      refine lv_iconst (v := nI 4294967295) hx hb dX11_by_29 (by decide) ?_
      exact cfin_I ((r0, a4, a5, a6, a7, a8, a9, a10, a11, vv, FM, KM)) (trivial) (rfl) (by rw [nI_m1]; unfold zbyC; first | exact (if_pos (fun q => c_4 q.1)).symm | exact (if_pos (fun q => c_15 q.2.1)).symm | exact (if_pos (fun q => zir_f1 c_20 q.2.2)).symm | exact (if_pos (fun q => zir_f3 (n := 2) (by decide) c_26 q.2.2)).symm) X dX11_by_30 fin
    ·
      obtain ⟨jw, hjw, rfl⟩ := zir_of (by omega) c_15
      refine lv_iload hx hb dX11_by_18 (lv_at hl 4 rfl) ?_
      refine lv_if_lt (tgt := 29) hx hb dX11_by_20 (by decide) (fun c_20 => ?_) (fun c_20 => ?_)
      ·
        refine lv_iconst (v := nI 4294967295) hx hb dX11_by_29 (by decide) ?_
        exact cfin_I ((r0, a4, a5, a6, a7, a8, a9, a10, a11, vv, FM, KM)) (trivial) (rfl) (by rw [nI_m1]; unfold zbyC; first | exact (if_pos (fun q => c_4 q.1)).symm | exact (if_pos (fun q => c_15 q.2.1)).symm | exact (if_pos (fun q => zir_f1 c_20 q.2.2)).symm | exact (if_pos (fun q => zir_f3 (n := 2) (by decide) c_26 q.2.2)).symm) X dX11_by_30 fin
      ·
        refine lv_iload hx hb dX11_by_23 (lv_at hl 4 rfl) ?_
        refine lv_iconst (v := nI 2) hx hb dX11_by_25 (by decide) ?_
        refine lv_icmp_le (tgt := 31) hx hb dX11_by_26 (by decide) (fun c_26 => ?_) (fun c_26 => ?_)
        ·
          have hz3 := zir_t'' (n := 2) (by decide) c_20 c_26
          refine lv_aload_n hx hb dX11_by_31 rfl (lv_at hl 0 rfl) ?_
          refine lv_iload_n hx hb dX11_by_32 rfl (lv_at hl 1 rfl) ?_
          refine dtQ_go (w := wcat [anP Z an wo La.1 x2 x3 x4 x5 x6 x7 x8 x9 hi sb (ρ.2 41)]) (wf := wcat [wkP Z (wo, La.1, tm.1, vq) r0 a4 a5 a6 a7 a8 a9 a10 a11 vv, landP Z La τ, thP Z tm FM KM, shOn (shF Z sb sc ρ) 8]) (W1 := fun _ => wcat [anP Z an wo La.1 x2 x3 x4 x5 x6 x7 x8 x9 hi sb (ρ.2 41), wkP Z (wo, La.1, tm.1, vq) r0 a4 a5 a6 a7 a8 a9 a10 a11 vv, landP Z La τ, thP Z tm FM KM, shOn (shF Z sb sc ρ) 8]) G X (wsel [0, 1, 2, 3, 4] rfl rfl) (run_V (As := [.int (nI jd)]) (rest := []) (n := 1) G hml hts hl.1 (p_recv G X 0 0 rfl rfl rfl) (k11_ruleOn hE (nI jd) _) (cwV 1 hts (cg_V ck_529 ck_531 ck_532 ck_533 ck_89) rfl rfl rfl (by decide +kernel) ⟨Nat.le_of_ble_eq_true rfl, Nat.le_of_ble_eq_true rfl⟩) rfl (Nat.le_of_ble_eq_true rfl) dX11_by_33 ⟨Nat.le_refl _, Nat.le_refl _⟩) (fun _ => wback [0, 1, 2, 3, 4] rfl rfl) (fun H locs _ _ X => ?_)
          by_cases q_33 : (ρ.2 41) jd = 1
          · refine gq_s (shQ_s (by omega) q_33) ?_
            replace X := sh_out (qs := [anP Z an wo La.1 x2 x3 x4 x5 x6 x7 x8 x9 hi sb (ρ.2 41), wkP Z (wo, La.1, tm.1, vq) r0 a4 a5 a6 a7 a8 a9 a10 a11 vv, landP Z La τ, thP Z tm FM KM]) hjd (shF_1 (show ρ.2 41 jd = 1 from q_33)) X
            refine lv_astore (lv' := [(5, .ref (sb jd)), (0, .ref an.1), (1, .int (nI jd)), (2, .int (nI jw)), (3, .int (nI xz)), (4, .int xh)]) hx hb dX11_by_36 hl (by decide) rfl (fun ls hl => ?_)
            refine lv_aload hx hb dX11_by_38 (lv_at hl 0 rfl) ?_
            refine lv_ifnonnull (tgt := 49) hx hb dX11_by_40 (by decide) ?_
            refine lv_aload_n hx hb dX11_by_49 rfl (lv_at hl 1 rfl) ?_
            refine cg_11 G X 0 0 rfl rfl 1 (by decide) (G.2.2.2.1 _ ck_500) rfl rfl dX11_by_50 ?_
            refine dtI_go (w := wcat [landP Z La τ]) (wf := wcat [anP Z an wo La.1 x2 x3 x4 x5 x6 x7 x8 x9 hi sb (ρ.2 41), wkP Z (wo, La.1, tm.1, vq) r0 a4 a5 a6 a7 a8 a9 a10 a11 vv, thP Z tm FM KM, ruP (sb jd) (ρ.2 42 jd) (ρ.2 43 jd), shOn (shNo (shF Z sb sc ρ) jd) 8]) (W1 := fun _ => wcat [anP Z an wo La.1 x2 x3 x4 x5 x6 x7 x8 x9 hi sb (ρ.2 41), wkP Z (wo, La.1, tm.1, vq) r0 a4 a5 a6 a7 a8 a9 a10 a11 vv, landP Z La τ, thP Z tm FM KM, ruP (sb jd) (ρ.2 42 jd) (ρ.2 43 jd), shOn (shNo (shF Z sb sc ρ) jd) 8]) G X (wsel [2, 0, 1, 3, 4, 5] rfl rfl) (run_V (As := []) (rest := []) (n := 0) G hml hts hl.1 (p_recv G X 2 0 rfl rfl rfl) (k2_isReady hE hok _) (cwV 0 hts (cg_V ck_75 ck_586 ck_587 ck_588 ck_79) rfl rfl rfl (by decide +kernel) ⟨Nat.le_of_ble_eq_true rfl, Nat.le_of_ble_eq_true rfl⟩) rfl (Nat.le_of_ble_eq_true rfl) dX11_by_53 ⟨Nat.le_refl _, Nat.le_refl _⟩) (fun _ => wback [2, 0, 1, 3, 4, 5] rfl rfl) (fun H locs _ _ X => ?_)
            refine gb_if_ne (tgt := 62) hx hb dX11_by_56 (by decide) (fun c_56 => ?_) (fun c_56 => ?_)
            ·
              refine lv_aload_n hx hb dX11_by_62 rfl (lv_at hl 1 rfl) ?_
              refine cg_11 G X 0 0 rfl rfl 0 (by decide) (G.2.2.2.1 _ ck_498) rfl rfl dX11_by_63 ?_
              refine lv_aload hx hb dX11_by_66 (lv_at hl 0 rfl) ?_
              refine lv_iload_n hx hb dX11_by_68 rfl (lv_at hl 3 rfl) ?_
              refine lv_iload_n hx hb dX11_by_69 rfl (lv_at hl 4 rfl) ?_
              refine lv_iconst (v := nI 4294967295) hx hb dX11_by_70 (by decide) ?_
              refine dtV_go (w := wcat [wkP Z (wo, La.1, tm.1, vq) r0 a4 a5 a6 a7 a8 a9 a10 a11 vv, landP Z La τ, thP Z tm FM KM, ruP (sb jd) (ρ.2 42 jd) (ρ.2 43 jd)]) (wf := wcat [anP Z an wo La.1 x2 x3 x4 x5 x6 x7 x8 x9 hi sb (ρ.2 41), shOn (shNo (shF Z sb sc ρ) jd) 8]) (W1 := fun u_71 => wcat [anP Z an wo La.1 x2 x3 x4 x5 x6 x7 x8 x9 hi sb (ρ.2 41), wkP Z (wo, La.1, tm.1, vq) (sb jd) jw u_71.2.2.1 4294967295 (τ.1 12) u_71.2.2.2.1 0 u_71.2.2.2.2.1 0 u_71.2.2.2.2.2, landP Z La τ, thP Z tm u_71.1 u_71.2.1, ruP (sb jd) (ρ.2 42 jd) (ρ.2 43 jd), shOn (shNo (shF Z sb sc ρ) jd) 8]) G X (wsel [1, 2, 3, 4, 0, 5] rfl rfl) (run_V (As := [.ref (sb jd), .int (nI jw), .int (nI xz), .int (nI 4294967295)]) (rest := []) (n := 4) G hml hts hl.1 (p_recv G X 1 0 rfl rfl rfl) (k10_setOutByRule hE jw xz 4294967295 hT (by omega) (⟨hp28.symm, by decide⟩) ((hzs.2.1 jd hjd q_33).1) ((hzs.2.1 jd hjd q_33).2) _) (cwV 4 hts (cg_V ck_433 ck_653 ck_654 ck_655 ck_365) rfl rfl rfl (by decide +kernel) ⟨Nat.le_of_ble_eq_true rfl, Nat.le_of_ble_eq_true rfl⟩) rfl (Nat.le_of_ble_eq_true rfl) dX11_by_71 ⟨Nat.le_refl _, Nat.le_refl _⟩) (fun u_71 => wback [1, 2, 3, 4, 0, 5] rfl rfl) (fun H locs u_71 hu_71 X => ?_)
              refine lv_aload_n hx hb dX11_by_74 rfl (lv_at hl 1 rfl) ?_
              refine cg_11 G X 0 0 rfl rfl 0 (by decide) (G.2.2.2.1 _ ck_498) rfl rfl dX11_by_75 ?_
              refine dtI_go (w := wcat [wkP Z (wo, La.1, tm.1, vq) (sb jd) jw u_71.2.2.1 4294967295 (τ.1 12) u_71.2.2.2.1 0 u_71.2.2.2.2.1 0 u_71.2.2.2.2.2, landP Z La τ, thP Z tm u_71.1 u_71.2.1, ruP (sb jd) (ρ.2 42 jd) (ρ.2 43 jd)]) (wf := wcat [anP Z an wo La.1 x2 x3 x4 x5 x6 x7 x8 x9 hi sb (ρ.2 41), shOn (shNo (shF Z sb sc ρ) jd) 8]) (W1 := fun u_78 => wcat [anP Z an wo La.1 x2 x3 x4 x5 x6 x7 x8 x9 hi sb (ρ.2 41), wkP Z (wo, La.1, tm.1, vq) (sb jd) jw u_78.2.2.1 4294967295 u_78.2.2.2.1 u_78.2.2.2.2.1 u_78.2.2.2.2.2.1 u_78.2.2.2.2.2.2.1 u_78.2.2.2.2.2.2.2 u_71.2.2.2.2.2, landP Z La τ, thP Z tm u_78.1 u_78.2.1, ruP (sb jd) (ρ.2 42 jd) (ρ.2 43 jd), shOn (shNo (shF Z sb sc ρ) jd) 8]) G X (wsel [1, 2, 3, 4, 0, 5] rfl rfl) (run_V (As := []) (rest := []) (n := 0) G hml hts hl.1 (p_recv G X 1 0 rfl rfl rfl) (k10_minutesThere hE (yr := 0) (yg := 0) hT (by omega) k12 (⟨hp28.symm, by decide⟩) hu_71.1 ((hzs.2.1 jd hjd q_33).1) ((hzs.2.1 jd hjd q_33).2) _) (cwV 0 hts (cg_V ck_494 ck_627 ck_628 ck_629 ck_365) rfl rfl rfl (by decide +kernel) ⟨Nat.le_of_ble_eq_true rfl, Nat.le_of_ble_eq_true rfl⟩) rfl (Nat.le_of_ble_eq_true rfl) dX11_by_78 ⟨Nat.le_refl _, Nat.le_refl _⟩) (fun u_78 => wback [1, 2, 3, 4, 0, 5] rfl rfl) (fun H locs u_78 hu_78 X => ?_)
              refine gi_eq (a := zmnN (zwalk τ jw (τ.1 12) (ρ.2 42 jd) (ρ.2 43 jd) (τ.2 5) xz)) (congrArg zmnN hu_71.2) ?_
              refine lv_istore (lv' := [(6, .int (nI (zmnN (zwalk τ jw (τ.1 12) (ρ.2 42 jd) (ρ.2 43 jd) (τ.2 5) xz)))), (5, .ref (sb jd)), (0, .ref an.1), (1, .int (nI jd)), (2, .int (nI jw)), (3, .int (nI xz)), (4, .int xh)]) hx hb dX11_by_81 hl (by decide) rfl (fun ls hl => ?_)
              refine lv_iload hx hb dX11_by_83 (lv_at hl 6 rfl) ?_
              by_cases t_85_0 : xh = nI 0
              · refine gi_raw t_85_0 ?_
                refine lv_lookup (tgt := 112) (off := 27) hx hb dX11_by_85 (by decide) (by decide +kernel) (by decide) ?_
                refine lv_iload hx hb dX11_by_112 (lv_at hl 0 rfl) ?_
                replace X := sh_in (qs := [anP Z an wo La.1 x2 x3 x4 x5 x6 x7 x8 x9 hi sb (ρ.2 41), wkP Z (wo, La.1, tm.1, vq) (sb jd) jw u_78.2.2.1 4294967295 u_78.2.2.2.1 u_78.2.2.2.2.1 u_78.2.2.2.2.2.1 u_78.2.2.2.2.2.2.1 u_78.2.2.2.2.2.2.2 u_71.2.2.2.2.2, landP Z La τ, thP Z tm u_78.1 u_78.2.1]) hjd (shF_1 (show ρ.2 41 jd = 1 from q_33)) X
                exact cfin_I ((sb jd, jw, u_78.2.2.1, 4294967295, u_78.2.2.2.1, u_78.2.2.2.2.1, u_78.2.2.2.2.2.1, u_78.2.2.2.2.2.2.1, u_78.2.2.2.2.2.2.2, u_71.2.2.2.2.2, u_78.1, u_78.2.1)) (trivial) (rfl) (by rw [zbyC_v (ρ := ρ) (z := xz) hjd hjw (by omega) hz3 q_33, if_neg (fun q => q c_56), t_85_0, zbyQ_0]; exact zminutes_is _) X dX11_by_114 fin
              by_cases t_85_1 : xh = nI 1
              · refine gi_raw t_85_1 ?_
                refine lv_lookup (tgt := 115) (off := 30) hx hb dX11_by_85 (by decide) (by decide +kernel) (by decide) ?_
                refine lv_aload_n hx hb dX11_by_115 rfl (lv_at hl 2 rfl) ?_
                refine cg_11 G X 0 0 rfl rfl 0 (by decide) (G.2.2.2.1 _ ck_498) rfl rfl dX11_by_116 ?_
                refine cg_10 G X 1 0 rfl rfl 10 (by decide) (G.2.2.2.1 _ ck_651) rfl rfl dX11_by_119 ?_
                refine gi_eq (a := ((zwalk τ jw (τ.1 12) (ρ.2 42 jd) (ρ.2 43 jd) (τ.2 5) xz).2.2.1)) (hu_78.1.trans (congrArg (fun R => R.2.2.1) hu_71.2)) ?_
                replace X := sh_in (qs := [anP Z an wo La.1 x2 x3 x4 x5 x6 x7 x8 x9 hi sb (ρ.2 41), wkP Z (wo, La.1, tm.1, vq) (sb jd) jw u_78.2.2.1 4294967295 u_78.2.2.2.1 u_78.2.2.2.2.1 u_78.2.2.2.2.2.1 u_78.2.2.2.2.2.2.1 u_78.2.2.2.2.2.2.2 u_71.2.2.2.2.2, landP Z La τ, thP Z tm u_78.1 u_78.2.1]) hjd (shF_1 (show ρ.2 41 jd = 1 from q_33)) X
                exact cfin_I ((sb jd, jw, u_78.2.2.1, 4294967295, u_78.2.2.2.1, u_78.2.2.2.2.1, u_78.2.2.2.2.2.1, u_78.2.2.2.2.2.2.1, u_78.2.2.2.2.2.2.2, u_71.2.2.2.2.2, u_78.1, u_78.2.1)) (trivial) (rfl) (by rw [zbyC_v (ρ := ρ) (z := xz) hjd hjw (by omega) hz3 q_33, if_neg (fun q => q c_56), t_85_1, zbyQ_1]) X dX11_by_122 fin
              have t_85_d := zw2_of hz3 t_85_0 t_85_1
              · refine gi_raw (y := nI 2) t_85_d ?_
                refine lv_lookup (tgt := 123) (off := 38) hx hb dX11_by_85 (by decide) (by decide +kernel) (by decide) ?_
                refine lv_aload_n hx hb dX11_by_123 rfl (lv_at hl 2 rfl) ?_
                refine cg_11 G X 0 0 rfl rfl 0 (by decide) (G.2.2.2.1 _ ck_498) rfl rfl dX11_by_124 ?_
                refine cg_10 G X 1 0 rfl rfl 11 (by decide) (G.2.2.2.1 _ ck_652) rfl rfl dX11_by_127 ?_
                refine gi_eq (a := ((zwalk τ jw (τ.1 12) (ρ.2 42 jd) (ρ.2 43 jd) (τ.2 5) xz).2.2.2)) (hu_78.2.trans (congrArg (fun R => R.2.2.2) hu_71.2)) ?_
                replace X := sh_in (qs := [anP Z an wo La.1 x2 x3 x4 x5 x6 x7 x8 x9 hi sb (ρ.2 41), wkP Z (wo, La.1, tm.1, vq) (sb jd) jw u_78.2.2.1 4294967295 u_78.2.2.2.1 u_78.2.2.2.2.1 u_78.2.2.2.2.2.1 u_78.2.2.2.2.2.2.1 u_78.2.2.2.2.2.2.2 u_71.2.2.2.2.2, landP Z La τ, thP Z tm u_78.1 u_78.2.1]) hjd (shF_1 (show ρ.2 41 jd = 1 from q_33)) X
                exact cfin_I ((sb jd, jw, u_78.2.2.1, 4294967295, u_78.2.2.2.1, u_78.2.2.2.2.1, u_78.2.2.2.2.2.1, u_78.2.2.2.2.2.2.1, u_78.2.2.2.2.2.2.2, u_71.2.2.2.2.2, u_78.1, u_78.2.1)) (trivial) (rfl) (by rw [zbyC_v (ρ := ρ) (z := xz) hjd hjw (by omega) hz3 q_33, if_neg (fun q => q c_56), t_85_d, zbyQ_2]) X dX11_by_130 fin
            ·
              refine lv_bipush (v := (-3)) hx hb dX11_by_59 (by decide) ?_
              replace X := sh_in (qs := [anP Z an wo La.1 x2 x3 x4 x5 x6 x7 x8 x9 hi sb (ρ.2 41), wkP Z (wo, La.1, tm.1, vq) r0 a4 a5 a6 a7 a8 a9 a10 a11 vv, landP Z La τ, thP Z tm FM KM]) hjd (shF_1 (show ρ.2 41 jd = 1 from q_33)) X
              exact cfin_I ((r0, a4, a5, a6, a7, a8, a9, a10, a11, vv, FM, KM)) (trivial) (rfl) (by rw [zbyC_v (ρ := ρ) (z := xz) hjd hjw (by omega) hz3 q_33, if_pos c_56]) X dX11_by_61 fin
          · refine gq_n (by rw [shQ_j (by omega)]; exact shR_n q_33) ?_
            refine lv_astoreN (lv' := [(5, .null), (0, .ref an.1), (1, .int (nI jd)), (2, .int (nI jw)), (3, .int (nI xz)), (4, .int xh)]) hx hb dX11_by_36 hl (by decide) rfl (fun ls hl => ?_)
            refine lv_aloadN hx hb dX11_by_38 (lv_at hl 0 rfl) ?_
            refine lv_ifnonnullN hx hb dX11_by_40 ?_
            refine lv_aload_n hx hb dX11_by_43 rfl (lv_at hl 1 rfl) ?_
            refine lv_iload_n hx hb dX11_by_44 rfl (lv_at hl 2 rfl) ?_
            refine dtI_go (w := wcat [anP Z an wo La.1 x2 x3 x4 x5 x6 x7 x8 x9 hi sb (ρ.2 41)]) (wf := wcat [wkP Z (wo, La.1, tm.1, vq) r0 a4 a5 a6 a7 a8 a9 a10 a11 vv, landP Z La τ, thP Z tm FM KM, shOn (shF Z sb sc ρ) 8]) (W1 := fun _ => wcat [anP Z an wo La.1 x2 x3 x4 x5 x6 x7 x8 x9 hi sb (ρ.2 41), wkP Z (wo, La.1, tm.1, vq) r0 a4 a5 a6 a7 a8 a9 a10 a11 vv, landP Z La τ, thP Z tm FM KM, shOn (shF Z sb sc ρ) 8]) G X (wsel [0, 1, 2, 3, 4] rfl rfl) (run_V (As := [.int (nI jd)]) (rest := []) (n := 1) G hml hts hl.1 (p_recv G X 0 0 rfl rfl rfl) (k11_lackOn hE (nI jd) _) (cwV 1 hts (cg_V ck_537 ck_542 ck_543 ck_544 ck_89) rfl rfl rfl (by decide +kernel) ⟨Nat.le_of_ble_eq_true rfl, Nat.le_of_ble_eq_true rfl⟩) rfl (Nat.le_of_ble_eq_true rfl) dX11_by_45 ⟨Nat.le_refl _, Nat.le_refl _⟩) (fun _ => wback [0, 1, 2, 3, 4] rfl rfl) (fun H locs _ _ X => ?_)
            exact cfin_I ((r0, a4, a5, a6, a7, a8, a9, a10, a11, vv, FM, KM)) (trivial) (rfl) (zbyC_l hzs (zir_N hjd (by decide)) (zir_N hjw (by omega)) hz3 (fun q => q_33 ((congrArg (ρ.2 41) (nI_N (by omega))).symm.trans q.2))) X dX11_by_48 fin
        ·
          refine lv_iconst (v := nI 4294967295) hx hb dX11_by_29 (by decide) ?_
          exact cfin_I ((r0, a4, a5, a6, a7, a8, a9, a10, a11, vv, FM, KM)) (trivial) (rfl) (by rw [nI_m1]; unfold zbyC; first | exact (if_pos (fun q => c_4 q.1)).symm | exact (if_pos (fun q => c_15 q.2.1)).symm | exact (if_pos (fun q => zir_f1 c_20 q.2.2)).symm | exact (if_pos (fun q => zir_f3 (n := 2) (by decide) c_26 q.2.2)).symm) X dX11_by_30 fin
