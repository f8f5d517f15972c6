set_option maxHeartbeats 4000000 in
set_option maxRecDepth 100000 in
theorem k11_dusk {E : (Nat → Prop) → State → Heap → Prop} (hE : cEok E) {l : Launch} {D : va_G} {Z : Nat → ClassId} {an : Nat × Nat × Nat} {x2 x3 x4 x5 x6 x7 x8 x9 hi : Nat} {sb sc : Nat → Nat} {ρ : MS} {wo vq r0 a4 a5 a6 a7 a8 a9 a10 a11 : Nat} {La : LA} {τ : MS} {tm : Nat × Nat × Nat} {FM KM vv : Nat → Nat} (xd : Int32) (xn : Int32) (xz : Nat) (xm : Int32) (hT : tOk τ) (hp28 : τ.1 28 = 4294967295) (hzs : zSh ρ) : dtI E l D Z yX11_dusk (Cond.code yX11_dusk cX11_dusk 9 (some .int) :: cW) { frames := 5, cells := 0, slots := 0, locals := 114 } [.ref an.1, .int xd, .int xn, .int (nI xz), .int xm] (wcat [anP Z an wo La.1 x2 x3 x4 x5 x6 x7 x8 x9 hi sb (ρ.2 41), wkP Z (wo, La.1, tm.1, vq) r0 a4 a5 a6 a7 a8 a9 a10 a11 vv, landP Z La τ, thP Z tm FM KM, shOn (shF Z sb sc ρ) 8]) (S := (Nat × Nat × Nat × Nat × Nat × Nat × Nat × Nat × Nat × (Nat → Nat) × (Nat → Nat) × (Nat → Nat))) (fun u => wcat [anP Z an wo La.1 x2 x3 x4 x5 x6 x7 x8 x9 hi sb (ρ.2 41), wkP Z (wo, La.1, tm.1, vq) u.1 u.2.1 u.2.2.1 u.2.2.2.1 u.2.2.2.2.1 u.2.2.2.2.2.1 u.2.2.2.2.2.2.1 u.2.2.2.2.2.2.2.1 u.2.2.2.2.2.2.2.2.1 u.2.2.2.2.2.2.2.2.2.1, landP Z La τ, thP Z tm u.2.2.2.2.2.2.2.2.2.2.1 u.2.2.2.2.2.2.2.2.2.2.2, shOn (shF Z sb sc ρ) 8]) (fun u => zduskC τ ρ xd xn xz xm) (fun _ => True) := by
  refine dtI_of hE (cc := cX11_dusk) (maxL := 9) (by decide +kernel) (fun w h => List.mem_cons_of_mem _ h) (Nat.le_of_ble_eq_true rfl) ?_
  intro p e s m args below meth c A Q ls hx hb hml hown hts G X hl fin
  replace hl : lv_has ls 9 [(0, .ref an.1), (1, .int xd), (2, .int xn), (3, .int (nI xz)), (4, .int xm)] := hl
  obtain ⟨hok, hpl, hod, hrows, hnx, hsh6, hgl8⟩ := id hT
  obtain ⟨k0, k4, k8, kr, kw, ks, kmet, kmt, k12, k13⟩ := id hok
  refine lv_iload_n hx hb dX11_dusk_0 rfl (lv_at hl 1 rfl) ?_
  refine dtI_go (w := wcat []) (wf := wcat [anP Z an wo La.1 x2 x3 x4 x5 x6 x7 x8 x9 hi sb (ρ.2 41), wkP Z (wo, La.1, tm.1, vq) r0 a4 a5 a6 a7 a8 a9 a10 a11 vv, landP Z La τ, thP Z tm FM KM, shOn (shF Z sb sc ρ) 8]) (W1 := fun _ => wcat [anP Z an wo La.1 x2 x3 x4 x5 x6 x7 x8 x9 hi sb (ρ.2 41), wkP Z (wo, La.1, tm.1, vq) r0 a4 a5 a6 a7 a8 a9 a10 a11 vv, landP Z La τ, thP Z tm FM KM, shOn (shF Z sb sc ρ) 8]) G X (wsel [0, 1, 2, 3, 4] rfl rfl) (run_S (As := [.int xd]) (rest := []) (n := 1) G hml hts hl.1 (k11_isShelf hE xd _) (va_cwS 1 hts (cg_S ck_525 ck_527 ck_528 ck_89) rfl rfl rfl (by decide +kernel) ⟨Nat.le_of_ble_eq_true rfl, Nat.le_of_ble_eq_true rfl⟩) rfl (Nat.le_of_ble_eq_true rfl) dX11_dusk_1 ⟨Nat.le_refl _, Nat.le_refl _⟩) (fun _ => wback [0, 1, 2, 3, 4] rfl rfl) (fun H locs _ _ X => ?_)
  refine gb_if_eq (tgt := 27) hx hb dX11_dusk_4 (by decide) (fun c_4 => ?_) (fun c_4 => ?_)
  ·
    refine lv_iconst (v := nI 4294967295) hx hb dX11_dusk_27 (by decide) ?_
    exact cfin_I ((r0, a4, a5, a6, a7, a8, a9, a10, a11, vv, FM, KM)) (trivial) (rfl) (by rw [nI_m1]; first | exact zduskC_s (zmnC_n (fun q => c_4 q.1)) (Or.inl rfl) | exact zduskC_s (zmnC_n (fun q => c_11 q.2)) (Or.inl rfl) | exact zduskC_n (zir_f1 c_16) | exact zduskC_n (zir_f3 (n := 9999) (by decide) c_24)) X dX11_dusk_28 fin
  ·
    obtain ⟨jd, hjd, rfl⟩ := zir_of (by decide) c_4
    refine lv_iload_n hx hb dX11_dusk_7 rfl (lv_at hl 2 rfl) ?_
    refine dtI_go (w := wcat []) (wf := wcat [anP Z an wo La.1 x2 x3 x4 x5 x6 x7 x8 x9 hi sb (ρ.2 41), wkP Z (wo, La.1, tm.1, vq) r0 a4 a5 a6 a7 a8 a9 a10 a11 vv, landP Z La τ, thP Z tm FM KM, shOn (shF Z sb sc ρ) 8]) (W1 := fun _ => wcat [anP Z an wo La.1 x2 x3 x4 x5 x6 x7 x8 x9 hi sb (ρ.2 41), wkP Z (wo, La.1, tm.1, vq) r0 a4 a5 a6 a7 a8 a9 a10 a11 vv, landP Z La τ, thP Z tm FM KM, shOn (shF Z sb sc ρ) 8]) G X (wsel [0, 1, 2, 3, 4] rfl rfl) (run_S (As := [.int xn]) (rest := []) (n := 1) G hml hts hl.1 (k11_isSeeds hE xn _) (va_cwS 1 hts (cg_S ck_657 ck_659 ck_660 ck_89) rfl rfl rfl (by decide +kernel) ⟨Nat.le_of_ble_eq_true rfl, Nat.le_of_ble_eq_true rfl⟩) rfl (Nat.le_of_ble_eq_true rfl) dX11_dusk_8 ⟨Nat.le_refl _, Nat.le_refl _⟩) (fun _ => wback [0, 1, 2, 3, 4] rfl rfl) (fun H locs _ _ X => ?_)
    refine gb_if_eq (tgt := 27) hx hb dX11_dusk_11 (by decide) (fun c_11 => ?_) (fun c_11 => ?_)
    ·
      refine lv_iconst (v := nI 4294967295) hx hb dX11_dusk_27 (by decide) ?_
      exact cfin_I ((r0, a4, a5, a6, a7, a8, a9, a10, a11, vv, FM, KM)) (trivial) (rfl) (by rw [nI_m1]; first | exact zduskC_s (zmnC_n (fun q => c_4 q.1)) (Or.inl rfl) | exact zduskC_s (zmnC_n (fun q => c_11 q.2)) (Or.inl rfl) | exact zduskC_n (zir_f1 c_16) | exact zduskC_n (zir_f3 (n := 9999) (by decide) c_24)) X dX11_dusk_28 fin
    ·
      obtain ⟨jn, hjn, rfl⟩ := zsd_of c_11
      refine lv_iload hx hb dX11_dusk_14 (lv_at hl 4 rfl) ?_
      refine lv_if_lt (tgt := 27) hx hb dX11_dusk_16 (by decide) (fun c_16 => ?_) (fun c_16 => ?_)
      ·
        refine lv_iconst (v := nI 4294967295) hx hb dX11_dusk_27 (by decide) ?_
        exact cfin_I ((r0, a4, a5, a6, a7, a8, a9, a10, a11, vv, FM, KM)) (trivial) (rfl) (by rw [nI_m1]; first | exact zduskC_s (zmnC_n (fun q => c_4 q.1)) (Or.inl rfl) | exact zduskC_s (zmnC_n (fun q => c_11 q.2)) (Or.inl rfl) | exact zduskC_n (zir_f1 c_16) | exact zduskC_n (zir_f3 (n := 9999) (by decide) c_24)) X dX11_dusk_28 fin
      ·
        refine lv_iload hx hb dX11_dusk_19 (lv_at hl 4 rfl) ?_
        refine lv_sipush (v := nI 9999) hx hb dX11_dusk_21 (by decide) ?_
        refine lv_icmp_le (tgt := 29) hx hb dX11_dusk_24 (by decide) (fun c_24 => ?_) (fun c_24 => ?_)
        ·
          obtain ⟨jm, hjm, rfl⟩ := zir_of (by decide) (zir_t'' (n := 9999) (by decide) c_16 c_24)
          refine lv_aload_n hx hb dX11_dusk_29 rfl (lv_at hl 0 rfl) ?_
          refine lv_iload_n hx hb dX11_dusk_30 rfl (lv_at hl 1 rfl) ?_
          refine dtQ_go (w := wcat [anP Z an wo La.1 x2 x3 x4 x5 x6 x7 x8 x9 hi sb (ρ.2 41)]) (wf := wcat [wkP Z (wo, La.1, tm.1, vq) r0 a4 a5 a6 a7 a8 a9 a10 a11 vv, landP Z La τ, thP Z tm FM KM, shOn (shF Z sb sc ρ) 8]) (W1 := fun _ => wcat [anP Z an wo La.1 x2 x3 x4 x5 x6 x7 x8 x9 hi sb (ρ.2 41), wkP Z (wo, La.1, tm.1, vq) r0 a4 a5 a6 a7 a8 a9 a10 a11 vv, landP Z La τ, thP Z tm FM KM, shOn (shF Z sb sc ρ) 8]) G X (wsel [0, 1, 2, 3, 4] rfl rfl) (run_V (As := [.int (nI jd)]) (rest := []) (n := 1) G hml hts hl.1 (p_recv G X 0 0 rfl rfl rfl) (k11_ruleOn hE (nI jd) _) (cwV 1 hts (cg_V ck_529 ck_531 ck_532 ck_533 ck_89) rfl rfl rfl (by decide +kernel) ⟨Nat.le_of_ble_eq_true rfl, Nat.le_of_ble_eq_true rfl⟩) rfl (Nat.le_of_ble_eq_true rfl) dX11_dusk_31 ⟨Nat.le_refl _, Nat.le_refl _⟩) (fun _ => wback [0, 1, 2, 3, 4] rfl rfl) (fun H locs _ _ X => ?_)
          by_cases q_31 : (ρ.2 41) jd = 1
          · refine gq_s (shQ_s (by omega) q_31) ?_
            replace X := sh_out (qs := [anP Z an wo La.1 x2 x3 x4 x5 x6 x7 x8 x9 hi sb (ρ.2 41), wkP Z (wo, La.1, tm.1, vq) r0 a4 a5 a6 a7 a8 a9 a10 a11 vv, landP Z La τ, thP Z tm FM KM]) hjd (shF_1 (show ρ.2 41 jd = 1 from q_31)) X
            refine lv_astore (lv' := [(5, .ref (sb jd)), (0, .ref an.1), (1, .int (nI jd)), (2, .int (nI jn)), (3, .int (nI xz)), (4, .int (nI jm))]) hx hb dX11_dusk_34 hl (by decide) rfl (fun ls hl => ?_)
            refine lv_aload hx hb dX11_dusk_36 (lv_at hl 0 rfl) ?_
            refine lv_ifnonnull (tgt := 47) hx hb dX11_dusk_38 (by decide) ?_
            refine lv_aload_n hx hb dX11_dusk_47 rfl (lv_at hl 1 rfl) ?_
            refine cg_11 G X 0 0 rfl rfl 1 (by decide) (G.2.2.2.1 _ ck_500) rfl rfl dX11_dusk_48 ?_
            refine dtI_go (w := wcat [landP Z La τ]) (wf := wcat [anP Z an wo La.1 x2 x3 x4 x5 x6 x7 x8 x9 hi sb (ρ.2 41), wkP Z (wo, La.1, tm.1, vq) r0 a4 a5 a6 a7 a8 a9 a10 a11 vv, thP Z tm FM KM, ruP (sb jd) (ρ.2 42 jd) (ρ.2 43 jd), shOn (shNo (shF Z sb sc ρ) jd) 8]) (W1 := fun _ => wcat [anP Z an wo La.1 x2 x3 x4 x5 x6 x7 x8 x9 hi sb (ρ.2 41), wkP Z (wo, La.1, tm.1, vq) r0 a4 a5 a6 a7 a8 a9 a10 a11 vv, landP Z La τ, thP Z tm FM KM, ruP (sb jd) (ρ.2 42 jd) (ρ.2 43 jd), shOn (shNo (shF Z sb sc ρ) jd) 8]) G X (wsel [2, 0, 1, 3, 4, 5] rfl rfl) (run_V (As := []) (rest := []) (n := 0) G hml hts hl.1 (p_recv G X 2 0 rfl rfl rfl) (k2_isReady hE hok _) (cwV 0 hts (cg_V ck_75 ck_586 ck_587 ck_588 ck_79) rfl rfl rfl (by decide +kernel) ⟨Nat.le_of_ble_eq_true rfl, Nat.le_of_ble_eq_true rfl⟩) rfl (Nat.le_of_ble_eq_true rfl) dX11_dusk_51 ⟨Nat.le_refl _, Nat.le_refl _⟩) (fun _ => wback [2, 0, 1, 3, 4, 5] rfl rfl) (fun H locs _ _ X => ?_)
            refine gb_if_ne (tgt := 60) hx hb dX11_dusk_54 (by decide) (fun c_54 => ?_) (fun c_54 => ?_)
            ·
              refine lv_iconst (v := nI 0) hx hb dX11_dusk_60 (by decide) ?_
              refine lv_istore (lv' := [(6, .int (nI 0)), (5, .ref (sb jd)), (0, .ref an.1), (1, .int (nI jd)), (2, .int (nI jn)), (3, .int (nI xz)), (4, .int (nI jm))]) hx hb dX11_dusk_61 hl (by decide) rfl (fun ls hl => ?_)
              refine lv_iconst (v := nI 0) hx hb dX11_dusk_63 (by decide) ?_
              refine lv_istore (lv' := [(7, .int (nI 0)), (6, .int (nI 0)), (5, .ref (sb jd)), (0, .ref an.1), (1, .int (nI jd)), (2, .int (nI jn)), (3, .int (nI xz)), (4, .int (nI jm))]) hx hb dX11_dusk_64 hl (by decide) rfl (fun ls hl => ?_)
              have cut_66 : ∀ (NN : Nat) (w1 : Nat) (r1 : Nat) (b4 : Nat) (b5 : Nat) (b6 : Nat) (b7 : Nat) (b8 : Nat) (b9 : Nat) (b10 : Nat) (b11 : Nat) (v1 : Nat → Nat) (F1 : Nat → Nat) (K1 : Nat → Nat) (h1 : w1 ≤ τ.1 4), τ.1 4 - w1 < NN → ∀ (H : Heap) (locs : List Loc) (ls : Array Slot), wH D vwCl A s.heap H locs (wcat [anP Z an wo La.1 x2 x3 x4 x5 x6 x7 x8 x9 hi sb (ρ.2 41), wkP Z (wo, La.1, tm.1, vq) r1 b4 b5 b6 b7 b8 b9 b10 b11 v1, landP Z La τ, thP Z tm F1 K1, ruP (sb jd) (ρ.2 42 jd) (ρ.2 43 jd), shOn (shNo (shF Z sb sc ρ) jd) 8]) → lv_has ls 9 [(0, .ref an.1), (2, .int (nI jn)), (3, .int (nI xz)), (4, .int (nI jm)), (5, .ref (sb jd)), (6, .int (nI (zsum (zdusk τ (ρ.2 42 jd) (ρ.2 43 jd) jn xz jm) w1))), (7, .int (nI w1))] → W p l e { frames := 5, cells := 0, slots := 0, locals := 114 } s m args below meth c H locs 0 0 Q (F0 m 66 ls []) := by
                intro NN
                induction NN with
                | zero => intro w1 r1 b4 b5 b6 b7 b8 b9 b10 b11 v1 F1 K1 h1 hNN; exact absurd hNN (Nat.not_lt_zero _)
                | succ NN ih_66 =>
                  intro w1 r1 b4 b5 b6 b7 b8 b9 b10 b11 v1 F1 K1 h1 hNN H locs ls X hl
                  refine lv_iload hx hb dX11_dusk_66 (lv_at hl 6 rfl) ?_
                  refine lv_aload_n hx hb dX11_dusk_68 rfl (lv_at hl 0 rfl) ?_
                  refine cg_11 G X 0 0 rfl rfl 1 (by decide) (G.2.2.2.1 _ ck_500) rfl rfl dX11_dusk_69 ?_
                  refine cg_2 G X 2 0 rfl rfl 4 (by decide) (G.2.2.2.1 _ ck_612) rfl rfl dX11_dusk_72 ?_
                  refine gn_icmp_ge (tgt := 142) hx hb dX11_dusk_75 (by decide) (by omega) (by omega) (fun c_75 => ?_) (fun c_75 => ?_)
                  ·
                    refine lv_iload hx hb dX11_dusk_142 (lv_at hl 5 rfl) ?_
                    replace X := sh_in (qs := [anP Z an wo La.1 x2 x3 x4 x5 x6 x7 x8 x9 hi sb (ρ.2 41), wkP Z (wo, La.1, tm.1, vq) r1 b4 b5 b6 b7 b8 b9 b10 b11 v1, landP Z La τ, thP Z tm F1 K1]) hjd (shF_1 (show ρ.2 41 jd = 1 from q_31)) X
                    exact cfin_I ((r1, b4, b5, b6, b7, b8, b9, b10, b11, v1, F1, K1)) (trivial) (rfl) (by rw [show w1 = τ.1 4 by omega]; exact zduskC_v hjd hjn hjm (zmnC_0 hjd (zsd_N hjn) q_31 c_54)) X dX11_dusk_144 fin
                  ·
                    refine lv_iconst (v := nI 0) hx hb dX11_dusk_78 (by decide) ?_
                    refine lv_istore (lv' := [(8, .int (nI 0)), (0, .ref an.1), (2, .int (nI jn)), (3, .int (nI xz)), (4, .int (nI jm)), (5, .ref (sb jd)), (6, .int (nI (zsum (zdusk τ (ρ.2 42 jd) (ρ.2 43 jd) jn xz jm) w1))), (7, .int (nI w1))]) hx hb dX11_dusk_79 hl (by decide) rfl (fun ls hl => ?_)
                    have cut_81 : ∀ (NN : Nat) (i1 : Nat) (r1 : Nat) (b4 : Nat) (b5 : Nat) (b6 : Nat) (b7 : Nat) (b8 : Nat) (b9 : Nat) (b10 : Nat) (b11 : Nat) (v1 : Nat → Nat) (F1 : Nat → Nat) (K1 : Nat → Nat) (h2 : i1 ≤ jn), jn - i1 < NN → ∀ (H : Heap) (locs : List Loc) (ls : Array Slot), wH D vwCl A s.heap H locs (wcat [anP Z an wo La.1 x2 x3 x4 x5 x6 x7 x8 x9 hi sb (ρ.2 41), wkP Z (wo, La.1, tm.1, vq) r1 b4 b5 b6 b7 b8 b9 b10 b11 v1, landP Z La τ, thP Z tm F1 K1, ruP (sb jd) (ρ.2 42 jd) (ρ.2 43 jd), shOn (shNo (shF Z sb sc ρ) jd) 8]) → lv_has ls 9 [(0, .ref an.1), (2, .int (nI jn)), (3, .int (nI xz)), (4, .int (nI jm)), (5, .ref (sb jd)), (6, .int (nI (zsum (zdusk τ (ρ.2 42 jd) (ρ.2 43 jd) jn xz jm) w1 + zsum (zduskI τ (ρ.2 42 jd) (ρ.2 43 jd) xz jm w1) i1))), (7, .int (nI w1)), (8, .int (nI i1))] → W p l e { frames := 5, cells := 0, slots := 0, locals := 114 } s m args below meth c H locs 0 0 Q (F0 m 81 ls []) := by
                      intro NN
                      induction NN with
                      | zero => intro i1 r1 b4 b5 b6 b7 b8 b9 b10 b11 v1 F1 K1 h2 hNN; exact absurd hNN (Nat.not_lt_zero _)
                      | succ NN ih_81 =>
                        intro i1 r1 b4 b5 b6 b7 b8 b9 b10 b11 v1 F1 K1 h2 hNN H locs ls X hl
                        refine lv_iload hx hb dX11_dusk_81 (lv_at hl 7 rfl) ?_
                        refine lv_iload_n hx hb dX11_dusk_83 rfl (lv_at hl 1 rfl) ?_
                        refine gn_icmp_ge (tgt := 136) hx hb dX11_dusk_84 (by decide) (by omega) (by omega) (fun c_84 => ?_) (fun c_84 => ?_)
                        ·
                          refine lv_iinc (v := nI (w1 + 1)) (lv' := [(7, .int (nI (w1 + 1))), (0, .ref an.1), (2, .int (nI jn)), (3, .int (nI xz)), (4, .int (nI jm)), (5, .ref (sb jd)), (6, .int (nI (zsum (zdusk τ (ρ.2 42 jd) (ρ.2 43 jd) jn xz jm) w1 + zsum (zduskI τ (ρ.2 42 jd) (ρ.2 43 jd) xz jm w1) i1))), (8, .int (nI i1))]) hx hb dX11_dusk_136 hl (k := 6) rfl (zn_inc _) (by decide) rfl (fun ls hl => ?_)
                          refine lv_goto (tgt := 66) hx hb dX11_dusk_139 (by decide) ?_
                          refine ih_66 (w1 + 1) r1 b4 b5 b6 b7 b8 b9 b10 b11 v1 F1 K1 (by omega) (by omega) _ _ _ (by exact X) (by rw [show i1 = jn by omega] at hl; exact lv_sub hl [1, 2, 3, 4, 5, 6, 0] rfl)
                        ·
                          refine lv_aload_n hx hb dX11_dusk_87 rfl (lv_at hl 0 rfl) ?_
                          refine cg_11 G X 0 0 rfl rfl 0 (by decide) (G.2.2.2.1 _ ck_498) rfl rfl dX11_dusk_88 ?_
                          refine lv_aload hx hb dX11_dusk_91 (lv_at hl 4 rfl) ?_
                          refine lv_iload hx hb dX11_dusk_93 (lv_at hl 6 rfl) ?_
                          refine lv_iload_n hx hb dX11_dusk_95 rfl (lv_at hl 2 rfl) ?_
                          refine lv_iload hx hb dX11_dusk_96 (lv_at hl 7 rfl) ?_
                          refine gn_iadd hx hb dX11_dusk_98  ?_
                          refine lv_iconst (v := nI 4294967295) hx hb dX11_dusk_99 (by decide) ?_
                          refine dtV_go (w := wcat [wkP Z (wo, La.1, tm.1, vq) r1 b4 b5 b6 b7 b8 b9 b10 b11 v1, landP Z La τ, thP Z tm F1 K1, ruP (sb jd) (ρ.2 42 jd) (ρ.2 43 jd)]) (wf := wcat [anP Z an wo La.1 x2 x3 x4 x5 x6 x7 x8 x9 hi sb (ρ.2 41), shOn (shNo (shF Z sb sc ρ) jd) 8]) (W1 := fun u_100 => wcat [anP Z an wo La.1 x2 x3 x4 x5 x6 x7 x8 x9 hi sb (ρ.2 41), wkP Z (wo, La.1, tm.1, vq) (sb jd) w1 u_100.2.2.1 4294967295 (τ.1 12) u_100.2.2.2.1 0 u_100.2.2.2.2.1 0 u_100.2.2.2.2.2, landP Z La τ, thP Z tm u_100.1 u_100.2.1, ruP (sb jd) (ρ.2 42 jd) (ρ.2 43 jd), shOn (shNo (shF Z sb sc ρ) jd) 8]) G X (wsel [1, 2, 3, 4, 0, 5] rfl rfl) (run_V (As := [.ref (sb jd), .int (nI w1), .int (nI (xz + i1)), .int (nI 4294967295)]) (rest := []) (n := 4) G hml hts hl.1 (p_recv G X 1 0 rfl rfl rfl) (k10_setOutByRule hE w1 (xz + i1) 4294967295 hT (by omega) (⟨hp28.symm, by decide⟩) ((hzs.2.1 jd hjd q_31).1) ((hzs.2.1 jd hjd q_31).2) _) (cwV 4 hts (cg_V ck_433 ck_653 ck_654 ck_655 ck_365) rfl rfl rfl (by decide +kernel) ⟨Nat.le_of_ble_eq_true rfl, Nat.le_of_ble_eq_true rfl⟩) rfl (Nat.le_of_ble_eq_true rfl) dX11_dusk_100 ⟨Nat.le_refl _, Nat.le_refl _⟩) (fun u_100 => wback [1, 2, 3, 4, 0, 5] rfl rfl) (fun H locs u_100 hu_100 X => ?_)
                          refine lv_aload_n hx hb dX11_dusk_103 rfl (lv_at hl 0 rfl) ?_
                          refine cg_11 G X 0 0 rfl rfl 0 (by decide) (G.2.2.2.1 _ ck_498) rfl rfl dX11_dusk_104 ?_
                          refine dtI_go (w := wcat [wkP Z (wo, La.1, tm.1, vq) (sb jd) w1 u_100.2.2.1 4294967295 (τ.1 12) u_100.2.2.2.1 0 u_100.2.2.2.2.1 0 u_100.2.2.2.2.2, landP Z La τ, thP Z tm u_100.1 u_100.2.1, ruP (sb jd) (ρ.2 42 jd) (ρ.2 43 jd)]) (wf := wcat [anP Z an wo La.1 x2 x3 x4 x5 x6 x7 x8 x9 hi sb (ρ.2 41), shOn (shNo (shF Z sb sc ρ) jd) 8]) (W1 := fun u_107 => wcat [anP Z an wo La.1 x2 x3 x4 x5 x6 x7 x8 x9 hi sb (ρ.2 41), wkP Z (wo, La.1, tm.1, vq) (sb jd) w1 u_107.2.2.1 4294967295 u_107.2.2.2.1 u_107.2.2.2.2.1 u_107.2.2.2.2.2.1 u_107.2.2.2.2.2.2.1 u_107.2.2.2.2.2.2.2 u_100.2.2.2.2.2, landP Z La τ, thP Z tm u_107.1 u_107.2.1, ruP (sb jd) (ρ.2 42 jd) (ρ.2 43 jd), shOn (shNo (shF Z sb sc ρ) jd) 8]) G X (wsel [1, 2, 3, 4, 0, 5] rfl rfl) (run_V (As := []) (rest := []) (n := 0) G hml hts hl.1 (p_recv G X 1 0 rfl rfl rfl) (k10_minutesThere hE (yr := 0) (yg := 0) hT (by omega) k12 (⟨hp28.symm, by decide⟩) hu_100.1 ((hzs.2.1 jd hjd q_31).1) ((hzs.2.1 jd hjd q_31).2) _) (cwV 0 hts (cg_V ck_494 ck_627 ck_628 ck_629 ck_365) rfl rfl rfl (by decide +kernel) ⟨Nat.le_of_ble_eq_true rfl, Nat.le_of_ble_eq_true rfl⟩) rfl (Nat.le_of_ble_eq_true rfl) dX11_dusk_107 ⟨Nat.le_refl _, Nat.le_refl _⟩) (fun u_107 => wback [1, 2, 3, 4, 0, 5] rfl rfl) (fun H locs u_107 hu_107 X => ?_)
                          refine gi_eq (a := zmnN (zwalk τ w1 (τ.1 12) (ρ.2 42 jd) (ρ.2 43 jd) (τ.2 5) (xz + i1))) (congrArg zmnN hu_100.2) ?_
                          have hml := zmnN_lt hok (w := w1) (c := τ.1 12) (rule := ρ.2 42 jd) (fig := ρ.2 43 jd) (z := xz + i1) (m := τ.2 5) (hzs.2.1 jd hjd q_31).2
                          refine lv_iload hx hb dX11_dusk_110 (lv_at hl 3 rfl) ?_
                          refine gn_icmp_gt (tgt := 130) hx hb dX11_dusk_112 (by decide) (by omega) (by omega) (fun c_112 => ?_) (fun c_112 => ?_)
                          ·
                            refine lv_iinc (v := nI (i1 + 1)) (lv' := [(8, .int (nI (i1 + 1))), (0, .ref an.1), (2, .int (nI jn)), (3, .int (nI xz)), (4, .int (nI jm)), (5, .ref (sb jd)), (6, .int (nI (zsum (zdusk τ (ρ.2 42 jd) (ρ.2 43 jd) jn xz jm) w1 + zsum (zduskI τ (ρ.2 42 jd) (ρ.2 43 jd) xz jm w1) i1))), (7, .int (nI w1))]) hx hb dX11_dusk_130 hl (k := 7) rfl (zn_inc _) (by decide) rfl (fun ls hl => ?_)
                            refine lv_goto (tgt := 81) hx hb dX11_dusk_133 (by decide) ?_
                            refine ih_81 (i1 + 1) (sb jd) w1 u_107.2.2.1 4294967295 u_107.2.2.2.1 u_107.2.2.2.2.1 u_107.2.2.2.2.2.1 u_107.2.2.2.2.2.2.1 u_107.2.2.2.2.2.2.2 u_100.2.2.2.2.2 u_107.1 u_107.2.1 (by omega) (by omega) _ _ _ (by exact X) (by rw [show zsum (zdusk τ (ρ.2 42 jd) (ρ.2 43 jd) jn xz jm) w1 + zsum (zduskI τ (ρ.2 42 jd) (ρ.2 43 jd) xz jm w1) i1 = zsum (zdusk τ (ρ.2 42 jd) (ρ.2 43 jd) jn xz jm) w1 + zsum (zduskI τ (ρ.2 42 jd) (ρ.2 43 jd) xz jm w1) (i1 + 1) by rw [zsum, zduskI_is hjm, if_neg (by omega), Nat.add_zero]] at hl; exact lv_sub hl [1, 2, 3, 4, 5, 6, 7, 0] rfl)
                          ·
                            refine lv_iload hx hb dX11_dusk_115 (lv_at hl 5 rfl) ?_
                            refine lv_aload_n hx hb dX11_dusk_117 rfl (lv_at hl 0 rfl) ?_
                            refine cg_11 G X 0 0 rfl rfl 1 (by decide) (G.2.2.2.1 _ ck_500) rfl rfl dX11_dusk_118 ?_
                            refine cg_2 G X 2 0 rfl rfl 5 (by decide) (G.2.2.2.1 _ ck_562) rfl rfl dX11_dusk_121 ?_
                            refine lv_iload hx hb dX11_dusk_124 (lv_at hl 6 rfl) ?_
                            refine cr_iald G X 2 4 rfl rfl (by omega) (by decide) dX11_dusk_126 ?_
                            refine gi_eq (a := (τ.2 5 w1)) (zcl_in (by omega)) ?_
                            refine gn_iadd hx hb dX11_dusk_127  ?_
                            refine lv_istore (lv' := [(6, .int (nI ((zsum (zdusk τ (ρ.2 42 jd) (ρ.2 43 jd) jn xz jm) w1 + zsum (zduskI τ (ρ.2 42 jd) (ρ.2 43 jd) xz jm w1) i1) + (τ.2 5 w1)))), (0, .ref an.1), (2, .int (nI jn)), (3, .int (nI xz)), (4, .int (nI jm)), (5, .ref (sb jd)), (7, .int (nI w1)), (8, .int (nI i1))]) hx hb dX11_dusk_128 hl (by decide) rfl (fun ls hl => ?_)
                            refine lv_iinc (v := nI (i1 + 1)) (lv' := [(8, .int (nI (i1 + 1))), (6, .int (nI ((zsum (zdusk τ (ρ.2 42 jd) (ρ.2 43 jd) jn xz jm) w1 + zsum (zduskI τ (ρ.2 42 jd) (ρ.2 43 jd) xz jm w1) i1) + (τ.2 5 w1)))), (0, .ref an.1), (2, .int (nI jn)), (3, .int (nI xz)), (4, .int (nI jm)), (5, .ref (sb jd)), (7, .int (nI w1))]) hx hb dX11_dusk_130 hl (k := 7) rfl (zn_inc _) (by decide) rfl (fun ls hl => ?_)
                            refine lv_goto (tgt := 81) hx hb dX11_dusk_133 (by decide) ?_
                            refine ih_81 (i1 + 1) (sb jd) w1 u_107.2.2.1 4294967295 u_107.2.2.2.1 u_107.2.2.2.2.1 u_107.2.2.2.2.2.1 u_107.2.2.2.2.2.2.1 u_107.2.2.2.2.2.2.2 u_100.2.2.2.2.2 u_107.1 u_107.2.1 (by omega) (by omega) _ _ _ (by exact X) (by rw [show (zsum (zdusk τ (ρ.2 42 jd) (ρ.2 43 jd) jn xz jm) w1 + zsum (zduskI τ (ρ.2 42 jd) (ρ.2 43 jd) xz jm w1) i1) + (τ.2 5 w1) = zsum (zdusk τ (ρ.2 42 jd) (ρ.2 43 jd) jn xz jm) w1 + zsum (zduskI τ (ρ.2 42 jd) (ρ.2 43 jd) xz jm w1) (i1 + 1) by rw [zsum, zduskI_is hjm, if_pos (by omega), Nat.add_assoc]] at hl; exact lv_sub hl [2, 3, 4, 5, 6, 1, 7, 0] rfl)
                    refine cut_81 _ 0 r1 b4 b5 b6 b7 b8 b9 b10 b11 v1 F1 K1 (Nat.zero_le _) (Nat.lt_succ_self _) _ _ _ (by exact X) (by exact lv_sub hl [1, 2, 3, 4, 5, 6, 7, 0] rfl)
              refine cut_66 _ 0 r0 a4 a5 a6 a7 a8 a9 a10 a11 vv FM KM (Nat.zero_le _) (Nat.lt_succ_self _) _ _ _ (by exact X) (by exact lv_sub hl [3, 5, 6, 7, 2, 1, 0] rfl)
            ·
              refine lv_bipush (v := (-3)) hx hb dX11_dusk_57 (by decide) ?_
              replace X := sh_in (qs := [anP Z an wo La.1 x2 x3 x4 x5 x6 x7 x8 x9 hi sb (ρ.2 41), wkP Z (wo, La.1, tm.1, vq) r0 a4 a5 a6 a7 a8 a9 a10 a11 vv, landP Z La τ, thP Z tm FM KM]) hjd (shF_1 (show ρ.2 41 jd = 1 from q_31)) X
              exact cfin_I ((r0, a4, a5, a6, a7, a8, a9, a10, a11, vv, FM, KM)) (trivial) (rfl) (zduskC_s (zmnC_3 hjd (zsd_N hjn) q_31 c_54) (Or.inr (zir_N hjm (by decide)))) X dX11_dusk_59 fin
          · refine gq_n (by rw [shQ_j (by omega)]; exact shR_n q_31) ?_
            refine lv_astoreN (lv' := [(5, .null), (0, .ref an.1), (1, .int (nI jd)), (2, .int (nI jn)), (3, .int (nI xz)), (4, .int (nI jm))]) hx hb dX11_dusk_34 hl (by decide) rfl (fun ls hl => ?_)
            refine lv_aloadN hx hb dX11_dusk_36 (lv_at hl 0 rfl) ?_
            refine lv_ifnonnullN hx hb dX11_dusk_38 ?_
            refine lv_aload_n hx hb dX11_dusk_41 rfl (lv_at hl 1 rfl) ?_
            refine lv_iload_n hx hb dX11_dusk_42 rfl (lv_at hl 2 rfl) ?_
            refine dtI_go (w := wcat [anP Z an wo La.1 x2 x3 x4 x5 x6 x7 x8 x9 hi sb (ρ.2 41)]) (wf := wcat [wkP Z (wo, La.1, tm.1, vq) r0 a4 a5 a6 a7 a8 a9 a10 a11 vv, landP Z La τ, thP Z tm FM KM, shOn (shF Z sb sc ρ) 8]) (W1 := fun _ => wcat [anP Z an wo La.1 x2 x3 x4 x5 x6 x7 x8 x9 hi sb (ρ.2 41), wkP Z (wo, La.1, tm.1, vq) r0 a4 a5 a6 a7 a8 a9 a10 a11 vv, landP Z La τ, thP Z tm FM KM, shOn (shF Z sb sc ρ) 8]) G X (wsel [0, 1, 2, 3, 4] rfl rfl) (run_V (As := [.int (nI jd)]) (rest := []) (n := 1) G hml hts hl.1 (p_recv G X 0 0 rfl rfl rfl) (k11_lackOn hE (nI jd) _) (cwV 1 hts (cg_V ck_537 ck_542 ck_543 ck_544 ck_89) rfl rfl rfl (by decide +kernel) ⟨Nat.le_of_ble_eq_true rfl, Nat.le_of_ble_eq_true rfl⟩) rfl (Nat.le_of_ble_eq_true rfl) dX11_dusk_43 ⟨Nat.le_refl _, Nat.le_refl _⟩) (fun _ => wback [0, 1, 2, 3, 4] rfl rfl) (fun H locs _ _ X => ?_)
            exact cfin_I ((r0, a4, a5, a6, a7, a8, a9, a10, a11, vv, FM, KM)) (trivial) (rfl) (zduskC_s (zmnC_l hzs (zir_N hjd (by decide)) (zsd_N hjn) (fun q => q_31 ((congrArg (ρ.2 41) (nI_N (by omega))).symm.trans q.2))) (Or.inr (zir_N hjm (by decide)))) X dX11_dusk_46 fin
        ·
          refine lv_iconst (v := nI 4294967295) hx hb dX11_dusk_27 (by decide) ?_
          exact cfin_I ((r0, a4, a5, a6, a7, a8, a9, a10, a11, vv, FM, KM)) (trivial) (rfl) (by rw [nI_m1]; first | exact zduskC_s (zmnC_n (fun q => c_4 q.1)) (Or.inl rfl) | exact zduskC_s (zmnC_n (fun q => c_11 q.2)) (Or.inl rfl) | exact zduskC_n (zir_f1 c_16) | exact zduskC_n (zir_f3 (n := 9999) (by decide) c_24)) X dX11_dusk_28 fin
