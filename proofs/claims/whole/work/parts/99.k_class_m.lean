set_option maxHeartbeats 4000000 in
set_option maxRecDepth 100000 in
theorem k11_spentAfter {E : (Nat → Prop) → State → Heap → Prop} (hE : cEok E) {l : Launch} {D : va_G} {Z : Nat → ClassId} {an : Nat × Nat × Nat} {x2 x3 x5 x7 x9 hi : Nat} {sb sh : Nat → Nat} {wo vq r0 a4 a5 a6 a7 a8 a9 a10 a11 : Nat} {La : LA} {τ : MS} {tm : Nat × Nat × Nat} {FM KM vv : Nat → Nat} {ta tc : Nat × Nat × Nat} {F K F3 K3 : Nat → Nat} {rp : Nat} (xc : Nat) (xa : Nat) (hT : tOk τ) (hp28 : τ.1 28 = 4294967295) (hF : ∀ w, w < 5 → F w ≤ 100000000000) (hM3 : zM (τ.1 4) F3) (hc : xc < 8) (ha : xa < 5 ∨ xa = 4294967295) : dtL E l D Z yX11_spentAfter (Cond.code yX11_spentAfter cX11_spentAfter 9 (some .long) :: cW) { frames := 4, cells := 0, slots := 0, locals := 108 } [.ref an.1, .int (nI xc), .int (nI xa)] (wcat [anP Z an wo La.1 x2 x3 ta.1 x5 tc.1 x7 rp x9 hi sb sh, wkP Z (wo, La.1, tm.1, vq) r0 a4 a5 a6 a7 a8 a9 a10 a11 vv, landP Z La τ, thP Z tm FM KM, thP Z ta F K, thP Z tc F3 K3, ruP rp 0 0]) (S := (Nat × Nat × Nat × Nat × Nat × Nat × Nat × Nat × Nat × (Nat → Nat) × (Nat → Nat) × (Nat → Nat))) (fun u => wcat [anP Z an wo La.1 x2 x3 ta.1 x5 tc.1 x7 rp x9 hi sb sh, wkP Z (wo, La.1, tm.1, vq) u.1 u.2.1 u.2.2.1 u.2.2.2.1 u.2.2.2.2.1 u.2.2.2.2.2.1 u.2.2.2.2.2.2.1 u.2.2.2.2.2.2.2.1 u.2.2.2.2.2.2.2.2.1 u.2.2.2.2.2.2.2.2.2.1, landP Z La τ, thP Z tm u.2.2.2.2.2.2.2.2.2.2.1 u.2.2.2.2.2.2.2.2.2.2.2, thP Z ta F K, thP Z tc F3 K3, ruP rp 0 0]) (fun u => lN (zsum (zspS τ F F3 xc xa) (τ.1 4))) (fun _ => True) := by
  refine dtL_of hE (cc := cX11_spentAfter) (maxL := 9) (by decide +kernel) (fun w h => List.mem_cons_of_mem _ h) (Nat.le_of_ble_eq_true rfl) ?_
  intro p e s m args below meth c A Q ls hx hb hml hown hts G X hl fin
  replace hl : lv_has ls 9 [(0, .ref an.1), (1, .int (nI xc)), (2, .int (nI xa))] := hl
  obtain ⟨hok, hpl, hod, hrows, hnx, hsh6, hgl8⟩ := id hT
  obtain ⟨k0, k4, k8, kr, kw, ks, kmet, kmt, k12, k13⟩ := id hok
  have hp := zplc_lt hc ha
  refine lv_aload_n hx hb dX11_spentAfter_0 rfl (lv_at hl 0 rfl) ?_
  refine cg_11 G X 0 0 rfl rfl 1 (by decide) (G.2.2.2.1 _ ck_500) rfl rfl dX11_spentAfter_1 ?_
  refine cg_2 G X 2 0 rfl rfl 17 (by decide) (G.2.2.2.1 _ ck_581) rfl rfl dX11_spentAfter_4 ?_
  refine lv_iload_n hx hb dX11_spentAfter_7 rfl (lv_at hl 1 rfl) ?_
  refine lv_iload_n hx hb dX11_spentAfter_8 rfl (lv_at hl 2 rfl) ?_
  refine dtI_go (w := wcat []) (wf := wcat [anP Z an wo La.1 x2 x3 ta.1 x5 tc.1 x7 rp x9 hi sb sh, wkP Z (wo, La.1, tm.1, vq) r0 a4 a5 a6 a7 a8 a9 a10 a11 vv, landP Z La τ, thP Z tm FM KM, thP Z ta F K, thP Z tc F3 K3, ruP rp 0 0]) (W1 := fun _ => wcat [anP Z an wo La.1 x2 x3 ta.1 x5 tc.1 x7 rp x9 hi sb sh, wkP Z (wo, La.1, tm.1, vq) r0 a4 a5 a6 a7 a8 a9 a10 a11 vv, landP Z La τ, thP Z tm FM KM, thP Z ta F K, thP Z tc F3 K3, ruP rp 0 0]) G X (wsel [0, 1, 2, 3, 4, 5, 6] rfl rfl) (run_S (As := [.int (nI xc), .int (nI xa)]) (rest := [.ref (La.2.1 17)]) (n := 2) G hml hts hl.1 (k2_oddsPlace hE xc xa _) (va_cwS 2 hts (cg_S ck_109 ck_585 ck_125 ck_79) rfl rfl rfl (by decide +kernel) ⟨Nat.le_of_ble_eq_true rfl, Nat.le_of_ble_eq_true rfl⟩) rfl (Nat.le_of_ble_eq_true rfl) dX11_spentAfter_9 ⟨Nat.le_refl _, Nat.le_refl _⟩) (fun _ => wback [0, 1, 2, 3, 4, 5, 6] rfl rfl) (fun H locs _ _ X => ?_)
  refine gi_to (a := zplc xc xa) (zplc_nI xc xa) ?_
  refine cr_aald G X 2 13 rfl rfl (by omega) (by decide) (if_pos (by omega)) dX11_spentAfter_12 ?_
  refine lv_astore_n (lv' := [(3, .ref (La.2.2 17 (zplc xc xa))), (0, .ref an.1), (1, .int (nI xc)), (2, .int (nI xa))]) hx hb dX11_spentAfter_13 rfl hl (by decide) rfl (fun ls hl => ?_)
  refine lv_lconst (v := lN 0) hx hb dX11_spentAfter_14 (by decide) ?_
  refine lv_lstore (lv' := [(4, .long (lN 0)), (3, .ref (La.2.2 17 (zplc xc xa))), (0, .ref an.1), (1, .int (nI xc)), (2, .int (nI xa))]) hx hb dX11_spentAfter_15 hl (by decide) rfl (fun ls hl => ?_)
  refine lv_iconst (v := nI 0) hx hb dX11_spentAfter_17 (by decide) ?_
  refine lv_istore (lv' := [(6, .int (nI 0)), (4, .long (lN 0)), (3, .ref (La.2.2 17 (zplc xc xa))), (0, .ref an.1), (1, .int (nI xc)), (2, .int (nI xa))]) hx hb dX11_spentAfter_18 hl (by decide) rfl (fun ls hl => ?_)
  have cut_20 : ∀ (NN : Nat) (w1 : Nat) (r1 : Nat) (b4 : Nat) (b5 : Nat) (b6 : Nat) (b7 : Nat) (b8 : Nat) (b9 : Nat) (b10 : Nat) (b11 : Nat) (v1 : Nat → Nat) (F1 : Nat → Nat) (K1 : Nat → Nat) (h1 : w1 ≤ τ.1 4), τ.1 4 - w1 < NN → ∀ (H : Heap) (locs : List Loc) (ls : Array Slot), wH D vwCl A s.heap H locs (wcat [anP Z an wo La.1 x2 x3 ta.1 x5 tc.1 x7 rp x9 hi sb sh, wkP Z (wo, La.1, tm.1, vq) r1 b4 b5 b6 b7 b8 b9 b10 b11 v1, landP Z La τ, thP Z tm F1 K1, thP Z ta F K, thP Z tc F3 K3, ruP rp 0 0]) → lv_has ls 9 [(0, .ref an.1), (1, .int (nI xc)), (2, .int (nI xa)), (3, .ref (La.2.2 17 (zplc xc xa))), (4, .long (lN (zsum (zspS τ F F3 xc xa) w1))), (6, .int (nI w1))] → W p l e { frames := 4, cells := 0, slots := 0, locals := 108 } s m args below meth c H locs 0 0 Q (F0 m 20 ls []) := by
    intro NN
    induction NN with
    | zero => intro w1 r1 b4 b5 b6 b7 b8 b9 b10 b11 v1 F1 K1 h1 hNN; exact absurd hNN (Nat.not_lt_zero _)
    | succ NN ih_20 =>
      intro w1 r1 b4 b5 b6 b7 b8 b9 b10 b11 v1 F1 K1 h1 hNN H locs ls X hl
      refine lv_iload hx hb dX11_spentAfter_20 (lv_at hl 5 rfl) ?_
      refine lv_aload_n hx hb dX11_spentAfter_22 rfl (lv_at hl 0 rfl) ?_
      refine cg_11 G X 0 0 rfl rfl 1 (by decide) (G.2.2.2.1 _ ck_500) rfl rfl dX11_spentAfter_23 ?_
      refine cg_2 G X 2 0 rfl rfl 4 (by decide) (G.2.2.2.1 _ ck_612) rfl rfl dX11_spentAfter_26 ?_
      refine gn_icmp_ge (tgt := 100) hx hb dX11_spentAfter_29 (by decide) (by omega) (by omega) (fun c_29 => ?_) (fun c_29 => ?_)
      ·
        refine lv_lload hx hb dX11_spentAfter_100 (lv_at hl 4 rfl) ?_
        exact cfin_L ((r1, b4, b5, b6, b7, b8, b9, b10, b11, v1, F1, K1)) (trivial) (rfl) (by rw [show w1 = τ.1 4 by omega]) X dX11_spentAfter_102 fin
      ·
        refine lv_aload_n hx hb dX11_spentAfter_32 rfl (lv_at hl 0 rfl) ?_
        refine cg_11 G X 0 0 rfl rfl 4 (by decide) (G.2.2.2.1 _ ck_505) rfl rfl dX11_spentAfter_33 ?_
        refine cg_8 G X 4 0 rfl rfl 0 (by decide) (G.2.2.2.1 _ ck_606) rfl rfl dX11_spentAfter_36 ?_
        refine lv_iload hx hb dX11_spentAfter_39 (lv_at hl 5 rfl) ?_
        refine cr_lald G X 4 1 rfl rfl (by omega) (by decide) dX11_spentAfter_41 ?_
        refine gl_eq (a := (F w1)) (zcl_in (by omega)) ?_
        refine lv_aload_n hx hb dX11_spentAfter_42 rfl (lv_at hl 3 rfl) ?_
        refine lv_iload hx hb dX11_spentAfter_43 (lv_at hl 5 rfl) ?_
        refine cr_iald G X 2 (zplc xc xa + 32) rfl (landP_r17 (by omega)) (by omega) (by decide) dX11_spentAfter_45 ?_
        refine gi_eq (a := (τ.2 62 (5 * (zplc xc xa) + w1))) (zrow_in (by omega)) ?_
        have q3 := hod (5 * zplc xc xa + w1) (by omega)
        have q4 := hF w1 (by omega)
        have q5 := Nat.mul_le_mul q4 q3
        refine gn_i2l hx hb dX11_spentAfter_46 (by omega) ?_
        refine gn_lmul hx hb dX11_spentAfter_47  ?_
        refine lv_lstore (lv' := [(7, .long (lN ((F w1) * (τ.2 62 (5 * (zplc xc xa) + w1))))), (0, .ref an.1), (1, .int (nI xc)), (2, .int (nI xa)), (3, .ref (La.2.2 17 (zplc xc xa))), (4, .long (lN (zsum (zspS τ F F3 xc xa) w1))), (6, .int (nI w1))]) hx hb dX11_spentAfter_48 hl (by decide) rfl (fun ls hl => ?_)
        refine lv_lload hx hb dX11_spentAfter_50 (lv_at hl 0 rfl) ?_
        refine lv_lconst (v := lN 0) hx hb dX11_spentAfter_52 (by decide) ?_
        refine gn_lc_le (tgt := 94) hx hb dX11_spentAfter_53 dX11_spentAfter_54 (by decide) (by omega) (by omega) (fun c_53 => ?_) (fun c_53 => ?_)
        ·
          refine lv_iinc (v := nI (w1 + 1)) (lv' := [(6, .int (nI (w1 + 1))), (7, .long (lN ((F w1) * (τ.2 62 (5 * (zplc xc xa) + w1))))), (0, .ref an.1), (1, .int (nI xc)), (2, .int (nI xa)), (3, .ref (La.2.2 17 (zplc xc xa))), (4, .long (lN (zsum (zspS τ F F3 xc xa) w1)))]) hx hb dX11_spentAfter_94 hl (k := 6) rfl (zn_inc _) (by decide) rfl (fun ls hl => ?_)
          refine lv_goto (tgt := 20) hx hb dX11_spentAfter_97 (by decide) ?_
          refine ih_20 (w1 + 1) r1 b4 b5 b6 b7 b8 b9 b10 b11 v1 F1 K1 (by omega) (by omega) _ _ _ (by exact X) (by rw [← zspS_0 (by omega)] at hl; exact lv_sub hl [2, 3, 4, 5, 6, 0] rfl)
        ·
          refine lv_aload_n hx hb dX11_spentAfter_57 rfl (lv_at hl 1 rfl) ?_
          refine cg_11 G X 0 0 rfl rfl 0 (by decide) (G.2.2.2.1 _ ck_498) rfl rfl dX11_spentAfter_58 ?_
          refine lv_aload_n hx hb dX11_spentAfter_61 rfl (lv_at hl 1 rfl) ?_
          refine cg_11 G X 0 0 rfl rfl 8 (by decide) (G.2.2.2.1 _ ck_512) rfl rfl dX11_spentAfter_62 ?_
          refine lv_aload_n hx hb dX11_spentAfter_65 rfl (lv_at hl 1 rfl) ?_
          refine cg_11 G X 0 0 rfl rfl 6 (by decide) (G.2.2.2.1 _ ck_507) rfl rfl dX11_spentAfter_66 ?_
          refine lv_iload hx hb dX11_spentAfter_69 (lv_at hl 6 rfl) ?_
          refine lv_iload_n hx hb dX11_spentAfter_71 rfl (lv_at hl 2 rfl) ?_
          refine dtV_go (w := wcat [wkP Z (wo, La.1, tm.1, vq) r1 b4 b5 b6 b7 b8 b9 b10 b11 v1, landP Z La τ, thP Z tm F1 K1, ruP rp 0 0, thP Z tc F3 K3]) (wf := wcat [anP Z an wo La.1 x2 x3 ta.1 x5 tc.1 x7 rp x9 hi sb sh, thP Z ta F K]) (W1 := fun _ => wcat [anP Z an wo La.1 x2 x3 ta.1 x5 tc.1 x7 rp x9 hi sb sh, wkP Z (wo, La.1, tm.1, vq) rp w1 b5 4294967295 xc 0 0 0 0 v1, landP Z La τ, thP Z tm F3 K1, thP Z ta F K, thP Z tc F3 K3, ruP rp 0 0]) G X (wsel [1, 2, 3, 6, 5, 0, 4] rfl rfl) (run_V (As := [.ref rp, .ref tc.1, .int (nI w1), .int (nI xc)]) (rest := []) (n := 4) G hml hts hl.1 (p_recv G X 1 0 rfl rfl rfl) (k10_setOutByMind hE w1 xc _) (cwV 4 hts (cg_V ck_361 ck_624 ck_625 ck_626 ck_365) rfl rfl rfl (by decide +kernel) ⟨Nat.le_of_ble_eq_true rfl, Nat.le_of_ble_eq_true rfl⟩) rfl (Nat.le_of_ble_eq_true rfl) dX11_spentAfter_72 ⟨Nat.le_refl _, Nat.le_refl _⟩) (fun _ => wback [1, 2, 3, 6, 5, 0, 4] rfl rfl) (fun H locs _ _ X => ?_)
          refine lv_lload hx hb dX11_spentAfter_75 (lv_at hl 5 rfl) ?_
          refine lv_lload hx hb dX11_spentAfter_77 (lv_at hl 0 rfl) ?_
          refine lv_aload_n hx hb dX11_spentAfter_79 rfl (lv_at hl 1 rfl) ?_
          refine cg_11 G X 0 0 rfl rfl 0 (by decide) (G.2.2.2.1 _ ck_498) rfl rfl dX11_spentAfter_80 ?_
          refine dtI_go (w := wcat [wkP Z (wo, La.1, tm.1, vq) rp w1 b5 4294967295 xc 0 0 0 0 v1, landP Z La τ, thP Z tm F3 K1, ruP rp 0 0]) (wf := wcat [anP Z an wo La.1 x2 x3 ta.1 x5 tc.1 x7 rp x9 hi sb sh, thP Z ta F K, thP Z tc F3 K3]) (W1 := fun u_83 => wcat [anP Z an wo La.1 x2 x3 ta.1 x5 tc.1 x7 rp x9 hi sb sh, wkP Z (wo, La.1, tm.1, vq) rp w1 u_83.2.2.1 4294967295 u_83.2.2.2.1 u_83.2.2.2.2.1 u_83.2.2.2.2.2.1 u_83.2.2.2.2.2.2.1 u_83.2.2.2.2.2.2.2 v1, landP Z La τ, thP Z tm u_83.1 u_83.2.1, thP Z ta F K, thP Z tc F3 K3, ruP rp 0 0]) G X (wsel [1, 2, 3, 6, 0, 4, 5] rfl rfl) (run_V (As := []) (rest := [.long (lN ((F w1) * (τ.2 62 (5 * (zplc xc xa) + w1)))), .long (lN (zsum (zspS τ F F3 xc xa) w1))]) (n := 0) G hml hts hl.1 (p_recv G X 1 0 rfl rfl rfl) (k10_minutesThere hE (yr := 0) (yg := 0) hT (by omega) (by omega) (⟨hp28.symm, by decide⟩) hM3 (by decide) (by decide) _) (cwV 0 hts (cg_V ck_494 ck_627 ck_628 ck_629 ck_365) rfl rfl rfl (by decide +kernel) ⟨Nat.le_of_ble_eq_true rfl, Nat.le_of_ble_eq_true rfl⟩) rfl (Nat.le_of_ble_eq_true rfl) dX11_spentAfter_83 ⟨Nat.le_refl _, Nat.le_refl _⟩) (fun u_83 => wback [1, 2, 3, 6, 0, 4, 5] rfl rfl) (fun H locs u_83 hu_83 X => ?_)
          refine gi_eq (a := zmnN (zwalk τ w1 xc 4294967295 0 F3 0)) (congrArg zmnN zmw_is) ?_
          refine dtI_go (w := wcat []) (wf := wcat [anP Z an wo La.1 x2 x3 ta.1 x5 tc.1 x7 rp x9 hi sb sh, wkP Z (wo, La.1, tm.1, vq) rp w1 u_83.2.2.1 4294967295 u_83.2.2.2.1 u_83.2.2.2.2.1 u_83.2.2.2.2.2.1 u_83.2.2.2.2.2.2.1 u_83.2.2.2.2.2.2.2 v1, landP Z La τ, thP Z tm u_83.1 u_83.2.1, thP Z ta F K, thP Z tc F3 K3, ruP rp 0 0]) (W1 := fun _ => wcat [anP Z an wo La.1 x2 x3 ta.1 x5 tc.1 x7 rp x9 hi sb sh, wkP Z (wo, La.1, tm.1, vq) rp w1 u_83.2.2.1 4294967295 u_83.2.2.2.1 u_83.2.2.2.2.1 u_83.2.2.2.2.2.1 u_83.2.2.2.2.2.2.1 u_83.2.2.2.2.2.2.2 v1, landP Z La τ, thP Z tm u_83.1 u_83.2.1, thP Z ta F K, thP Z tc F3 K3, ruP rp 0 0]) G X (wsel [0, 1, 2, 3, 4, 5, 6] rfl rfl) (run_S (As := [.int (nI (zmnN (zwalk τ w1 xc 4294967295 0 F3 0)))]) (rest := [.long (lN ((F w1) * (τ.2 62 (5 * (zplc xc xa) + w1)))), .long (lN (zsum (zspS τ F F3 xc xa) w1))]) (n := 1) G hml hts hl.1 (k11_inSums hE (zmnN (zwalk τ w1 xc 4294967295 0 F3 0)) (Nat.lt_of_le_of_lt (zmnN_lt hok (by decide)) (by decide)) _) (va_cwS 1 hts (cg_S ck_631 ck_633 ck_634 ck_89) rfl rfl rfl (by decide +kernel) ⟨Nat.le_of_ble_eq_true rfl, Nat.le_of_ble_eq_true rfl⟩) rfl (Nat.le_of_ble_eq_true rfl) dX11_spentAfter_86 ⟨Nat.le_refl _, Nat.le_refl _⟩) (fun _ => wback [0, 1, 2, 3, 4, 5, 6] rfl rfl) (fun H locs _ _ X => ?_)
          refine gi_eq (a := zin (zwalk τ w1 xc 4294967295 0 F3 0)) (zin_is hok (by decide)) ?_
          refine gn_i2l hx hb dX11_spentAfter_89 (by have q9 := zin_le hok (w := w1) (c := xc) (rule := 4294967295) (fig := 0) (z := 0) (m := F3) (by decide); omega) ?_
          refine gn_lmul hx hb dX11_spentAfter_90  ?_
          refine gn_ladd hx hb dX11_spentAfter_91  ?_
          refine lv_lstore (lv' := [(4, .long (lN ((zsum (zspS τ F F3 xc xa) w1) + (((F w1) * (τ.2 62 (5 * (zplc xc xa) + w1))) * (zin (zwalk τ w1 xc 4294967295 0 F3 0)))))), (7, .long (lN ((F w1) * (τ.2 62 (5 * (zplc xc xa) + w1))))), (0, .ref an.1), (1, .int (nI xc)), (2, .int (nI xa)), (3, .ref (La.2.2 17 (zplc xc xa))), (6, .int (nI w1))]) hx hb dX11_spentAfter_92 hl (by decide) rfl (fun ls hl => ?_)
          refine lv_iinc (v := nI (w1 + 1)) (lv' := [(6, .int (nI (w1 + 1))), (4, .long (lN ((zsum (zspS τ F F3 xc xa) w1) + (((F w1) * (τ.2 62 (5 * (zplc xc xa) + w1))) * (zin (zwalk τ w1 xc 4294967295 0 F3 0)))))), (7, .long (lN ((F w1) * (τ.2 62 (5 * (zplc xc xa) + w1))))), (0, .ref an.1), (1, .int (nI xc)), (2, .int (nI xa)), (3, .ref (La.2.2 17 (zplc xc xa)))]) hx hb dX11_spentAfter_94 hl (k := 6) rfl (zn_inc _) (by decide) rfl (fun ls hl => ?_)
          refine lv_goto (tgt := 20) hx hb dX11_spentAfter_97 (by decide) ?_
          refine ih_20 (w1 + 1) rp w1 u_83.2.2.1 4294967295 u_83.2.2.2.1 u_83.2.2.2.2.1 u_83.2.2.2.2.2.1 u_83.2.2.2.2.2.2.1 u_83.2.2.2.2.2.2.2 v1 u_83.1 u_83.2.1 (by omega) (by omega) _ _ _ (by exact X) (by exact lv_sub hl [3, 4, 5, 6, 1, 0] rfl)
  refine cut_20 _ 0 r0 a4 a5 a6 a7 a8 a9 a10 a11 vv FM KM (Nat.zero_le _) (Nat.lt_succ_self _) _ _ _ (by exact X) (by exact lv_sub hl [3, 4, 5, 2, 1, 0] rfl)
set_option maxHeartbeats 4000000 in
set_option maxRecDepth 100000 in
theorem k11_gainAt {E : (Nat → Prop) → State → Heap → Prop} (hE : cEok E) {l : Launch} {D : va_G} {Z : Nat → ClassId} {an : Nat × Nat × Nat} {x2 x3 x5 x7 x9 hi : Nat} {sb sh : Nat → Nat} {wo vq r0 a4 a5 a6 a7 a8 a9 a10 a11 : Nat} {La : LA} {τ : MS} {tm : Nat × Nat × Nat} {FM KM vv : Nat → Nat} {ta tc : Nat × Nat × Nat} {F K F3 K3 : Nat → Nat} {rp : Nat} (xc : Nat) (hT : tOk τ) (hp28 : τ.1 28 = 4294967295) (hMF : zM (τ.1 4) F) (hc : xc < 8) : dtL E l D Z yX11_gainAt (Cond.code yX11_gainAt cX11_gainAt 5 (some .long) :: cW) { frames := 5, cells := 0, slots := 0, locals := 136 } [.ref an.1, .int (nI xc)] (wcat [anP Z an wo La.1 x2 x3 ta.1 x5 tc.1 x7 rp x9 hi sb sh, wkP Z (wo, La.1, tm.1, vq) r0 a4 a5 a6 a7 a8 a9 a10 a11 vv, landP Z La τ, thP Z tm FM KM, thP Z ta F K, thP Z tc F3 K3, ruP rp 0 0]) (S := ((Nat × Nat × Nat × Nat × Nat × Nat × Nat × Nat × Nat × (Nat → Nat) × (Nat → Nat) × (Nat → Nat)) × (Nat → Nat) × (Nat → Nat))) (fun u => wcat [anP Z an wo La.1 x2 x3 ta.1 x5 tc.1 x7 rp x9 hi sb sh, wkP Z (wo, La.1, tm.1, vq) u.1.1 u.1.2.1 u.1.2.2.1 u.1.2.2.2.1 u.1.2.2.2.2.1 u.1.2.2.2.2.2.1 u.1.2.2.2.2.2.2.1 u.1.2.2.2.2.2.2.2.1 u.1.2.2.2.2.2.2.2.2.1 u.1.2.2.2.2.2.2.2.2.2.1, landP Z La τ, thP Z tm u.1.2.2.2.2.2.2.2.2.2.2.1 u.1.2.2.2.2.2.2.2.2.2.2.2, thP Z ta F K, thP Z tc u.2.1 u.2.2, ruP rp 0 0]) (fun u => zga τ F xc (τ.1 4 + 1)) (fun _ => True) := by
  refine dtL_of hE (cc := cX11_gainAt) (maxL := 5) (by decide +kernel) (fun w h => List.mem_cons_of_mem _ h) (Nat.le_of_ble_eq_true rfl) ?_
  intro p e s m args below meth c A Q ls hx hb hml hown hts G X hl fin
  replace hl : lv_has ls 5 [(0, .ref an.1), (1, .int (nI xc))] := hl
  obtain ⟨hok, hpl, hod, hrows, hnx, hsh6, hgl8⟩ := id hT
  obtain ⟨k0, k4, k8, kr, kw, ks, kmet, kmt, k12, k13⟩ := id hok
  refine lv_lconst (v := lN 0) hx hb dX11_gainAt_0 (by decide) ?_
  refine lv_lstore_n (lv' := [(2, .long (lN 0)), (0, .ref an.1), (1, .int (nI xc))]) hx hb dX11_gainAt_1 rfl hl (by decide) rfl (fun ls hl => ?_)
  refine lv_iconst (v := nI 0) hx hb dX11_gainAt_2 (by decide) ?_
  refine lv_istore (lv' := [(4, .int (nI 0)), (2, .long (lN 0)), (0, .ref an.1), (1, .int (nI xc))]) hx hb dX11_gainAt_3 hl (by decide) rfl (fun ls hl => ?_)
  have cut_5 : ∀ (NN : Nat) (w1 : Nat) (r1 : Nat) (b4 : Nat) (b5 : Nat) (b6 : Nat) (b7 : Nat) (b8 : Nat) (b9 : Nat) (b10 : Nat) (b11 : Nat) (v1 : Nat → Nat) (F1 : Nat → Nat) (K1 : Nat → Nat) (h1 : w1 ≤ τ.1 4), τ.1 4 - w1 < NN → ∀ (H : Heap) (locs : List Loc) (ls : Array Slot), wH D vwCl A s.heap H locs (wcat [anP Z an wo La.1 x2 x3 ta.1 x5 tc.1 x7 rp x9 hi sb sh, wkP Z (wo, La.1, tm.1, vq) r1 b4 b5 b6 b7 b8 b9 b10 b11 v1, landP Z La τ, thP Z tm F1 K1, thP Z ta F K, thP Z tc F3 K3, ruP rp 0 0]) → lv_has ls 5 [(0, .ref an.1), (1, .int (nI xc)), (2, .long (lN (zsum (zgnS τ F xc) w1))), (4, .int (nI w1))] → W p l e { frames := 5, cells := 0, slots := 0, locals := 136 } s m args below meth c H locs 0 0 Q (F0 m 5 ls []) := by
    intro NN
    induction NN with
    | zero => intro w1 r1 b4 b5 b6 b7 b8 b9 b10 b11 v1 F1 K1 h1 hNN; exact absurd hNN (Nat.not_lt_zero _)
    | succ NN ih_5 =>
      intro w1 r1 b4 b5 b6 b7 b8 b9 b10 b11 v1 F1 K1 h1 hNN H locs ls X hl
      refine lv_iload hx hb dX11_gainAt_5 (lv_at hl 3 rfl) ?_
      refine lv_aload_n hx hb dX11_gainAt_7 rfl (lv_at hl 0 rfl) ?_
      refine cg_11 G X 0 0 rfl rfl 1 (by decide) (G.2.2.2.1 _ ck_500) rfl rfl dX11_gainAt_8 ?_
      refine cg_2 G X 2 0 rfl rfl 4 (by decide) (G.2.2.2.1 _ ck_612) rfl rfl dX11_gainAt_11 ?_
      refine gn_icmp_ge (tgt := 70) hx hb dX11_gainAt_14 (by decide) (by omega) (by omega) (fun c_14 => ?_) (fun c_14 => ?_)
      ·
        refine lv_iconst (v := nI 4294967295) hx hb dX11_gainAt_70 (by decide) ?_
        refine lv_istore (lv' := [(4, .int (nI 4294967295)), (0, .ref an.1), (1, .int (nI xc)), (2, .long (lN (zsum (zgnS τ F xc) w1)))]) hx hb dX11_gainAt_71 hl (by decide) rfl (fun ls hl => ?_)
        have cut_73 : ∀ (NN : Nat) (j1 : Nat) (r1 : Nat) (b4 : Nat) (b5 : Nat) (b6 : Nat) (b7 : Nat) (b8 : Nat) (b9 : Nat) (b10 : Nat) (b11 : Nat) (v1 : Nat → Nat) (F1 : Nat → Nat) (K1 : Nat → Nat) (F4 : Nat → Nat) (K4 : Nat → Nat) (hj : j1 ≤ τ.1 4 + 1), τ.1 4 + 1 - j1 < NN → ∀ (H : Heap) (locs : List Loc) (ls : Array Slot), wH D vwCl A s.heap H locs (wcat [anP Z an wo La.1 x2 x3 ta.1 x5 tc.1 x7 rp x9 hi sb sh, wkP Z (wo, La.1, tm.1, vq) r1 b4 b5 b6 b7 b8 b9 b10 b11 v1, landP Z La τ, thP Z tm F1 K1, thP Z ta F K, thP Z tc F4 K4, ruP rp 0 0]) → lv_has ls 5 [(0, .ref an.1), (1, .int (nI xc)), (2, .long (zga τ F xc j1)), (4, .int (nI (zac j1)))] → W p l e { frames := 5, cells := 0, slots := 0, locals := 136 } s m args below meth c H locs 0 0 Q (F0 m 73 ls []) := by
          intro NN
          induction NN with
          | zero => intro j1 r1 b4 b5 b6 b7 b8 b9 b10 b11 v1 F1 K1 F4 K4 hj hNN; exact absurd hNN (Nat.not_lt_zero _)
          | succ NN ih_73 =>
            intro j1 r1 b4 b5 b6 b7 b8 b9 b10 b11 v1 F1 K1 F4 K4 hj hNN H locs ls X hl
            refine lv_iload hx hb dX11_gainAt_73 (lv_at hl 3 rfl) ?_
            refine lv_aload_n hx hb dX11_gainAt_75 rfl (lv_at hl 0 rfl) ?_
            refine cg_11 G X 0 0 rfl rfl 1 (by decide) (G.2.2.2.1 _ ck_500) rfl rfl dX11_gainAt_76 ?_
            refine cg_2 G X 2 0 rfl rfl 4 (by decide) (G.2.2.2.1 _ ck_612) rfl rfl dX11_gainAt_79 ?_
            refine lv_icmp_ge (tgt := 136) hx hb dX11_gainAt_82 (by decide) (fun c_82 => ?_) (fun c_82 => ?_)
            ·
              rw [zac_ge (by omega) (by omega)] at c_82
              refine lv_lload_n hx hb dX11_gainAt_136 rfl (lv_at hl 2 rfl) ?_
              exact cfin_L (((r1, b4, b5, b6, b7, b8, b9, b10, b11, v1, F1, K1), F4, K4)) (trivial) (rfl) (by rw [show j1 = τ.1 4 + 1 by omega]) X dX11_gainAt_137 fin
            ·
              rw [zac_ge (by omega) (by omega)] at c_82
              have hza : zac j1 < 5 ∨ zac j1 = 4294967295 := zac_or (by omega)
              refine lv_aload_n hx hb dX11_gainAt_85 rfl (lv_at hl 0 rfl) ?_
              refine cg_11 G X 0 0 rfl rfl 6 (by decide) (G.2.2.2.1 _ ck_507) rfl rfl dX11_gainAt_86 ?_
              refine lv_aload_n hx hb dX11_gainAt_89 rfl (lv_at hl 0 rfl) ?_
              refine cg_11 G X 0 0 rfl rfl 4 (by decide) (G.2.2.2.1 _ ck_505) rfl rfl dX11_gainAt_90 ?_
              refine dtV_go (w := wcat [thP Z tc F4 K4, thP Z ta F K]) (wf := wcat [anP Z an wo La.1 x2 x3 ta.1 x5 tc.1 x7 rp x9 hi sb sh, wkP Z (wo, La.1, tm.1, vq) r1 b4 b5 b6 b7 b8 b9 b10 b11 v1, landP Z La τ, thP Z tm F1 K1, ruP rp 0 0]) (W1 := fun _ => wcat [anP Z an wo La.1 x2 x3 ta.1 x5 tc.1 x7 rp x9 hi sb sh, wkP Z (wo, La.1, tm.1, vq) r1 b4 b5 b6 b7 b8 b9 b10 b11 v1, landP Z La τ, thP Z tm F1 K1, thP Z ta F K, thP Z tc F K4, ruP rp 0 0]) G X (wsel [5, 4, 0, 1, 2, 3, 6] rfl rfl) (run_V (As := [.ref ta.1]) (rest := []) (n := 1) G hml hts hl.1 (p_recv G X 5 0 rfl rfl rfl) (k8_becomeLike hE  _) (cwV 1 hts (cg_V ck_299 ck_637 ck_367 ck_368 ck_35) rfl rfl rfl (by decide +kernel) ⟨Nat.le_of_ble_eq_true rfl, Nat.le_of_ble_eq_true rfl⟩) rfl (Nat.le_of_ble_eq_true rfl) dX11_gainAt_93 ⟨Nat.le_refl _, Nat.le_refl _⟩) (fun _ => wback [5, 4, 0, 1, 2, 3, 6] rfl rfl) (fun H locs _ _ X => ?_)
              refine lv_aload_n hx hb dX11_gainAt_96 rfl (lv_at hl 0 rfl) ?_
              refine cg_11 G X 0 0 rfl rfl 6 (by decide) (G.2.2.2.1 _ ck_507) rfl rfl dX11_gainAt_97 ?_
              refine lv_aload_n hx hb dX11_gainAt_100 rfl (lv_at hl 0 rfl) ?_
              refine cg_11 G X 0 0 rfl rfl 1 (by decide) (G.2.2.2.1 _ ck_500) rfl rfl dX11_gainAt_101 ?_
              refine lv_iload_n hx hb dX11_gainAt_104 rfl (lv_at hl 1 rfl) ?_
              refine lv_iload hx hb dX11_gainAt_105 (lv_at hl 3 rfl) ?_
              refine dtV_go (w := wcat [thP Z tc F K4, landP Z La τ]) (wf := wcat [anP Z an wo La.1 x2 x3 ta.1 x5 tc.1 x7 rp x9 hi sb sh, wkP Z (wo, La.1, tm.1, vq) r1 b4 b5 b6 b7 b8 b9 b10 b11 v1, thP Z tm F1 K1, thP Z ta F K, ruP rp 0 0]) (W1 := fun _ => wcat [anP Z an wo La.1 x2 x3 ta.1 x5 tc.1 x7 rp x9 hi sb sh, wkP Z (wo, La.1, tm.1, vq) r1 b4 b5 b6 b7 b8 b9 b10 b11 v1, landP Z La τ, thP Z tm F1 K1, thP Z ta F K, thP Z tc F (zhe5 τ F (zplc xc (zac j1))), ruP rp 0 0]) G X (wsel [5, 2, 0, 1, 3, 4, 6] rfl rfl) (run_V (As := [.ref La.1, .int (nI xc), .int (nI (zac j1))]) (rest := []) (n := 3) G hml hts hl.1 (p_recv G X 5 0 rfl rfl rfl) (k8_hear hE xc (zac j1) hod (by omega) hza _) (cwV 3 hts (cg_V ck_304 ck_593 ck_449 ck_450 ck_35) rfl rfl rfl (by decide +kernel) ⟨Nat.le_of_ble_eq_true rfl, Nat.le_of_ble_eq_true rfl⟩) rfl (Nat.le_of_ble_eq_true rfl) dX11_gainAt_107 ⟨Nat.le_refl _, Nat.le_refl _⟩) (fun _ => wback [5, 2, 0, 1, 3, 4, 6] rfl rfl) (fun H locs _ _ X => ?_)
              refine lv_aload_n hx hb dX11_gainAt_110 rfl (lv_at hl 0 rfl) ?_
              refine cg_11 G X 0 0 rfl rfl 6 (by decide) (G.2.2.2.1 _ ck_507) rfl rfl dX11_gainAt_111 ?_
              refine dtI_go (w := wcat [thP Z tc F (zhe5 τ F (zplc xc (zac j1)))]) (wf := wcat [anP Z an wo La.1 x2 x3 ta.1 x5 tc.1 x7 rp x9 hi sb sh, wkP Z (wo, La.1, tm.1, vq) r1 b4 b5 b6 b7 b8 b9 b10 b11 v1, landP Z La τ, thP Z tm F1 K1, thP Z ta F K, ruP rp 0 0]) (W1 := fun _ => wcat [anP Z an wo La.1 x2 x3 ta.1 x5 tc.1 x7 rp x9 hi sb sh, wkP Z (wo, La.1, tm.1, vq) r1 b4 b5 b6 b7 b8 b9 b10 b11 v1, landP Z La τ, thP Z tm F1 K1, thP Z ta F K, thP Z tc (if zgall (zhe5 τ F (zplc xc (zac j1))) 5 = 0 then F else zset 5 (zhe5 τ F (zplc xc (zac j1)))) (zhe5 τ F (zplc xc (zac j1))), ruP rp 0 0]) G X (wsel [5, 0, 1, 2, 3, 4, 6] rfl rfl) (run_V (As := []) (rest := []) (n := 0) G hml hts hl.1 (p_recv G X 5 0 rfl rfl rfl) (k8_settles hE (zhe5_lt hod hMF.1 (zplc_lt hc hza)) _) (cwV 0 hts (cg_V ck_317 ck_591 ck_420 ck_421 ck_35) rfl rfl rfl (by decide +kernel) ⟨Nat.le_of_ble_eq_true rfl, Nat.le_of_ble_eq_true rfl⟩) rfl (Nat.le_of_ble_eq_true rfl) dX11_gainAt_114 ⟨Nat.le_refl _, Nat.le_refl _⟩) (fun _ => wback [5, 0, 1, 2, 3, 4, 6] rfl rfl) (fun H locs _ _ X => ?_)
              refine gb_if_eq (tgt := 130) hx hb dX11_gainAt_117 (by decide) (fun c_117 => ?_) (fun c_117 => ?_)
              ·
                refine lv_iinc (v := nI ((zac j1) + 1)) (lv' := [(4, .int (nI ((zac j1) + 1))), (0, .ref an.1), (1, .int (nI xc)), (2, .long (zga τ F xc j1))]) hx hb dX11_gainAt_130 hl (k := 3) rfl (zn_inc _) (by decide) rfl (fun ls hl => ?_)
                refine lv_goto (tgt := 73) hx hb dX11_gainAt_133 (by decide) ?_
                refine ih_73 (j1 + 1) r1 b4 b5 b6 b7 b8 b9 b10 b11 v1 F1 K1 (if zgall (zhe5 τ F (zplc xc (zac j1))) 5 = 0 then F else zset 5 (zhe5 τ F (zplc xc (zac j1)))) (zhe5 τ F (zplc xc (zac j1))) (by omega) (by omega) _ _ _ (by exact X) (by rw [show zga τ F xc j1 = zga τ F xc (j1 + 1) from (zga_n (Classical.not_not.mp c_117)).symm, zac_inc] at hl; exact lv_sub hl [1, 2, 3, 0] rfl)
              ·
                replace X := wx_eq (congrArg (fun z => wcat [anP Z an wo La.1 x2 x3 ta.1 x5 tc.1 x7 rp x9 hi sb sh, wkP Z (wo, La.1, tm.1, vq) r1 b4 b5 b6 b7 b8 b9 b10 b11 v1, landP Z La τ, thP Z tm F1 K1, thP Z ta F K, thP Z tc z (zhe5 τ F (zplc xc (zac j1))), ruP rp 0 0]) (if_neg c_117)) X
                have hM3 : zM (τ.1 4) (zset 5 (zhe5 τ F (zplc xc (zac j1)))) := zgaH_M hod hMF k4 (zplc_lt hc (zac_or (by omega)))
                refine lv_lload_n hx hb dX11_gainAt_120 rfl (lv_at hl 2 rfl) ?_
                refine lv_aload_n hx hb dX11_gainAt_121 rfl (lv_at hl 0 rfl) ?_
                refine lv_iload_n hx hb dX11_gainAt_122 rfl (lv_at hl 1 rfl) ?_
                refine lv_iload hx hb dX11_gainAt_123 (lv_at hl 3 rfl) ?_
                refine dtL_go (w := wcat [anP Z an wo La.1 x2 x3 ta.1 x5 tc.1 x7 rp x9 hi sb sh, wkP Z (wo, La.1, tm.1, vq) r1 b4 b5 b6 b7 b8 b9 b10 b11 v1, landP Z La τ, thP Z tm F1 K1, thP Z ta F K, thP Z tc (zset 5 (zhe5 τ F (zplc xc (zac j1)))) (zhe5 τ F (zplc xc (zac j1))), ruP rp 0 0]) (wf := wcat []) (W1 := fun u_125 => wcat [anP Z an wo La.1 x2 x3 ta.1 x5 tc.1 x7 rp x9 hi sb sh, wkP Z (wo, La.1, tm.1, vq) u_125.1 u_125.2.1 u_125.2.2.1 u_125.2.2.2.1 u_125.2.2.2.2.1 u_125.2.2.2.2.2.1 u_125.2.2.2.2.2.2.1 u_125.2.2.2.2.2.2.2.1 u_125.2.2.2.2.2.2.2.2.1 u_125.2.2.2.2.2.2.2.2.2.1, landP Z La τ, thP Z tm u_125.2.2.2.2.2.2.2.2.2.2.1 u_125.2.2.2.2.2.2.2.2.2.2.2, thP Z ta F K, thP Z tc (zset 5 (zhe5 τ F (zplc xc (zac j1)))) (zhe5 τ F (zplc xc (zac j1))), ruP rp 0 0]) G X (wsel [0, 1, 2, 3, 4, 5, 6] rfl rfl) (run_V (As := [.int (nI xc), .int (nI (zac j1))]) (rest := [.long (zga τ F xc j1)]) (n := 2) G hml hts hl.1 (p_recv G X 0 0 rfl rfl rfl) (k11_spentAfter hE xc (zac j1) hT hp28 hMF.1 hM3 (by omega) hza _) (cwV 2 hts (cg_V ck_635 ck_638 ck_639 ck_640 ck_89) rfl rfl rfl (by decide +kernel) ⟨Nat.le_of_ble_eq_true rfl, Nat.le_of_ble_eq_true rfl⟩) rfl (Nat.le_of_ble_eq_true rfl) dX11_gainAt_125 ⟨Nat.le_refl _, Nat.le_refl _⟩) (fun u_125 => wback [0, 1, 2, 3, 4, 5, 6] rfl rfl) (fun H locs u_125 hu_125 X => ?_)
                refine lv_lsub hx hb dX11_gainAt_128 ?_
                refine lv_lstore_n (lv' := [(2, .long ((zga τ F xc j1) - lN (zsum (zspS τ F (zset 5 (zhe5 τ F (zplc xc (zac j1)))) xc (zac j1)) (τ.1 4)))), (0, .ref an.1), (1, .int (nI xc)), (4, .int (nI (zac j1)))]) hx hb dX11_gainAt_129 rfl hl (by decide) rfl (fun ls hl => ?_)
                refine lv_iinc (v := nI ((zac j1) + 1)) (lv' := [(4, .int (nI ((zac j1) + 1))), (2, .long ((zga τ F xc j1) - lN (zsum (zspS τ F (zset 5 (zhe5 τ F (zplc xc (zac j1)))) xc (zac j1)) (τ.1 4)))), (0, .ref an.1), (1, .int (nI xc))]) hx hb dX11_gainAt_130 hl (k := 3) rfl (zn_inc _) (by decide) rfl (fun ls hl => ?_)
                refine lv_goto (tgt := 73) hx hb dX11_gainAt_133 (by decide) ?_
                refine ih_73 (j1 + 1) u_125.1 u_125.2.1 u_125.2.2.1 u_125.2.2.2.1 u_125.2.2.2.2.1 u_125.2.2.2.2.2.1 u_125.2.2.2.2.2.2.1 u_125.2.2.2.2.2.2.2.1 u_125.2.2.2.2.2.2.2.2.1 u_125.2.2.2.2.2.2.2.2.2.1 u_125.2.2.2.2.2.2.2.2.2.2.1 u_125.2.2.2.2.2.2.2.2.2.2.2 (zset 5 (zhe5 τ F (zplc xc (zac j1)))) (zhe5 τ F (zplc xc (zac j1))) (by omega) (by omega) _ _ _ (by exact X) (by rw [show (zga τ F xc j1) - lN (zsum (zspS τ F (zset 5 (zhe5 τ F (zplc xc (zac j1)))) xc (zac j1)) (τ.1 4)) = zga τ F xc (j1 + 1) from (zga_y c_117).symm, zac_inc] at hl; exact lv_sub hl [2, 3, 1, 0] rfl)
        refine cut_73 _ 0 r1 b4 b5 b6 b7 b8 b9 b10 b11 v1 F1 K1 F3 K3 (Nat.zero_le _) (Nat.lt_succ_self _) _ _ _ (by exact X) (by rw [show w1 = τ.1 4 by omega] at hl; exact lv_sub hl [1, 2, 3, 0] rfl)
      ·
        refine lv_aload_n hx hb dX11_gainAt_17 rfl (lv_at hl 0 rfl) ?_
        refine cg_11 G X 0 0 rfl rfl 0 (by decide) (G.2.2.2.1 _ ck_498) rfl rfl dX11_gainAt_18 ?_
        refine lv_aload_n hx hb dX11_gainAt_21 rfl (lv_at hl 0 rfl) ?_
        refine cg_11 G X 0 0 rfl rfl 8 (by decide) (G.2.2.2.1 _ ck_512) rfl rfl dX11_gainAt_22 ?_
        refine lv_aload_n hx hb dX11_gainAt_25 rfl (lv_at hl 0 rfl) ?_
        refine cg_11 G X 0 0 rfl rfl 4 (by decide) (G.2.2.2.1 _ ck_505) rfl rfl dX11_gainAt_26 ?_
        refine lv_iload hx hb dX11_gainAt_29 (lv_at hl 3 rfl) ?_
        refine lv_iload_n hx hb dX11_gainAt_31 rfl (lv_at hl 1 rfl) ?_
        refine dtV_go (w := wcat [wkP Z (wo, La.1, tm.1, vq) r1 b4 b5 b6 b7 b8 b9 b10 b11 v1, landP Z La τ, thP Z tm F1 K1, ruP rp 0 0, thP Z ta F K]) (wf := wcat [anP Z an wo La.1 x2 x3 ta.1 x5 tc.1 x7 rp x9 hi sb sh, thP Z tc F3 K3]) (W1 := fun _ => wcat [anP Z an wo La.1 x2 x3 ta.1 x5 tc.1 x7 rp x9 hi sb sh, wkP Z (wo, La.1, tm.1, vq) rp w1 b5 4294967295 xc 0 0 0 0 v1, landP Z La τ, thP Z tm F K1, thP Z ta F K, thP Z tc F3 K3, ruP rp 0 0]) G X (wsel [1, 2, 3, 6, 4, 0, 5] rfl rfl) (run_V (As := [.ref rp, .ref ta.1, .int (nI w1), .int (nI xc)]) (rest := []) (n := 4) G hml hts hl.1 (p_recv G X 1 0 rfl rfl rfl) (k10_setOutByMind hE w1 xc _) (cwV 4 hts (cg_V ck_361 ck_624 ck_625 ck_626 ck_365) rfl rfl rfl (by decide +kernel) ⟨Nat.le_of_ble_eq_true rfl, Nat.le_of_ble_eq_true rfl⟩) rfl (Nat.le_of_ble_eq_true rfl) dX11_gainAt_32 ⟨Nat.le_refl _, Nat.le_refl _⟩) (fun _ => wback [1, 2, 3, 6, 4, 0, 5] rfl rfl) (fun H locs _ _ X => ?_)
        refine lv_lload_n hx hb dX11_gainAt_35 rfl (lv_at hl 2 rfl) ?_
        refine gn_ldc2 (v := 100) (k := 100) hx hb G.2.2.1 (G.2.2.2.1 _ ck_636) (by decide) dX11_gainAt_36 ?_
        refine lv_aload_n hx hb dX11_gainAt_39 rfl (lv_at hl 0 rfl) ?_
        refine cg_11 G X 0 0 rfl rfl 4 (by decide) (G.2.2.2.1 _ ck_505) rfl rfl dX11_gainAt_40 ?_
        refine cg_8 G X 4 0 rfl rfl 0 (by decide) (G.2.2.2.1 _ ck_606) rfl rfl dX11_gainAt_43 ?_
        refine lv_iload hx hb dX11_gainAt_46 (lv_at hl 3 rfl) ?_
        refine cr_lald G X 4 1 rfl rfl (by omega) (by decide) dX11_gainAt_48 ?_
        refine gl_eq (a := (F w1)) (zcl_in (by omega)) ?_
        refine gn_lmul hx hb dX11_gainAt_49  ?_
        refine lv_aload_n hx hb dX11_gainAt_50 rfl (lv_at hl 0 rfl) ?_
        refine cg_11 G X 0 0 rfl rfl 0 (by decide) (G.2.2.2.1 _ ck_498) rfl rfl dX11_gainAt_51 ?_
        refine dtI_go (w := wcat [wkP Z (wo, La.1, tm.1, vq) rp w1 b5 4294967295 xc 0 0 0 0 v1, landP Z La τ, thP Z tm F K1, ruP rp 0 0]) (wf := wcat [anP Z an wo La.1 x2 x3 ta.1 x5 tc.1 x7 rp x9 hi sb sh, thP Z ta F K, thP Z tc F3 K3]) (W1 := fun u_54 => wcat [anP Z an wo La.1 x2 x3 ta.1 x5 tc.1 x7 rp x9 hi sb sh, wkP Z (wo, La.1, tm.1, vq) rp w1 u_54.2.2.1 4294967295 u_54.2.2.2.1 u_54.2.2.2.2.1 u_54.2.2.2.2.2.1 u_54.2.2.2.2.2.2.1 u_54.2.2.2.2.2.2.2 v1, landP Z La τ, thP Z tm u_54.1 u_54.2.1, thP Z ta F K, thP Z tc F3 K3, ruP rp 0 0]) G X (wsel [1, 2, 3, 6, 0, 4, 5] rfl rfl) (run_V (As := []) (rest := [.long (lN (100 * (F w1))), .long (lN (zsum (zgnS τ F xc) w1))]) (n := 0) G hml hts hl.1 (p_recv G X 1 0 rfl rfl rfl) (k10_minutesThere hE (yr := 0) (yg := 0) hT (by omega) (by omega) (⟨hp28.symm, by decide⟩) hMF (by decide) (by decide) _) (cwV 0 hts (cg_V ck_494 ck_627 ck_628 ck_629 ck_365) rfl rfl rfl (by decide +kernel) ⟨Nat.le_of_ble_eq_true rfl, Nat.le_of_ble_eq_true rfl⟩) rfl (Nat.le_of_ble_eq_true rfl) dX11_gainAt_54 ⟨Nat.le_refl _, Nat.le_refl _⟩) (fun u_54 => wback [1, 2, 3, 6, 0, 4, 5] rfl rfl) (fun H locs u_54 hu_54 X => ?_)
        refine gi_eq (a := zmnN (zwalk τ w1 xc 4294967295 0 F 0)) (congrArg zmnN zmw_is) ?_
        refine dtI_go (w := wcat []) (wf := wcat [anP Z an wo La.1 x2 x3 ta.1 x5 tc.1 x7 rp x9 hi sb sh, wkP Z (wo, La.1, tm.1, vq) rp w1 u_54.2.2.1 4294967295 u_54.2.2.2.1 u_54.2.2.2.2.1 u_54.2.2.2.2.2.1 u_54.2.2.2.2.2.2.1 u_54.2.2.2.2.2.2.2 v1, landP Z La τ, thP Z tm u_54.1 u_54.2.1, thP Z ta F K, thP Z tc F3 K3, ruP rp 0 0]) (W1 := fun _ => wcat [anP Z an wo La.1 x2 x3 ta.1 x5 tc.1 x7 rp x9 hi sb sh, wkP Z (wo, La.1, tm.1, vq) rp w1 u_54.2.2.1 4294967295 u_54.2.2.2.1 u_54.2.2.2.2.1 u_54.2.2.2.2.2.1 u_54.2.2.2.2.2.2.1 u_54.2.2.2.2.2.2.2 v1, landP Z La τ, thP Z tm u_54.1 u_54.2.1, thP Z ta F K, thP Z tc F3 K3, ruP rp 0 0]) G X (wsel [0, 1, 2, 3, 4, 5, 6] rfl rfl) (run_S (As := [.int (nI (zmnN (zwalk τ w1 xc 4294967295 0 F 0)))]) (rest := [.long (lN (100 * (F w1))), .long (lN (zsum (zgnS τ F xc) w1))]) (n := 1) G hml hts hl.1 (k11_inSums hE (zmnN (zwalk τ w1 xc 4294967295 0 F 0)) (Nat.lt_of_le_of_lt (zmnN_lt hok (by decide)) (by decide)) _) (va_cwS 1 hts (cg_S ck_631 ck_633 ck_634 ck_89) rfl rfl rfl (by decide +kernel) ⟨Nat.le_of_ble_eq_true rfl, Nat.le_of_ble_eq_true rfl⟩) rfl (Nat.le_of_ble_eq_true rfl) dX11_gainAt_57 ⟨Nat.le_refl _, Nat.le_refl _⟩) (fun _ => wback [0, 1, 2, 3, 4, 5, 6] rfl rfl) (fun H locs _ _ X => ?_)
        refine gi_eq (a := zin (zwalk τ w1 xc 4294967295 0 F 0)) (zin_is hok (by decide)) ?_
        refine gn_i2l hx hb dX11_gainAt_60 (by have q9 := zin_le hok (w := w1) (c := xc) (rule := 4294967295) (fig := 0) (z := 0) (m := F) (by decide); omega) ?_
        refine gn_lmul hx hb dX11_gainAt_61  ?_
        refine gn_ladd hx hb dX11_gainAt_62  ?_
        refine lv_lstore_n (lv' := [(2, .long (lN ((zsum (zgnS τ F xc) w1) + ((100 * (F w1)) * (zin (zwalk τ w1 xc 4294967295 0 F 0)))))), (0, .ref an.1), (1, .int (nI xc)), (4, .int (nI w1))]) hx hb dX11_gainAt_63 rfl hl (by decide) rfl (fun ls hl => ?_)
        refine lv_iinc (v := nI (w1 + 1)) (lv' := [(4, .int (nI (w1 + 1))), (2, .long (lN ((zsum (zgnS τ F xc) w1) + ((100 * (F w1)) * (zin (zwalk τ w1 xc 4294967295 0 F 0)))))), (0, .ref an.1), (1, .int (nI xc))]) hx hb dX11_gainAt_64 hl (k := 3) rfl (zn_inc _) (by decide) rfl (fun ls hl => ?_)
        refine lv_goto (tgt := 5) hx hb dX11_gainAt_67 (by decide) ?_
        refine ih_5 (w1 + 1) rp w1 u_54.2.2.1 4294967295 u_54.2.2.2.1 u_54.2.2.2.2.1 u_54.2.2.2.2.2.1 u_54.2.2.2.2.2.2.1 u_54.2.2.2.2.2.2.2 v1 u_54.1 u_54.2.1 (by omega) (by omega) _ _ _ (by exact X) (by exact lv_sub hl [2, 3, 1, 0] rfl)
  refine cut_5 _ 0 r0 a4 a5 a6 a7 a8 a9 a10 a11 vv FM KM (Nat.zero_le _) (Nat.lt_succ_self _) _ _ _ (by exact X) (by exact lv_sub hl [2, 3, 1, 0] rfl)
