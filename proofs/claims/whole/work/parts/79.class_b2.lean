theorem zset5_is (K : Nat → Nat) : zhalves 5 64 (zcp (fun w => K w / zgall K 5) K 5) = zset 5 K := by
  unfold zset
  rfl
set_option maxHeartbeats 4000000 in
set_option maxRecDepth 100000 in
theorem k8_settles {E : (Nat → Prop) → State → Heap → Prop} (hE : cEok E) {l : Launch} {D : va_G} {Z : Nat → ClassId} {ta : Nat × Nat × Nat} {F K : Nat → Nat} (hK : ∀ w, w < 5 → K w < 9223372036854775808) : dtI E l D Z yX8_settles (Cond.code yX8_settles cX8_settles 6 (some .boolean) :: cW) { frames := 1, cells := 0, slots := 0, locals := 40 } [.ref ta.1] (wcat [thP Z ta F K]) (S := Unit) (fun _ => wcat [thP Z ta (if zgall K 5 = 0 then F else zset 5 K) K]) (fun _ => if ¬ zgall K 5 = 0 then 1 else 0) (fun _ => True) := by
  refine dtZ_of hE (cc := cX8_settles) (maxL := 6) (hnar := fun _ _ => zb_ite) (by decide +kernel) (fun w h => List.mem_cons_of_mem _ h) (Nat.le_of_ble_eq_true rfl) ?_
  intro p e s m args below meth c A Q ls hx hb hml hown hts G X hl fin
  replace hl : lv_has ls 6 [(0, .ref ta.1)] := hl
  have hd5 := zgall_lt (f := K) (b := 9223372036854775808) (by decide) 5 hK
  refine lv_lconst (v := lN 0) hx hb dX8_settles_0 (by decide) ?_
  refine lv_lstore_n (lv' := [(1, .long (lN 0)), (0, .ref ta.1)]) hx hb dX8_settles_1 rfl hl (by decide) rfl (fun ls hl => ?_)
  refine lv_lconst (v := lN 0) hx hb dX8_settles_2 (by decide) ?_
  refine lv_lstore_n (lv' := [(3, .long (lN 0)), (1, .long (lN 0)), (0, .ref ta.1)]) hx hb dX8_settles_3 rfl hl (by decide) rfl (fun ls hl => ?_)
  refine lv_iconst (v := nI 0) hx hb dX8_settles_4 (by decide) ?_
  refine lv_istore (lv' := [(5, .int (nI 0)), (3, .long (lN 0)), (1, .long (lN 0)), (0, .ref ta.1)]) hx hb dX8_settles_5 hl (by decide) rfl (fun ls hl => ?_)
  have cut_7 : ∀ (NN : Nat) (w1 : Nat) (h1 : w1 ≤ 5), 5 - w1 < NN → ∀ (H : Heap) (locs : List Loc) (ls : Array Slot), wH D vwCl A s.heap H locs (wcat [thP Z ta F K]) → lv_has ls 6 [(0, .ref ta.1), (1, .long (lN (zgall K w1))), (3, .long (lN (zmx K w1))), (5, .int (nI w1))] → W p l e { frames := 1, cells := 0, slots := 0, locals := 40 } s m args below meth c H locs 0 0 Q (F0 m 7 ls []) := by
    intro NN
    induction NN with
    | zero => intro w1 h1 hNN; exact absurd hNN (Nat.not_lt_zero _)
    | succ NN ih_7 =>
      intro w1 h1 hNN H locs ls X hl
      refine lv_iload hx hb dX8_settles_7 (lv_at hl 3 rfl) ?_
      refine lv_iconst (v := nI 5) hx hb dX8_settles_9 (by decide) ?_
      refine gn_icmp_ge (tgt := 43) hx hb dX8_settles_10 (by decide) (by omega) (by omega) (fun c_10 => ?_) (fun c_10 => ?_)
      ·
        have cut_43 : ∀ (H : Heap) (locs : List Loc) (ls : Array Slot), wH D vwCl A s.heap H locs (wcat [thP Z ta F K]) → lv_has ls 6 [(0, .ref ta.1), (1, .long (lN (zgall K 5))), (3, .long (lN (zmx K 5)))] → W p l e { frames := 1, cells := 0, slots := 0, locals := 40 } s m args below meth c H locs 0 0 Q (F0 m 43 ls []) := by
          intro  H locs ls X hl
          refine lv_lload_n hx hb dX8_settles_43 rfl (lv_at hl 1 rfl) ?_
          refine lv_lconst (v := lN 0) hx hb dX8_settles_44 (by decide) ?_
          refine gn_lc_gt (tgt := 51) hx hb dX8_settles_45 dX8_settles_46 (by decide) (by omega) (by omega) (fun c_45 => ?_) (fun c_45 => ?_)
          ·
            refine lv_iconst (v := nI 0) hx hb dX8_settles_51 (by decide) ?_
            refine lv_istore (lv' := [(5, .int (nI 0)), (0, .ref ta.1), (1, .long (lN (zgall K 5))), (3, .long (lN (zmx K 5)))]) hx hb dX8_settles_52 hl (by decide) rfl (fun ls hl => ?_)
            have cut_54 : ∀ (NN : Nat) (w2 : Nat) (h2 : w2 ≤ 5) (hz : 0 < zgall K 5), 5 - w2 < NN → ∀ (H : Heap) (locs : List Loc) (ls : Array Slot), wH D vwCl A s.heap H locs (wcat [thP Z ta (zcp (fun w => K w / zgall K 5) F w2) K]) → lv_has ls 6 [(0, .ref ta.1), (1, .long (lN (zgall K 5))), (3, .long (lN (zmx K 5))), (5, .int (nI w2))] → W p l e { frames := 1, cells := 0, slots := 0, locals := 40 } s m args below meth c H locs 0 0 Q (F0 m 54 ls []) := by
              intro NN
              induction NN with
              | zero => intro w2 h2 hz hNN; exact absurd hNN (Nat.not_lt_zero _)
              | succ NN ih_54 =>
                intro w2 h2 hz hNN H locs ls X hl
                refine lv_iload hx hb dX8_settles_54 (lv_at hl 3 rfl) ?_
                refine lv_iconst (v := nI 5) hx hb dX8_settles_56 (by decide) ?_
                refine gn_icmp_ge (tgt := 82) hx hb dX8_settles_57 (by decide) (by omega) (by omega) (fun c_57 => ?_) (fun c_57 => ?_)
                ·
                  have cut_82 : ∀ (H : Heap) (locs : List Loc) (ls : Array Slot), wH D vwCl A s.heap H locs (wcat [thP Z ta (zcp (fun w => K w / zgall K 5) F 5) K]) → lv_has ls 6 [(0, .ref ta.1), (1, .long (lN (zgall K 5))), (3, .long (lN (zmx K 5)))] → W p l e { frames := 1, cells := 0, slots := 0, locals := 40 } s m args below meth c H locs 0 0 Q (F0 m 82 ls []) := by
                    intro  H locs ls X hl
                    have qm5 := zmx_le (f := K) (b := 9223372036854775807) (n := 5) (fun k hk => Nat.le_of_lt_succ (hK k hk))
                    refine lv_lload_n hx hb dX8_settles_82 rfl (lv_at hl 2 rfl) ?_
                    refine lv_lload_n hx hb dX8_settles_83 rfl (lv_at hl 1 rfl) ?_
                    refine gn_ldiv hx hb dX8_settles_84 (by omega) (by omega) (by omega) ?_
                    refine lv_lstore_n (lv' := [(3, .long (lN ((zmx K 5) / (zgall K 5)))), (0, .ref ta.1), (1, .long (lN (zgall K 5)))]) hx hb dX8_settles_85 rfl hl (by decide) rfl (fun ls hl => ?_)
                    refine lv_iconst (v := nI 0) hx hb dX8_settles_86 (by decide) ?_
                    refine lv_istore (lv' := [(5, .int (nI 0)), (3, .long (lN ((zmx K 5) / (zgall K 5)))), (0, .ref ta.1), (1, .long (lN (zgall K 5)))]) hx hb dX8_settles_87 hl (by decide) rfl (fun ls hl => ?_)
                    have cut_89 : ∀ (NN : Nat) (i1 : Nat) (n1 : Nat) (F1 : Nat → Nat) (hi : i1 + n1 = 64) (hz1 : zhalves 5 n1 F1 = zset 5 K) (hF1 : ∀ w, w < 5 → F1 w < 9223372036854775808) (hz : 0 < zgall K 5), n1 < NN → ∀ (H : Heap) (locs : List Loc) (ls : Array Slot), wH D vwCl A s.heap H locs (wcat [thP Z ta F1 K]) → lv_has ls 6 [(0, .ref ta.1), (1, .long (lN (zgall K 5))), (3, .long (lN (zmx F1 5))), (5, .int (nI i1))] → W p l e { frames := 1, cells := 0, slots := 0, locals := 40 } s m args below meth c H locs 0 0 Q (F0 m 89 ls []) := by
                      intro NN
                      induction NN with
                      | zero => intro i1 n1 F1 hi hz1 hF1 hz hNN; exact absurd hNN (Nat.not_lt_zero _)
                      | succ NN ih_89 =>
                        intro i1 n1 F1 hi hz1 hF1 hz hNN H locs ls X hl
                        refine lv_iload hx hb dX8_settles_89 (lv_at hl 3 rfl) ?_
                        refine lv_bipush (v := nI 64) hx hb dX8_settles_91 (by decide) ?_
                        refine gn_icmp_ge (tgt := 120) hx hb dX8_settles_93 (by decide) (by omega) (by omega) (fun c_93 => ?_) (fun c_93 => ?_)
                        ·
                          refine lv_iconst (v := nI 1) hx hb dX8_settles_120 (by decide) ?_
                          exact cfin_I (()) (trivial) (by rw [if_neg (show ¬ zgall K 5 = 0 by omega)]; first | rw [show F1 = zset 5 K from zset5_no hz1 (by omega)] | (rw [show n1 = 0 by omega] at hz1; rw [show F1 = zset 5 K from hz1])) (zb_t (by omega)) X dX8_settles_121 fin
                        ·
                          have qm6 := zmx_le (f := F1) (b := 9223372036854775807) (n := 5) (fun k hk => Nat.le_of_lt_succ (hF1 k hk))
                          refine lv_lload_n hx hb dX8_settles_96 rfl (lv_at hl 2 rfl) ?_
                          refine gn_ldc2 (v := 100000000000) (k := 100000000000) hx hb G.2.2.1 (G.2.2.2.1 _ ck_322) (by decide) dX8_settles_97 ?_
                          refine gn_lc_le (tgt := 120) hx hb dX8_settles_100 dX8_settles_101 (by decide) (by omega) (by omega) (fun c_100 => ?_) (fun c_100 => ?_)
                          ·
                            refine lv_iconst (v := nI 1) hx hb dX8_settles_120 (by decide) ?_
                            exact cfin_I (()) (trivial) (by rw [if_neg (show ¬ zgall K 5 = 0 by omega)]; first | rw [show F1 = zset 5 K from zset5_no hz1 (by omega)] | (rw [show n1 = 0 by omega] at hz1; rw [show F1 = zset 5 K from hz1])) (zb_t (by omega)) X dX8_settles_121 fin
                          ·
                            refine lv_aload_n hx hb dX8_settles_104 rfl (lv_at hl 0 rfl) ?_
                            refine dtV_go (w := wcat [thP Z ta F1 K]) (wf := wcat []) (W1 := fun _ => wcat [thP Z ta (zcp (zhf F1) F1 5) K]) G X (wsel [0] rfl rfl) (run_V (As := []) (rest := []) (n := 0) G hml hts hl.1 (p_recv G X 0 0 rfl rfl rfl) (k8_halve hE hF1 _) (cwV 0 hts (cg_V ck_315 ck_325 ck_326 ck_327 ck_35) rfl rfl rfl (by decide +kernel) ⟨Nat.le_of_ble_eq_true rfl, Nat.le_of_ble_eq_true rfl⟩) rfl (Nat.le_of_ble_eq_true rfl) dX8_settles_105 ⟨Nat.le_refl _, Nat.le_refl _⟩) (fun _ => wback [0] rfl rfl) (fun H locs _ _ X => ?_)
                            refine lv_lload_n hx hb dX8_settles_108 rfl (lv_at hl 2 rfl) ?_
                            refine gn_ldc2 (v := 2) (k := 2) hx hb G.2.2.1 (G.2.2.2.1 _ ck_316) (by decide) dX8_settles_109 ?_
                            refine gn_ldiv hx hb dX8_settles_112 (by omega) (by omega) (by omega) ?_
                            refine lv_lstore_n (lv' := [(3, .long (lN ((zmx F1 5) / 2))), (0, .ref ta.1), (1, .long (lN (zgall K 5))), (5, .int (nI i1))]) hx hb dX8_settles_113 rfl hl (by decide) rfl (fun ls hl => ?_)
                            refine lv_iinc (v := nI (i1 + 1)) (lv' := [(5, .int (nI (i1 + 1))), (3, .long (lN ((zmx F1 5) / 2))), (0, .ref ta.1), (1, .long (lN (zgall K 5)))]) hx hb dX8_settles_114 hl (k := 3) rfl (zn_inc _) (by decide) rfl (fun ls hl => ?_)
                            refine lv_goto (tgt := 89) hx hb dX8_settles_117 (by decide) ?_
                            refine ih_89 (i1 + 1) (n1 - 1) (zcp (zhf F1) F1 5) (by omega) (zset5_go (by rw [show n1 - 1 + 1 = n1 by omega]; exact hz1) c_100) (fun w hw => by rw [zcp_in hw]; have q9 := hF1 w hw; unfold zhf; split <;> omega) (hz) (by omega) _ _ _ (by exact X) (by rw [show zmx (zcp (zhf F1) F1 5) 5 = zmx F1 5 / 2 from (zmx_cong (fun k hk => zcp_in hk)).trans (zmx_hf (by decide) (by omega))]; exact lv_sub hl [2, 3, 1, 0] rfl)
                    refine cut_89 _ 0 64 (zcp (fun w => K w / zgall K 5) K 5) (by omega) (zset5_is K) (fun w hw => by rw [zcp_in hw]; exact Nat.lt_of_le_of_lt (zdiv_le _ _) (hK w hw)) (hz) (Nat.lt_succ_self _) _ _ _ (by exact wx_eq (congrArg (fun z => wcat [z]) (thP_cong (F := zcp (fun w => K w / zgall K 5) F 5) (F' := zcp (fun w => K w / zgall K 5) K 5) (G := K) (G' := K) (fun i hi => by rw [zcp_in hi, zcp_in hi]) (fun _ _ => rfl))) X) (by rw [show zmx (zcp (fun w => K w / zgall K 5) K 5) 5 = zmx K 5 / zgall K 5 from (zmx_cong (fun k hk => zcp_in hk)).trans (zmx_div (by decide))]; exact lv_sub hl [2, 3, 1, 0] rfl)
                  refine cut_82   _ _ _ (by rw [show w2 = 5 by omega] at X; exact X) (by exact lv_sub hl [0, 1, 2] rfl)
                ·
                  refine lv_aload_n hx hb dX8_settles_60 rfl (lv_at hl 0 rfl) ?_
                  refine cg_8 G X 0 0 rfl rfl 0 (by decide) (G.2.2.2.1 _ ck_27) rfl rfl dX8_settles_61 ?_
                  refine lv_iload hx hb dX8_settles_64 (lv_at hl 3 rfl) ?_
                  have qk2 := hK w2 (by omega)
                  refine lv_aload_n hx hb dX8_settles_66 rfl (lv_at hl 0 rfl) ?_
                  refine cg_8 G X 0 0 rfl rfl 1 (by decide) (G.2.2.2.1 _ ck_293) rfl rfl dX8_settles_67 ?_
                  refine lv_iload hx hb dX8_settles_70 (lv_at hl 3 rfl) ?_
                  refine cr_lald G X 0 2 rfl rfl (by omega) (by decide) dX8_settles_72 ?_
                  refine gl_eq (a := (K w2)) (zcl_in (by omega)) ?_
                  refine lv_lload_n hx hb dX8_settles_73 rfl (lv_at hl 1 rfl) ?_
                  refine gn_ldiv hx hb dX8_settles_74 (by omega) (by omega) (by omega) ?_
                  refine cr_last (ps' := [thP Z ta (fun b => if b = w2 then (K w2) / (zgall K 5) else (zcp (fun w => K w / zgall K 5) F w2) b) K]) G X 0 1 rfl rfl (by omega) (by decide) (congrArg (fun z => [z]) (thP_s0 (by omega))) dX8_settles_75 (fun H locs X => ?_)
                  refine lv_iinc (v := nI (w2 + 1)) (lv' := [(5, .int (nI (w2 + 1))), (0, .ref ta.1), (1, .long (lN (zgall K 5))), (3, .long (lN (zmx K 5)))]) hx hb dX8_settles_76 hl (k := 3) rfl (zn_inc _) (by decide) rfl (fun ls hl => ?_)
                  refine lv_goto (tgt := 54) hx hb dX8_settles_79 (by decide) ?_
                  refine ih_54 (w2 + 1) (by omega) (hz) (by omega) _ _ _ (by exact wx_eq (congrArg (fun z => wcat [thP Z ta z K]) (zcp_1 rfl)) X) (by exact lv_sub hl [1, 2, 3, 0] rfl)
            refine cut_54 _ 0 (Nat.zero_le _) (c_45) (Nat.lt_succ_self _) _ _ _ (by exact wx_eq (congrArg (fun z => wcat [thP Z ta z K]) (show F = zcp (fun w => K w / zgall K 5) F 0 from funext fun a => (zcp_out (Nat.zero_le a)).symm)) X) (by exact lv_sub hl [1, 2, 3, 0] rfl)
          ·
            refine lv_iconst (v := nI 0) hx hb dX8_settles_49 (by decide) ?_
            exact cfin_I (()) (trivial) (by rw [if_pos (show zgall K 5 = 0 by omega)]) (zb_f (fun h => h (by omega))) X dX8_settles_50 fin
        refine cut_43   _ _ _ (by exact X) (by rw [show w1 = 5 by omega] at hl; exact lv_sub hl [0, 1, 2] rfl)
      ·
        have qk := hK w1 (by omega)
        have qg := zgall_lt (f := K) (b := 9223372036854775808) (by decide) w1 (fun w hw => hK w (by omega))
        have qm := Nat.lt_of_le_of_lt (zmx_le (f := K) (b := 9223372036854775807) (n := w1) (fun k hk => Nat.le_of_lt_succ (hK k (by omega)))) (show 9223372036854775807 < 9223372036854775808 by decide)
        refine lv_lload_n hx hb dX8_settles_13 rfl (lv_at hl 1 rfl) ?_
        refine lv_aload_n hx hb dX8_settles_14 rfl (lv_at hl 0 rfl) ?_
        refine cg_8 G X 0 0 rfl rfl 1 (by decide) (G.2.2.2.1 _ ck_293) rfl rfl dX8_settles_15 ?_
        refine lv_iload hx hb dX8_settles_18 (lv_at hl 3 rfl) ?_
        refine cr_lald G X 0 2 rfl rfl (by omega) (by decide) dX8_settles_20 ?_
        refine gl_eq (a := (K w1)) (zcl_in (by omega)) ?_
        refine dtL_go (w := wcat []) (wf := wcat [thP Z ta F K]) (W1 := fun _ => wcat [thP Z ta F K]) G X (wsel [0] rfl rfl) (run_S (As := [.long (lN (zgall K w1)), .long (lN (K w1))]) (rest := []) (n := 2) G hml hts hl.1 (k8_greatestDivisor hE (zgall K w1) (K w1) qg qk _) (va_cwS 2 hts (cg_S ck_314 ck_323 ck_324 ck_35) rfl rfl rfl (by decide +kernel) ⟨Nat.le_of_ble_eq_true rfl, Nat.le_of_ble_eq_true rfl⟩) rfl (Nat.le_of_ble_eq_true rfl) dX8_settles_21 ⟨Nat.le_refl _, Nat.le_refl _⟩) (fun _ => wback [0] rfl rfl) (fun H locs _ _ X => ?_)
        refine gl_eq (a := zgall K (w1 + 1)) (Nat.gcd_comm _ _) ?_
        refine lv_lstore_n (lv' := [(1, .long (lN (zgall K (w1 + 1)))), (0, .ref ta.1), (3, .long (lN (zmx K w1))), (5, .int (nI w1))]) hx hb dX8_settles_24 rfl hl (by decide) rfl (fun ls hl => ?_)
        refine lv_lload_n hx hb dX8_settles_25 rfl (lv_at hl 2 rfl) ?_
        refine lv_aload_n hx hb dX8_settles_26 rfl (lv_at hl 1 rfl) ?_
        refine cg_8 G X 0 0 rfl rfl 1 (by decide) (G.2.2.2.1 _ ck_293) rfl rfl dX8_settles_27 ?_
        refine lv_iload hx hb dX8_settles_30 (lv_at hl 3 rfl) ?_
        refine cr_lald G X 0 2 rfl rfl (by omega) (by decide) dX8_settles_32 ?_
        refine gl_eq (a := (K w1)) (zcl_in (by omega)) ?_
        refine va_mmax_long hx hb (hml.trans hl.1.symm) G.2.2.1 (G.2.2.2.1 _ ck_318) (G.2.2.2.1 _ ck_319) (G.2.2.2.1 _ ck_320) (G.2.2.2.1 _ ck_321) (Nat.le_of_ble_eq_true rfl) (Nat.le_of_ble_eq_true rfl) (Nat.le_refl _) (Nat.le_refl _) dX8_settles_33 ?_
        refine gl_raw (y := lN (zmx K (w1 + 1))) (lmax _ _ qm qk) ?_
        refine lv_lstore_n (lv' := [(3, .long (lN (zmx K (w1 + 1)))), (1, .long (lN (zgall K (w1 + 1)))), (0, .ref ta.1), (5, .int (nI w1))]) hx hb dX8_settles_36 rfl hl (by decide) rfl (fun ls hl => ?_)
        refine lv_iinc (v := nI (w1 + 1)) (lv' := [(5, .int (nI (w1 + 1))), (3, .long (lN (zmx K (w1 + 1)))), (1, .long (lN (zgall K (w1 + 1)))), (0, .ref ta.1)]) hx hb dX8_settles_37 hl (k := 3) rfl (zn_inc _) (by decide) rfl (fun ls hl => ?_)
        refine lv_goto (tgt := 7) hx hb dX8_settles_40 (by decide) ?_
        refine ih_7 (w1 + 1) (by omega) (by omega) _ _ _ (by exact X) (by exact lv_sub hl [3, 2, 1, 0] rfl)
  refine cut_7 _ 0 (Nat.zero_le _) (Nat.lt_succ_self _) _ _ _ (by exact X) (by exact lv_sub hl [3, 2, 1, 0] rfl)
