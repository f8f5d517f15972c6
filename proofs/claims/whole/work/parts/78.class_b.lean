set_option maxHeartbeats 4000000 in
set_option maxRecDepth 100000 in
theorem k8_becomeChances {E : (Nat → Prop) → State → Heap → Prop} (hE : cEok E) {l : Launch} {D : va_G} {Z : Nat → ClassId} {ta : Nat × Nat × Nat} {F K : Nat → Nat} {La : LA} {τ : MS} (hok : mOk τ) : dtV E l D Z yX8_becomeChances (Cond.code yX8_becomeChances cX8_becomeChances 3 none :: cW) { frames := 1, cells := 0, slots := 0, locals := 21 } [.ref ta.1, .ref La.1] (wcat [thP Z ta F K, landP Z La τ]) (S := Unit) (fun _ => wcat [thP Z ta (zch5 τ) K, landP Z La τ]) (fun _ => True) := by
  refine dtV_of hE (cc := cX8_becomeChances) (maxL := 3) (by decide +kernel) (fun w h => List.mem_cons_of_mem _ h) (Nat.le_of_ble_eq_true rfl) ?_
  intro p e s m args below meth c A Q ls hx hb hml hown hts G X hl fin
  replace hl : lv_has ls 3 [(0, .ref ta.1), (1, .ref La.1)] := hl
  obtain ⟨k0, k4, k8, kr, kw, ks, kmet, kmt, k12, k13⟩ := id hok
  refine lv_iconst (v := nI 0) hx hb dX8_becomeChances_0 (by decide) ?_
  refine lv_istore_n (lv' := [(2, .int (nI 0)), (0, .ref ta.1), (1, .ref La.1)]) hx hb dX8_becomeChances_1 rfl hl (by decide) rfl (fun ls hl => ?_)
  have cut_2 : ∀ (NN : Nat) (w1 : Nat) (h1 : w1 ≤ 5), 5 - w1 < NN → ∀ (H : Heap) (locs : List Loc) (ls : Array Slot), wH D vwCl A s.heap H locs (wcat [thP Z ta (zcp (zch5 τ) F w1) K, landP Z La τ]) → lv_has ls 3 [(0, .ref ta.1), (1, .ref La.1), (2, .int (nI w1))] → W p l e { frames := 1, cells := 0, slots := 0, locals := 21 } s m args below meth c H locs 0 0 Q (F0 m 2 ls []) := by
    intro NN
    induction NN with
    | zero => intro w1 h1 hNN; exact absurd hNN (Nat.not_lt_zero _)
    | succ NN ih_2 =>
      intro w1 h1 hNN H locs ls X hl
      refine lv_iload_n hx hb dX8_becomeChances_2 rfl (lv_at hl 2 rfl) ?_
      refine lv_iconst (v := nI 5) hx hb dX8_becomeChances_3 (by decide) ?_
      refine gn_icmp_ge (tgt := 38) hx hb dX8_becomeChances_4 (by decide) (by omega) (by omega) (fun c_4 => ?_) (fun c_4 => ?_)
      ·
        exact cfin_V (()) (trivial) (congrArg (fun z => wcat [z, landP Z La τ]) (thP_cong (F := zcp (zch5 τ) F w1) (F' := (zch5 τ)) (G := K) (G' := K) (fun i hi => by rw [show w1 = 5 by omega]; exact zcp_in hi) (fun _ _ => rfl))) X dX8_becomeChances_38 fin
      ·
        refine lv_aload_n hx hb dX8_becomeChances_7 rfl (lv_at hl 0 rfl) ?_
        refine cg_8 G X 0 0 rfl rfl 0 (by decide) (G.2.2.2.1 _ ck_27) rfl rfl dX8_becomeChances_8 ?_
        refine lv_iload_n hx hb dX8_becomeChances_11 rfl (lv_at hl 2 rfl) ?_
        refine lv_aload_n hx hb dX8_becomeChances_12 rfl (lv_at hl 1 rfl) ?_
        refine lv_iload_n hx hb dX8_becomeChances_13 rfl (lv_at hl 2 rfl) ?_
        refine dtI_go (w := wcat [landP Z La τ]) (wf := wcat [thP Z ta (zcp (zch5 τ) F w1) K]) (W1 := fun _ => wcat [thP Z ta (zcp (zch5 τ) F w1) K, landP Z La τ]) G X (wsel [1, 0] rfl rfl) (run_V (As := [.int (nI w1)]) (rest := [.int (nI w1), .ref ta.2.1]) (n := 1) G hml hts hl.1 (p_recv G X 1 0 rfl rfl rfl) (k2_hasWorld hE (nI w1) hok _) (cwV 1 hts (cg_V ck_72 ck_296 ck_297 ck_298 ck_79) rfl rfl rfl (by decide +kernel) ⟨Nat.le_of_ble_eq_true rfl, Nat.le_of_ble_eq_true rfl⟩) rfl (Nat.le_of_ble_eq_true rfl) dX8_becomeChances_14 ⟨Nat.le_refl _, Nat.le_refl _⟩) (fun _ => wback [1, 0] rfl rfl) (fun H locs _ _ X => ?_)
        refine gb_if_eq (tgt := 30) hx hb dX8_becomeChances_17 (by decide) (fun c_17 => ?_) (fun c_17 => ?_)
        ·
          rw [zir_n (by omega)] at c_17
          refine lv_lconst (v := lN 0) hx hb dX8_becomeChances_30 (by decide) ?_
          refine cr_last (ps' := [thP Z ta (fun b => if b = w1 then 0 else (zcp (zch5 τ) F w1) b) K, landP Z La τ]) G X 0 1 rfl rfl (by omega) (by decide) (congrArg (fun z => [z, landP Z La τ]) (thP_s0 (by omega))) dX8_becomeChances_31 (fun H locs X => ?_)
          refine lv_iinc (v := nI (w1 + 1)) (lv' := [(2, .int (nI (w1 + 1))), (0, .ref ta.1), (1, .ref La.1)]) hx hb dX8_becomeChances_32 hl (k := 2) rfl (zn_inc _) (by decide) rfl (fun ls hl => ?_)
          refine lv_goto (tgt := 2) hx hb dX8_becomeChances_35 (by decide) ?_
          refine ih_2 (w1 + 1) (by omega) (by omega) _ _ _ (by first | exact wx_eq (congrArg (fun z => wcat [thP Z ta z K, landP Z La τ]) (zcp_1 (show _ = zch5 τ w1 from (if_pos c_17).symm))) X | exact wx_eq (congrArg (fun z => wcat [thP Z ta z K, landP Z La τ]) (zcp_1 (show _ = zch5 τ w1 from (if_neg c_17).symm))) X) (by exact lv_sub hl [1, 2, 0] rfl)
        ·
          rw [zir_n (by omega)] at c_17
          have q7 := (kw w1 c_17).2.1
          refine lv_aload_n hx hb dX8_becomeChances_20 rfl (lv_at hl 1 rfl) ?_
          refine cg_2 G X 1 0 rfl rfl 5 (by decide) (G.2.2.2.1 _ ck_295) rfl rfl dX8_becomeChances_21 ?_
          refine lv_iload_n hx hb dX8_becomeChances_24 rfl (lv_at hl 2 rfl) ?_
          refine cr_iald G X 1 4 rfl rfl (by omega) (by decide) dX8_becomeChances_25 ?_
          refine gi_eq (a := (τ.2 5 w1)) (zcl_in (by omega)) ?_
          refine gn_i2l hx hb dX8_becomeChances_26 (by omega) ?_
          refine lv_goto (tgt := 31) hx hb dX8_becomeChances_27 (by decide) ?_
          refine cr_last (ps' := [thP Z ta (fun b => if b = w1 then τ.2 5 w1 else (zcp (zch5 τ) F w1) b) K, landP Z La τ]) G X 0 1 rfl rfl (by omega) (by decide) (congrArg (fun z => [z, landP Z La τ]) (thP_s0 (by omega))) dX8_becomeChances_31 (fun H locs X => ?_)
          refine lv_iinc (v := nI (w1 + 1)) (lv' := [(2, .int (nI (w1 + 1))), (0, .ref ta.1), (1, .ref La.1)]) hx hb dX8_becomeChances_32 hl (k := 2) rfl (zn_inc _) (by decide) rfl (fun ls hl => ?_)
          refine lv_goto (tgt := 2) hx hb dX8_becomeChances_35 (by decide) ?_
          refine ih_2 (w1 + 1) (by omega) (by omega) _ _ _ (by first | exact wx_eq (congrArg (fun z => wcat [thP Z ta z K, landP Z La τ]) (zcp_1 (show _ = zch5 τ w1 from (if_pos c_17).symm))) X | exact wx_eq (congrArg (fun z => wcat [thP Z ta z K, landP Z La τ]) (zcp_1 (show _ = zch5 τ w1 from (if_neg c_17).symm))) X) (by exact lv_sub hl [1, 2, 0] rfl)
  refine cut_2 _ 0 (Nat.zero_le _) (Nat.lt_succ_self _) _ _ _ (by exact wx_eq (congrArg (fun z => wcat [thP Z ta z K, landP Z La τ]) (show F = zcp (zch5 τ) F 0 from funext fun a => (zcp_out (Nat.zero_le a)).symm)) X) (by exact lv_sub hl [1, 2, 0] rfl)
set_option maxHeartbeats 4000000 in
set_option maxRecDepth 100000 in
theorem k8_becomeLike {E : (Nat → Prop) → State → Heap → Prop} (hE : cEok E) {l : Launch} {D : va_G} {Z : Nat → ClassId} {ta tb : Nat × Nat × Nat} {F K F2 K2 : Nat → Nat}  : dtV E l D Z yX8_becomeLike (Cond.code yX8_becomeLike cX8_becomeLike 2 none :: cW) { frames := 1, cells := 0, slots := 0, locals := 40 } [.ref ta.1, .ref tb.1] (wcat [thP Z ta F K, thP Z tb F2 K2]) (S := Unit) (fun _ => wcat [thP Z ta F2 K, thP Z tb F2 K2]) (fun _ => True) := by
  refine dtV_of hE (cc := cX8_becomeLike) (maxL := 2) (by decide +kernel) (fun w h => List.mem_cons_of_mem _ h) (Nat.le_of_ble_eq_true rfl) ?_
  intro p e s m args below meth c A Q ls hx hb hml hown hts G X hl fin
  replace hl : lv_has ls 2 [(0, .ref ta.1), (1, .ref tb.1)] := hl
  refine lv_aload_n hx hb dX8_becomeLike_0 rfl (lv_at hl 1 rfl) ?_
  refine cg_8 G X 1 0 rfl rfl 0 (by decide) (G.2.2.2.1 _ ck_27) rfl rfl dX8_becomeLike_1 ?_
  refine lv_iconst (v := nI 0) hx hb dX8_becomeLike_4 (by decide) ?_
  refine lv_aload_n hx hb dX8_becomeLike_5 rfl (lv_at hl 0 rfl) ?_
  refine cg_8 G X 0 0 rfl rfl 0 (by decide) (G.2.2.2.1 _ ck_27) rfl rfl dX8_becomeLike_6 ?_
  refine lv_iconst (v := nI 0) hx hb dX8_becomeLike_9 (by decide) ?_
  refine lv_iconst (v := nI 5) hx hb dX8_becomeLike_10 (by decide) ?_
  refine cr_copyl (ps' := [thP Z ta F2 K, thP Z tb F2 K2]) (hml.trans hl.1.symm) G X 1 1 0 1 rfl rfl rfl rfl (by decide) (G.2.2.2.1 _ ck_300) rfl (Nat.le_of_ble_eq_true rfl) (Nat.le_of_ble_eq_true rfl) dX8_becomeLike_11 (fun H locs X => ?_)
  exact cfin_V (()) (trivial) (rfl) X dX8_becomeLike_14 fin
set_option maxHeartbeats 4000000 in
set_option maxRecDepth 100000 in
theorem k8_all {E : (Nat → Prop) → State → Heap → Prop} (hE : cEok E) {l : Launch} {D : va_G} {Z : Nat → ClassId} {ta : Nat × Nat × Nat} {F K : Nat → Nat}  : dtL E l D Z yX8_all (Cond.code yX8_all cX8_all 4 (some .long) :: cW) { frames := 0, cells := 0, slots := 0, locals := 0 } [.ref ta.1] (wcat [thP Z ta F K]) (S := Unit) (fun _ => wcat [thP Z ta F K]) (fun _ => lN (zsum F 5)) (fun _ => True) := by
  refine dtL_of hE (cc := cX8_all) (maxL := 4) (by decide +kernel) (fun w h => List.mem_cons_of_mem _ h) (Nat.le_of_ble_eq_true rfl) ?_
  intro p e s m args below meth c A Q ls hx hb hml hown hts G X hl fin
  replace hl : lv_has ls 4 [(0, .ref ta.1)] := hl
  refine lv_lconst (v := lN 0) hx hb dX8_all_0 (by decide) ?_
  refine lv_lstore_n (lv' := [(1, .long (lN 0)), (0, .ref ta.1)]) hx hb dX8_all_1 rfl hl (by decide) rfl (fun ls hl => ?_)
  refine lv_iconst (v := nI 0) hx hb dX8_all_2 (by decide) ?_
  refine lv_istore_n (lv' := [(3, .int (nI 0)), (1, .long (lN 0)), (0, .ref ta.1)]) hx hb dX8_all_3 rfl hl (by decide) rfl (fun ls hl => ?_)
  have cut_4 : ∀ (NN : Nat) (w1 : Nat) (h1 : w1 ≤ 5), 5 - w1 < NN → ∀ (H : Heap) (locs : List Loc) (ls : Array Slot), wH D vwCl A s.heap H locs (wcat [thP Z ta F K]) → lv_has ls 4 [(0, .ref ta.1), (1, .long (lN (zsum F w1))), (3, .int (nI w1))] → W p l e { frames := 0, cells := 0, slots := 0, locals := 0 } s m args below meth c H locs 0 0 Q (F0 m 4 ls []) := by
    intro NN
    induction NN with
    | zero => intro w1 h1 hNN; exact absurd hNN (Nat.not_lt_zero _)
    | succ NN ih_4 =>
      intro w1 h1 hNN H locs ls X hl
      refine lv_iload_n hx hb dX8_all_4 rfl (lv_at hl 2 rfl) ?_
      refine lv_iconst (v := nI 5) hx hb dX8_all_5 (by decide) ?_
      refine gn_icmp_ge (tgt := 24) hx hb dX8_all_6 (by decide) (by omega) (by omega) (fun c_6 => ?_) (fun c_6 => ?_)
      ·
        refine lv_lload_n hx hb dX8_all_24 rfl (lv_at hl 1 rfl) ?_
        exact cfin_L (()) (trivial) (rfl) (by rw [show w1 = 5 by omega]) X dX8_all_25 fin
      ·
        refine lv_lload_n hx hb dX8_all_9 rfl (lv_at hl 1 rfl) ?_
        refine lv_aload_n hx hb dX8_all_10 rfl (lv_at hl 0 rfl) ?_
        refine cg_8 G X 0 0 rfl rfl 0 (by decide) (G.2.2.2.1 _ ck_27) rfl rfl dX8_all_11 ?_
        refine lv_iload_n hx hb dX8_all_14 rfl (lv_at hl 2 rfl) ?_
        refine cr_lald G X 0 1 rfl rfl (by omega) (by decide) dX8_all_15 ?_
        refine gl_eq (a := (F w1)) (zcl_in (by omega)) ?_
        refine gn_ladd hx hb dX8_all_16  ?_
        refine lv_lstore_n (lv' := [(1, .long (lN ((zsum F w1) + (F w1)))), (0, .ref ta.1), (3, .int (nI w1))]) hx hb dX8_all_17 rfl hl (by decide) rfl (fun ls hl => ?_)
        refine lv_iinc (v := nI (w1 + 1)) (lv' := [(3, .int (nI (w1 + 1))), (1, .long (lN ((zsum F w1) + (F w1)))), (0, .ref ta.1)]) hx hb dX8_all_18 hl (k := 2) rfl (zn_inc _) (by decide) rfl (fun ls hl => ?_)
        refine lv_goto (tgt := 4) hx hb dX8_all_21 (by decide) ?_
        refine ih_4 (w1 + 1) (by omega) (by omega) _ _ _ (by exact X) (by exact lv_sub hl [2, 1, 0] rfl)
  refine cut_4 _ 0 (Nat.zero_le _) (Nat.lt_succ_self _) _ _ _ (by exact X) (by exact lv_sub hl [2, 1, 0] rfl)
set_option maxHeartbeats 4000000 in
set_option maxRecDepth 100000 in
theorem k8_likeliest {E : (Nat → Prop) → State → Heap → Prop} (hE : cEok E) {l : Launch} {D : va_G} {Z : Nat → ClassId} {ta : Nat × Nat × Nat} {F K : Nat → Nat} (hF : ∀ w, w < 5 → F w < 9223372036854775808) : dtI E l D Z yX8_likeliest (Cond.code yX8_likeliest cX8_likeliest 3 (some .int) :: cW) { frames := 0, cells := 0, slots := 0, locals := 0 } [.ref ta.1] (wcat [thP Z ta F K]) (S := Unit) (fun _ => wcat [thP Z ta F K]) (fun _ => nI (zbest F 5)) (fun _ => True) := by
  refine dtI_of hE (cc := cX8_likeliest) (maxL := 3) (by decide +kernel) (fun w h => List.mem_cons_of_mem _ h) (Nat.le_of_ble_eq_true rfl) ?_
  intro p e s m args below meth c A Q ls hx hb hml hown hts G X hl fin
  replace hl : lv_has ls 3 [(0, .ref ta.1)] := hl
  refine lv_iconst (v := nI 0) hx hb dX8_likeliest_0 (by decide) ?_
  refine lv_istore_n (lv' := [(1, .int (nI 0)), (0, .ref ta.1)]) hx hb dX8_likeliest_1 rfl hl (by decide) rfl (fun ls hl => ?_)
  refine lv_iconst (v := nI 1) hx hb dX8_likeliest_2 (by decide) ?_
  refine lv_istore_n (lv' := [(2, .int (nI 1)), (1, .int (nI 0)), (0, .ref ta.1)]) hx hb dX8_likeliest_3 rfl hl (by decide) rfl (fun ls hl => ?_)
  have cut_4 : ∀ (NN : Nat) (w1 : Nat) (h0 : 0 < w1) (h1 : w1 ≤ 5), 5 - w1 < NN → ∀ (H : Heap) (locs : List Loc) (ls : Array Slot), wH D vwCl A s.heap H locs (wcat [thP Z ta F K]) → lv_has ls 3 [(0, .ref ta.1), (1, .int (nI (zbest F w1))), (2, .int (nI w1))] → W p l e { frames := 0, cells := 0, slots := 0, locals := 0 } s m args below meth c H locs 0 0 Q (F0 m 4 ls []) := by
    intro NN
    induction NN with
    | zero => intro w1 h0 h1 hNN; exact absurd hNN (Nat.not_lt_zero _)
    | succ NN ih_4 =>
      intro w1 h0 h1 hNN H locs ls X hl
      have hzb := zbest_lt F w1 h0
      have q1 := hF (zbest F w1) (by omega)
      refine lv_iload_n hx hb dX8_likeliest_4 rfl (lv_at hl 2 rfl) ?_
      refine lv_iconst (v := nI 5) hx hb dX8_likeliest_5 (by decide) ?_
      refine gn_icmp_ge (tgt := 33) hx hb dX8_likeliest_6 (by decide) (by omega) (by omega) (fun c_6 => ?_) (fun c_6 => ?_)
      ·
        refine lv_iload_n hx hb dX8_likeliest_33 rfl (lv_at hl 1 rfl) ?_
        exact cfin_I (()) (trivial) (rfl) (by rw [show w1 = 5 by omega]) X dX8_likeliest_34 fin
      ·
        refine lv_aload_n hx hb dX8_likeliest_9 rfl (lv_at hl 0 rfl) ?_
        refine cg_8 G X 0 0 rfl rfl 0 (by decide) (G.2.2.2.1 _ ck_27) rfl rfl dX8_likeliest_10 ?_
        refine lv_iload_n hx hb dX8_likeliest_13 rfl (lv_at hl 2 rfl) ?_
        refine cr_lald G X 0 1 rfl rfl (by omega) (by decide) dX8_likeliest_14 ?_
        refine gl_eq (a := (F w1)) (zcl_in (by omega)) ?_
        refine lv_aload_n hx hb dX8_likeliest_15 rfl (lv_at hl 0 rfl) ?_
        refine cg_8 G X 0 0 rfl rfl 0 (by decide) (G.2.2.2.1 _ ck_27) rfl rfl dX8_likeliest_16 ?_
        refine lv_iload_n hx hb dX8_likeliest_19 rfl (lv_at hl 1 rfl) ?_
        refine cr_lald G X 0 1 rfl rfl (by omega) (by decide) dX8_likeliest_20 ?_
        refine gl_eq (a := (F (zbest F w1))) (zcl_in (by omega)) ?_
        refine gn_lc_le (tgt := 27) hx hb dX8_likeliest_21 dX8_likeliest_22 (by decide) (hF w1 (by omega)) (q1) (fun c_21 => ?_) (fun c_21 => ?_)
        ·
          refine lv_iinc (v := nI (w1 + 1)) (lv' := [(2, .int (nI (w1 + 1))), (0, .ref ta.1), (1, .int (nI (zbest F w1)))]) hx hb dX8_likeliest_27 hl (k := 2) rfl (zn_inc _) (by decide) rfl (fun ls hl => ?_)
          refine lv_goto (tgt := 4) hx hb dX8_likeliest_30 (by decide) ?_
          refine ih_4 (w1 + 1) (by omega) (by omega) (by omega) _ _ _ (by exact X) (by first | (rw [show zbest F (w1 + 1) = w1 by rw [zbest, if_pos c_21]]; exact lv_sub hl [1, 2, 0] rfl) | (rw [show zbest F (w1 + 1) = zbest F w1 by rw [zbest, if_neg (by omega)]]; exact lv_sub hl [1, 2, 0] rfl))
        ·
          refine lv_iload_n hx hb dX8_likeliest_25 rfl (lv_at hl 2 rfl) ?_
          refine lv_istore_n (lv' := [(1, .int (nI w1)), (0, .ref ta.1), (2, .int (nI w1))]) hx hb dX8_likeliest_26 rfl hl (by decide) rfl (fun ls hl => ?_)
          refine lv_iinc (v := nI (w1 + 1)) (lv' := [(2, .int (nI (w1 + 1))), (1, .int (nI w1)), (0, .ref ta.1)]) hx hb dX8_likeliest_27 hl (k := 2) rfl (zn_inc _) (by decide) rfl (fun ls hl => ?_)
          refine lv_goto (tgt := 4) hx hb dX8_likeliest_30 (by decide) ?_
          refine ih_4 (w1 + 1) (by omega) (by omega) (by omega) _ _ _ (by exact X) (by first | (rw [show zbest F (w1 + 1) = w1 by rw [zbest, if_pos c_21]]; exact lv_sub hl [2, 1, 0] rfl) | (rw [show zbest F (w1 + 1) = zbest F w1 by rw [zbest, if_neg (by omega)]]; exact lv_sub hl [2, 1, 0] rfl))
  refine cut_4 _ 1 (by omega) (by omega) (Nat.lt_succ_self _) _ _ _ (by exact X) (by rw [zbest_1]; exact lv_sub hl [2, 1, 0] rfl)
set_option maxHeartbeats 4000000 in
set_option maxRecDepth 100000 in
theorem k8_hundredthsOf {E : (Nat → Prop) → State → Heap → Prop} (hE : cEok E) {l : Launch} {D : va_G} {Z : Nat → ClassId} {ta : Nat × Nat × Nat} {F K : Nat → Nat} (xw : Nat) (hF : ∀ w, w < 5 → F w ≤ 100000000000) (hw : xw < 5) : dtL E l D Z yX8_hundredthsOf (Cond.code yX8_hundredthsOf cX8_hundredthsOf 4 (some .long) :: cW) { frames := 1, cells := 0, slots := 0, locals := 23 } [.ref ta.1, .int (nI xw)] (wcat [thP Z ta F K]) (S := Unit) (fun _ => wcat [thP Z ta F K]) (fun _ => lN (if 0 < zsum F 5 then 100 * F xw / zsum F 5 else 0)) (fun _ => True) := by
  refine dtL_of hE (cc := cX8_hundredthsOf) (maxL := 4) (by decide +kernel) (fun w h => List.mem_cons_of_mem _ h) (Nat.le_of_ble_eq_true rfl) ?_
  intro p e s m args below meth c A Q ls hx hb hml hown hts G X hl fin
  replace hl : lv_has ls 4 [(0, .ref ta.1), (1, .int (nI xw))] := hl
  have q1 := hF xw hw
  have q2 := zsum_le (f := F) (b := 100000000000) 5 hF
  refine lv_aload_n hx hb dX8_hundredthsOf_0 rfl (lv_at hl 0 rfl) ?_
  refine dtL_go (w := wcat [thP Z ta F K]) (wf := wcat []) (W1 := fun _ => wcat [thP Z ta F K]) G X (wsel [0] rfl rfl) (run_V (As := []) (rest := []) (n := 0) G hml hts hl.1 (p_recv G X 0 0 rfl rfl rfl) (k8_all hE  _) (cwV 0 hts (cg_V ck_28 ck_303 ck_37 ck_38 ck_35) rfl rfl rfl (by decide +kernel) ⟨Nat.le_of_ble_eq_true rfl, Nat.le_of_ble_eq_true rfl⟩) rfl (Nat.le_of_ble_eq_true rfl) dX8_hundredthsOf_1 ⟨Nat.le_refl _, Nat.le_refl _⟩) (fun _ => wback [0] rfl rfl) (fun H locs _ _ X => ?_)
  refine lv_lstore_n (lv' := [(2, .long (lN (zsum F 5))), (0, .ref ta.1), (1, .int (nI xw))]) hx hb dX8_hundredthsOf_4 rfl hl (by decide) rfl (fun ls hl => ?_)
  refine lv_lload_n hx hb dX8_hundredthsOf_5 rfl (lv_at hl 0 rfl) ?_
  refine lv_lconst (v := lN 0) hx hb dX8_hundredthsOf_6 (by decide) ?_
  refine gn_lc_le (tgt := 26) hx hb dX8_hundredthsOf_7 dX8_hundredthsOf_8 (by decide) (by omega) (by omega) (fun c_7 => ?_) (fun c_7 => ?_)
  ·
    refine lv_lconst (v := lN 0) hx hb dX8_hundredthsOf_26 (by decide) ?_
    exact cfin_L (()) (trivial) (rfl) (by first | rw [if_pos c_7] | rw [if_neg (by omega)]) X dX8_hundredthsOf_27 fin
  ·
    refine gn_ldc2 (v := 100) (k := 100) hx hb G.2.2.1 (G.2.2.2.1 _ ck_302) (by decide) dX8_hundredthsOf_11 ?_
    refine lv_aload_n hx hb dX8_hundredthsOf_14 rfl (lv_at hl 1 rfl) ?_
    refine cg_8 G X 0 0 rfl rfl 0 (by decide) (G.2.2.2.1 _ ck_27) rfl rfl dX8_hundredthsOf_15 ?_
    refine lv_iload_n hx hb dX8_hundredthsOf_18 rfl (lv_at hl 2 rfl) ?_
    refine cr_lald G X 0 1 rfl rfl (by omega) (by decide) dX8_hundredthsOf_19 ?_
    refine gl_eq (a := (F xw)) (zcl_in (by omega)) ?_
    refine gn_lmul hx hb dX8_hundredthsOf_20  ?_
    refine lv_lload_n hx hb dX8_hundredthsOf_21 rfl (lv_at hl 0 rfl) ?_
    refine gn_ldiv hx hb dX8_hundredthsOf_22 (by omega) (by omega) (by omega) ?_
    refine lv_goto (tgt := 27) hx hb dX8_hundredthsOf_23 (by decide) ?_
    exact cfin_L (()) (trivial) (rfl) (by first | rw [if_pos c_7] | rw [if_neg (by omega)]) X dX8_hundredthsOf_27 fin
set_option maxHeartbeats 4000000 in
set_option maxRecDepth 100000 in
theorem k8_hear {E : (Nat → Prop) → State → Heap → Prop} (hE : cEok E) {l : Launch} {D : va_G} {Z : Nat → ClassId} {ta : Nat × Nat × Nat} {F K : Nat → Nat} {La : LA} {τ : MS} (xc : Nat) (xa : Nat) (hod : ∀ k, k < 240 → τ.2 62 k ≤ 100) (hc : xc < 8) (ha : xa < 5 ∨ xa = 4294967295) : dtV E l D Z yX8_hear (Cond.code yX8_hear cX8_hear 6 none :: cW) { frames := 1, cells := 0, slots := 0, locals := 21 } [.ref ta.1, .ref La.1, .int (nI xc), .int (nI xa)] (wcat [thP Z ta F K, landP Z La τ]) (S := Unit) (fun _ => wcat [thP Z ta F (zhe5 τ F (zplc xc xa)), landP Z La τ]) (fun _ => True) := by
  refine dtV_of hE (cc := cX8_hear) (maxL := 6) (by decide +kernel) (fun w h => List.mem_cons_of_mem _ h) (Nat.le_of_ble_eq_true rfl) ?_
  intro p e s m args below meth c A Q ls hx hb hml hown hts G X hl fin
  replace hl : lv_has ls 6 [(0, .ref ta.1), (1, .ref La.1), (2, .int (nI xc)), (3, .int (nI xa))] := hl
  have hp := zplc_lt hc ha
  refine lv_aload_n hx hb dX8_hear_0 rfl (lv_at hl 1 rfl) ?_
  refine cg_2 G X 1 0 rfl rfl 17 (by decide) (G.2.2.2.1 _ ck_305) rfl rfl dX8_hear_1 ?_
  refine lv_iload_n hx hb dX8_hear_4 rfl (lv_at hl 2 rfl) ?_
  refine lv_iload_n hx hb dX8_hear_5 rfl (lv_at hl 3 rfl) ?_
  refine dtI_go (w := wcat []) (wf := wcat [thP Z ta F K, landP Z La τ]) (W1 := fun _ => wcat [thP Z ta F K, landP Z La τ]) G X (wsel [0, 1] rfl rfl) (run_S (As := [.int (nI xc), .int (nI xa)]) (rest := [.ref (La.2.1 17)]) (n := 2) G hml hts hl.1 (k2_oddsPlace hE xc xa _) (va_cwS 2 hts (cg_S ck_109 ck_306 ck_125 ck_79) rfl rfl rfl (by decide +kernel) ⟨Nat.le_of_ble_eq_true rfl, Nat.le_of_ble_eq_true rfl⟩) rfl (Nat.le_of_ble_eq_true rfl) dX8_hear_6 ⟨Nat.le_refl _, Nat.le_refl _⟩) (fun _ => wback [0, 1] rfl rfl) (fun H locs _ _ X => ?_)
  refine gi_to (a := zplc xc xa) (zplc_nI xc xa) ?_
  refine cr_aald G X 1 13 rfl rfl (by omega) (by decide) (if_pos (by omega)) dX8_hear_9 ?_
  refine lv_astore (lv' := [(4, .ref (La.2.2 17 (zplc xc xa))), (0, .ref ta.1), (1, .ref La.1), (2, .int (nI xc)), (3, .int (nI xa))]) hx hb dX8_hear_10 hl (by decide) rfl (fun ls hl => ?_)
  refine lv_iconst (v := nI 0) hx hb dX8_hear_12 (by decide) ?_
  refine lv_istore (lv' := [(5, .int (nI 0)), (4, .ref (La.2.2 17 (zplc xc xa))), (0, .ref ta.1), (1, .ref La.1), (2, .int (nI xc)), (3, .int (nI xa))]) hx hb dX8_hear_13 hl (by decide) rfl (fun ls hl => ?_)
  have cut_15 : ∀ (NN : Nat) (w1 : Nat) (h1 : w1 ≤ 5), 5 - w1 < NN → ∀ (H : Heap) (locs : List Loc) (ls : Array Slot), wH D vwCl A s.heap H locs (wcat [thP Z ta F (zcp (zhe5 τ F (zplc xc xa)) K w1), landP Z La τ]) → lv_has ls 6 [(0, .ref ta.1), (1, .ref La.1), (2, .int (nI xc)), (3, .int (nI xa)), (4, .ref (La.2.2 17 (zplc xc xa))), (5, .int (nI w1))] → W p l e { frames := 1, cells := 0, slots := 0, locals := 21 } s m args below meth c H locs 0 0 Q (F0 m 15 ls []) := by
    intro NN
    induction NN with
    | zero => intro w1 h1 hNN; exact absurd hNN (Nat.not_lt_zero _)
    | succ NN ih_15 =>
      intro w1 h1 hNN H locs ls X hl
      refine lv_iload hx hb dX8_hear_15 (lv_at hl 5 rfl) ?_
      refine lv_iconst (v := nI 5) hx hb dX8_hear_17 (by decide) ?_
      refine gn_icmp_ge (tgt := 48) hx hb dX8_hear_18 (by decide) (by omega) (by omega) (fun c_18 => ?_) (fun c_18 => ?_)
      ·
        exact cfin_V (()) (trivial) (congrArg (fun z => wcat [z, landP Z La τ]) (thP_cong (F := F) (F' := F) (G := zcp (zhe5 τ F (zplc xc xa)) K w1) (G' := (zhe5 τ F (zplc xc xa))) (fun _ _ => rfl) (fun i hi => by rw [show w1 = 5 by omega]; exact zcp_in hi))) X dX8_hear_48 fin
      ·
        refine lv_aload_n hx hb dX8_hear_21 rfl (lv_at hl 0 rfl) ?_
        refine cg_8 G X 0 0 rfl rfl 1 (by decide) (G.2.2.2.1 _ ck_293) rfl rfl dX8_hear_22 ?_
        refine lv_iload hx hb dX8_hear_25 (lv_at hl 5 rfl) ?_
        refine lv_aload_n hx hb dX8_hear_27 rfl (lv_at hl 0 rfl) ?_
        refine cg_8 G X 0 0 rfl rfl 0 (by decide) (G.2.2.2.1 _ ck_27) rfl rfl dX8_hear_28 ?_
        refine lv_iload hx hb dX8_hear_31 (lv_at hl 5 rfl) ?_
        refine cr_lald G X 0 1 rfl rfl (by omega) (by decide) dX8_hear_33 ?_
        refine gl_eq (a := (F w1)) (zcl_in (by omega)) ?_
        refine lv_aload hx hb dX8_hear_34 (lv_at hl 4 rfl) ?_
        refine lv_iload hx hb dX8_hear_36 (lv_at hl 5 rfl) ?_
        have q3 := hod (5 * zplc xc xa + w1) (by omega)
        refine cr_iald G X 1 (zplc xc xa + 32) rfl (landP_r17 (by omega)) (by omega) (by decide) dX8_hear_38 ?_
        refine gi_eq (a := (τ.2 62 (5 * (zplc xc xa) + w1))) (zrow_in (by omega)) ?_
        refine gn_i2l hx hb dX8_hear_39 (by omega) ?_
        refine gn_lmul hx hb dX8_hear_40  ?_
        refine cr_last (ps' := [thP Z ta F (fun b => if b = w1 then (F w1) * (τ.2 62 (5 * (zplc xc xa) + w1)) else (zcp (zhe5 τ F (zplc xc xa)) K w1) b), landP Z La τ]) G X 0 2 rfl rfl (by omega) (by decide) (congrArg (fun z => [z, landP Z La τ]) (thP_s1 (by omega))) dX8_hear_41 (fun H locs X => ?_)
        refine lv_iinc (v := nI (w1 + 1)) (lv' := [(5, .int (nI (w1 + 1))), (0, .ref ta.1), (1, .ref La.1), (2, .int (nI xc)), (3, .int (nI xa)), (4, .ref (La.2.2 17 (zplc xc xa)))]) hx hb dX8_hear_42 hl (k := 5) rfl (zn_inc _) (by decide) rfl (fun ls hl => ?_)
        refine lv_goto (tgt := 15) hx hb dX8_hear_45 (by decide) ?_
        refine ih_15 (w1 + 1) (by omega) (by omega) _ _ _ (by exact wx_eq (congrArg (fun z => wcat [thP Z ta F z, landP Z La τ]) (zcp_1 rfl)) X) (by exact lv_sub hl [1, 2, 3, 4, 5, 0] rfl)
  refine cut_15 _ 0 (Nat.zero_le _) (Nat.lt_succ_self _) _ _ _ (by exact wx_eq (congrArg (fun z => wcat [thP Z ta F z, landP Z La τ]) (show K = zcp (zhe5 τ F (zplc xc xa)) K 0 from funext fun a => (zcp_out (Nat.zero_le a)).symm)) X) (by exact lv_sub hl [2, 3, 4, 5, 1, 0] rfl)
set_option maxHeartbeats 4000000 in
set_option maxRecDepth 100000 in
theorem k8_hearTwice {E : (Nat → Prop) → State → Heap → Prop} (hE : cEok E) {l : Launch} {D : va_G} {Z : Nat → ClassId} {ta : Nat × Nat × Nat} {F K : Nat → Nat} {La : LA} {τ : MS} (xc : Nat) (xa : Nat) (xq : Nat) (hod : ∀ k, k < 240 → τ.2 62 k ≤ 100) (hc : xc < 8) (ha : xa < 5 ∨ xa = 4294967295) (hq : xq ≤ 100) : dtV E l D Z yX8_hearTwice (Cond.code yX8_hearTwice cX8_hearTwice 7 none :: cW) { frames := 1, cells := 0, slots := 0, locals := 21 } [.ref ta.1, .ref La.1, .int (nI xc), .int (nI xa), .int (nI xq)] (wcat [thP Z ta F K, landP Z La τ]) (S := Unit) (fun _ => wcat [thP Z ta F (zhe2 τ F (zplc xc xa) xq), landP Z La τ]) (fun _ => True) := by
  refine dtV_of hE (cc := cX8_hearTwice) (maxL := 7) (by decide +kernel) (fun w h => List.mem_cons_of_mem _ h) (Nat.le_of_ble_eq_true rfl) ?_
  intro p e s m args below meth c A Q ls hx hb hml hown hts G X hl fin
  replace hl : lv_has ls 7 [(0, .ref ta.1), (1, .ref La.1), (2, .int (nI xc)), (3, .int (nI xa)), (4, .int (nI xq))] := hl
  have hp := zplc_lt hc ha
  refine lv_aload_n hx hb dX8_hearTwice_0 rfl (lv_at hl 1 rfl) ?_
  refine cg_2 G X 1 0 rfl rfl 17 (by decide) (G.2.2.2.1 _ ck_305) rfl rfl dX8_hearTwice_1 ?_
  refine lv_iload_n hx hb dX8_hearTwice_4 rfl (lv_at hl 2 rfl) ?_
  refine lv_iload_n hx hb dX8_hearTwice_5 rfl (lv_at hl 3 rfl) ?_
  refine dtI_go (w := wcat []) (wf := wcat [thP Z ta F K, landP Z La τ]) (W1 := fun _ => wcat [thP Z ta F K, landP Z La τ]) G X (wsel [0, 1] rfl rfl) (run_S (As := [.int (nI xc), .int (nI xa)]) (rest := [.ref (La.2.1 17)]) (n := 2) G hml hts hl.1 (k2_oddsPlace hE xc xa _) (va_cwS 2 hts (cg_S ck_109 ck_306 ck_125 ck_79) rfl rfl rfl (by decide +kernel) ⟨Nat.le_of_ble_eq_true rfl, Nat.le_of_ble_eq_true rfl⟩) rfl (Nat.le_of_ble_eq_true rfl) dX8_hearTwice_6 ⟨Nat.le_refl _, Nat.le_refl _⟩) (fun _ => wback [0, 1] rfl rfl) (fun H locs _ _ X => ?_)
  refine gi_to (a := zplc xc xa) (zplc_nI xc xa) ?_
  refine cr_aald G X 1 13 rfl rfl (by omega) (by decide) (if_pos (by omega)) dX8_hearTwice_9 ?_
  refine lv_astore (lv' := [(5, .ref (La.2.2 17 (zplc xc xa))), (0, .ref ta.1), (1, .ref La.1), (2, .int (nI xc)), (3, .int (nI xa)), (4, .int (nI xq))]) hx hb dX8_hearTwice_10 hl (by decide) rfl (fun ls hl => ?_)
  refine lv_iconst (v := nI 0) hx hb dX8_hearTwice_12 (by decide) ?_
  refine lv_istore (lv' := [(6, .int (nI 0)), (5, .ref (La.2.2 17 (zplc xc xa))), (0, .ref ta.1), (1, .ref La.1), (2, .int (nI xc)), (3, .int (nI xa)), (4, .int (nI xq))]) hx hb dX8_hearTwice_13 hl (by decide) rfl (fun ls hl => ?_)
  have cut_15 : ∀ (NN : Nat) (w1 : Nat) (h1 : w1 ≤ 5), 5 - w1 < NN → ∀ (H : Heap) (locs : List Loc) (ls : Array Slot), wH D vwCl A s.heap H locs (wcat [thP Z ta F (zcp (zhe2 τ F (zplc xc xa) xq) K w1), landP Z La τ]) → lv_has ls 7 [(0, .ref ta.1), (1, .ref La.1), (2, .int (nI xc)), (3, .int (nI xa)), (4, .int (nI xq)), (5, .ref (La.2.2 17 (zplc xc xa))), (6, .int (nI w1))] → W p l e { frames := 1, cells := 0, slots := 0, locals := 21 } s m args below meth c H locs 0 0 Q (F0 m 15 ls []) := by
    intro NN
    induction NN with
    | zero => intro w1 h1 hNN; exact absurd hNN (Nat.not_lt_zero _)
    | succ NN ih_15 =>
      intro w1 h1 hNN H locs ls X hl
      refine lv_iload hx hb dX8_hearTwice_15 (lv_at hl 6 rfl) ?_
      refine lv_iconst (v := nI 5) hx hb dX8_hearTwice_17 (by decide) ?_
      refine gn_icmp_ge (tgt := 67) hx hb dX8_hearTwice_18 (by decide) (by omega) (by omega) (fun c_18 => ?_) (fun c_18 => ?_)
      ·
        exact cfin_V (()) (trivial) (congrArg (fun z => wcat [z, landP Z La τ]) (thP_cong (F := F) (F' := F) (G := zcp (zhe2 τ F (zplc xc xa) xq) K w1) (G' := (zhe2 τ F (zplc xc xa) xq)) (fun _ _ => rfl) (fun i hi => by rw [show w1 = 5 by omega]; exact zcp_in hi))) X dX8_hearTwice_67 fin
      ·
        refine lv_aload_n hx hb dX8_hearTwice_21 rfl (lv_at hl 0 rfl) ?_
        refine cg_8 G X 0 0 rfl rfl 1 (by decide) (G.2.2.2.1 _ ck_293) rfl rfl dX8_hearTwice_22 ?_
        refine lv_iload hx hb dX8_hearTwice_25 (lv_at hl 6 rfl) ?_
        refine lv_aload_n hx hb dX8_hearTwice_27 rfl (lv_at hl 0 rfl) ?_
        refine cg_8 G X 0 0 rfl rfl 0 (by decide) (G.2.2.2.1 _ ck_27) rfl rfl dX8_hearTwice_28 ?_
        refine lv_iload hx hb dX8_hearTwice_31 (lv_at hl 6 rfl) ?_
        refine cr_lald G X 0 1 rfl rfl (by omega) (by decide) dX8_hearTwice_33 ?_
        refine gl_eq (a := (F w1)) (zcl_in (by omega)) ?_
        refine lv_aload hx hb dX8_hearTwice_34 (lv_at hl 5 rfl) ?_
        refine lv_iload hx hb dX8_hearTwice_36 (lv_at hl 6 rfl) ?_
        have q3 := hod (5 * zplc xc xa + w1) (by omega)
        refine cr_iald G X 1 (zplc xc xa + 32) rfl (landP_r17 (by omega)) (by omega) (by decide) dX8_hearTwice_38 ?_
        refine gi_eq (a := (τ.2 62 (5 * (zplc xc xa) + w1))) (zrow_in (by omega)) ?_
        refine gn_i2l hx hb dX8_hearTwice_39 (by omega) ?_
        refine gn_lmul hx hb dX8_hearTwice_40  ?_
        refine lv_bipush (v := nI 100) hx hb dX8_hearTwice_41 (by decide) ?_
        refine lv_iload hx hb dX8_hearTwice_43 (lv_at hl 4 rfl) ?_
        refine gn_imul hx hb dX8_hearTwice_45  ?_
        refine lv_bipush (v := nI 100) hx hb dX8_hearTwice_46 (by decide) ?_
        refine lv_iload hx hb dX8_hearTwice_48 (lv_at hl 4 rfl) ?_
        refine gn_isub hx hb dX8_hearTwice_50 (by omega) ?_
        refine lv_aload hx hb dX8_hearTwice_51 (lv_at hl 5 rfl) ?_
        refine lv_iload hx hb dX8_hearTwice_53 (lv_at hl 6 rfl) ?_
        refine cr_iald G X 1 (zplc xc xa + 32) rfl (landP_r17 (by omega)) (by omega) (by decide) dX8_hearTwice_55 ?_
        refine gi_eq (a := (τ.2 62 (5 * (zplc xc xa) + w1))) (zrow_in (by omega)) ?_
        refine gn_imul hx hb dX8_hearTwice_56  ?_
        refine gn_iadd hx hb dX8_hearTwice_57  ?_
        refine gn_i2l hx hb dX8_hearTwice_58 (by have q3 := hod (5 * zplc xc xa + w1) (by omega); have q4 := Nat.mul_le_mul (show 100 - xq ≤ 100 by omega) q3; omega) ?_
        refine gn_lmul hx hb dX8_hearTwice_59  ?_
        refine cr_last (ps' := [thP Z ta F (fun b => if b = w1 then ((F w1) * (τ.2 62 (5 * (zplc xc xa) + w1))) * ((100 * xq) + ((100 - xq) * (τ.2 62 (5 * (zplc xc xa) + w1)))) else (zcp (zhe2 τ F (zplc xc xa) xq) K w1) b), landP Z La τ]) G X 0 2 rfl rfl (by omega) (by decide) (congrArg (fun z => [z, landP Z La τ]) (thP_s1 (by omega))) dX8_hearTwice_60 (fun H locs X => ?_)
        refine lv_iinc (v := nI (w1 + 1)) (lv' := [(6, .int (nI (w1 + 1))), (0, .ref ta.1), (1, .ref La.1), (2, .int (nI xc)), (3, .int (nI xa)), (4, .int (nI xq)), (5, .ref (La.2.2 17 (zplc xc xa)))]) hx hb dX8_hearTwice_61 hl (k := 6) rfl (zn_inc _) (by decide) rfl (fun ls hl => ?_)
        refine lv_goto (tgt := 15) hx hb dX8_hearTwice_64 (by decide) ?_
        refine ih_15 (w1 + 1) (by omega) (by omega) _ _ _ (by exact wx_eq (congrArg (fun z => wcat [thP Z ta F z, landP Z La τ]) (zcp_1 rfl)) X) (by exact lv_sub hl [1, 2, 3, 4, 5, 6, 0] rfl)
  refine cut_15 _ 0 (Nat.zero_le _) (Nat.lt_succ_self _) _ _ _ (by exact wx_eq (congrArg (fun z => wcat [thP Z ta F z, landP Z La τ]) (show K = zcp (zhe2 τ F (zplc xc xa) xq) K 0 from funext fun a => (zcp_out (Nat.zero_le a)).symm)) X) (by exact lv_sub hl [2, 3, 4, 5, 6, 1, 0] rfl)
set_option maxHeartbeats 4000000 in
set_option maxRecDepth 100000 in
theorem k8_findRoad {E : (Nat → Prop) → State → Heap → Prop} (hE : cEok E) {l : Launch} {D : va_G} {Z : Nat → ClassId} {ta : Nat × Nat × Nat} {F K : Nat → Nat} {La : LA} {τ : MS} (xr : Nat) (xb : Nat) (hsh : ∀ w, w < 5 → τ.2 7 w < 2147483648) (hr : xr < 32) (hb2 : xb < 2) : dtV E l D Z yX8_findRoad (Cond.code yX8_findRoad cX8_findRoad 5 none :: cW) { frames := 1, cells := 0, slots := 0, locals := 22 } [.ref ta.1, .ref La.1, .int (nI xr), .int (nI xb)] (wcat [thP Z ta F K, landP Z La τ]) (S := Unit) (fun _ => wcat [thP Z ta F (zseeM τ F xr xb), landP Z La τ]) (fun _ => True) := by
  refine dtV_of hE (cc := cX8_findRoad) (maxL := 5) (by decide +kernel) (fun w h => List.mem_cons_of_mem _ h) (Nat.le_of_ble_eq_true rfl) ?_
  intro p e s m args below meth c A Q ls hx hb hml hown hts G X hl fin
  replace hl : lv_has ls 5 [(0, .ref ta.1), (1, .ref La.1), (2, .int (nI xr)), (3, .int (nI xb))] := hl
  refine lv_iconst (v := nI 0) hx hb dX8_findRoad_0 (by decide) ?_
  refine lv_istore (lv' := [(4, .int (nI 0)), (0, .ref ta.1), (1, .ref La.1), (2, .int (nI xr)), (3, .int (nI xb))]) hx hb dX8_findRoad_1 hl (by decide) rfl (fun ls hl => ?_)
  have cut_3 : ∀ (NN : Nat) (w1 : Nat) (h1 : w1 ≤ 5), 5 - w1 < NN → ∀ (H : Heap) (locs : List Loc) (ls : Array Slot), wH D vwCl A s.heap H locs (wcat [thP Z ta F (zcp (zseeM τ F xr xb) K w1), landP Z La τ]) → lv_has ls 5 [(0, .ref ta.1), (1, .ref La.1), (2, .int (nI xr)), (3, .int (nI xb)), (4, .int (nI w1))] → W p l e { frames := 1, cells := 0, slots := 0, locals := 22 } s m args below meth c H locs 0 0 Q (F0 m 3 ls []) := by
    intro NN
    induction NN with
    | zero => intro w1 h1 hNN; exact absurd hNN (Nat.not_lt_zero _)
    | succ NN ih_3 =>
      intro w1 h1 hNN H locs ls X hl
      refine lv_iload hx hb dX8_findRoad_3 (lv_at hl 4 rfl) ?_
      refine lv_iconst (v := nI 5) hx hb dX8_findRoad_5 (by decide) ?_
      refine gn_icmp_ge (tgt := 44) hx hb dX8_findRoad_6 (by decide) (by omega) (by omega) (fun c_6 => ?_) (fun c_6 => ?_)
      ·
        exact cfin_V (()) (trivial) (congrArg (fun z => wcat [z, landP Z La τ]) (thP_cong (F := F) (F' := F) (G := zcp (zseeM τ F xr xb) K w1) (G' := (zseeM τ F xr xb)) (fun _ _ => rfl) (fun i hi => by rw [show w1 = 5 by omega]; exact zcp_in hi))) X dX8_findRoad_44 fin
      ·
        refine lv_aload_n hx hb dX8_findRoad_9 rfl (lv_at hl 0 rfl) ?_
        refine cg_8 G X 0 0 rfl rfl 1 (by decide) (G.2.2.2.1 _ ck_293) rfl rfl dX8_findRoad_10 ?_
        refine lv_iload hx hb dX8_findRoad_13 (lv_at hl 4 rfl) ?_
        refine lv_aload_n hx hb dX8_findRoad_15 rfl (lv_at hl 1 rfl) ?_
        refine lv_iload hx hb dX8_findRoad_16 (lv_at hl 4 rfl) ?_
        refine lv_iload_n hx hb dX8_findRoad_18 rfl (lv_at hl 2 rfl) ?_
        refine dtI_go (w := wcat [landP Z La τ]) (wf := wcat [thP Z ta F (zcp (zseeM τ F xr xb) K w1)]) (W1 := fun _ => wcat [thP Z ta F (zcp (zseeM τ F xr xb) K w1), landP Z La τ]) G X (wsel [1, 0] rfl rfl) (run_V (As := [.int (nI w1), .int (nI xr)]) (rest := [.int (nI w1), .ref ta.2.2]) (n := 2) G hml hts hl.1 (p_recv G X 1 0 rfl rfl rfl) (k2_isShut hE w1 xr (by omega) (by omega) (hsh _ (by omega)) _) (cwV 2 hts (cg_V ck_105 ck_309 ck_114 ck_115 ck_79) rfl rfl rfl (by decide +kernel) ⟨Nat.le_of_ble_eq_true rfl, Nat.le_of_ble_eq_true rfl⟩) rfl (Nat.le_of_ble_eq_true rfl) dX8_findRoad_19 ⟨Nat.le_refl _, Nat.le_refl _⟩) (fun _ => wback [1, 0] rfl rfl) (fun H locs _ _ X => ?_)
        refine gb_asN ?_
        refine lv_iload_n hx hb dX8_findRoad_22 rfl (lv_at hl 3 rfl) ?_
        refine gn_icmp_ne (tgt := 30) hx hb dX8_findRoad_23 (by decide) (by split <;> omega) (by omega) (fun c_23 => ?_) (fun c_23 => ?_)
        ·
          refine lv_aload_n hx hb dX8_findRoad_30 rfl (lv_at hl 0 rfl) ?_
          refine cg_8 G X 0 0 rfl rfl 0 (by decide) (G.2.2.2.1 _ ck_27) rfl rfl dX8_findRoad_31 ?_
          refine lv_iload hx hb dX8_findRoad_34 (lv_at hl 4 rfl) ?_
          refine cr_lald G X 0 1 rfl rfl (by omega) (by decide) dX8_findRoad_36 ?_
          refine gl_eq (a := (F w1)) (zcl_in (by omega)) ?_
          refine cr_last (ps' := [thP Z ta F (fun b => if b = w1 then F w1 else (zcp (zseeM τ F xr xb) K w1) b), landP Z La τ]) G X 0 2 rfl rfl (by omega) (by decide) (congrArg (fun z => [z, landP Z La τ]) (thP_s1 (by omega))) dX8_findRoad_37 (fun H locs X => ?_)
          refine lv_iinc (v := nI (w1 + 1)) (lv' := [(4, .int (nI (w1 + 1))), (0, .ref ta.1), (1, .ref La.1), (2, .int (nI xr)), (3, .int (nI xb))]) hx hb dX8_findRoad_38 hl (k := 4) rfl (zn_inc _) (by decide) rfl (fun ls hl => ?_)
          refine lv_goto (tgt := 3) hx hb dX8_findRoad_41 (by decide) ?_
          refine ih_3 (w1 + 1) (by omega) (by omega) _ _ _ (by first | exact wx_eq (congrArg (fun z => wcat [thP Z ta F z, landP Z La τ]) (zcp_1 (show _ = zseeM τ F xr xb w1 from (if_pos c_23).symm))) X | exact wx_eq (congrArg (fun z => wcat [thP Z ta F z, landP Z La τ]) (zcp_1 (show _ = zseeM τ F xr xb w1 from (if_neg c_23).symm))) X) (by exact lv_sub hl [1, 2, 3, 4, 0] rfl)
        ·
          refine lv_lconst (v := lN 0) hx hb dX8_findRoad_26 (by decide) ?_
          refine lv_goto (tgt := 37) hx hb dX8_findRoad_27 (by decide) ?_
          refine cr_last (ps' := [thP Z ta F (fun b => if b = w1 then 0 else (zcp (zseeM τ F xr xb) K w1) b), landP Z La τ]) G X 0 2 rfl rfl (by omega) (by decide) (congrArg (fun z => [z, landP Z La τ]) (thP_s1 (by omega))) dX8_findRoad_37 (fun H locs X => ?_)
          refine lv_iinc (v := nI (w1 + 1)) (lv' := [(4, .int (nI (w1 + 1))), (0, .ref ta.1), (1, .ref La.1), (2, .int (nI xr)), (3, .int (nI xb))]) hx hb dX8_findRoad_38 hl (k := 4) rfl (zn_inc _) (by decide) rfl (fun ls hl => ?_)
          refine lv_goto (tgt := 3) hx hb dX8_findRoad_41 (by decide) ?_
          refine ih_3 (w1 + 1) (by omega) (by omega) _ _ _ (by first | exact wx_eq (congrArg (fun z => wcat [thP Z ta F z, landP Z La τ]) (zcp_1 (show _ = zseeM τ F xr xb w1 from (if_pos c_23).symm))) X | exact wx_eq (congrArg (fun z => wcat [thP Z ta F z, landP Z La τ]) (zcp_1 (show _ = zseeM τ F xr xb w1 from (if_neg c_23).symm))) X) (by exact lv_sub hl [1, 2, 3, 4, 0] rfl)
  refine cut_3 _ 0 (Nat.zero_le _) (Nat.lt_succ_self _) _ _ _ (by exact wx_eq (congrArg (fun z => wcat [thP Z ta F z, landP Z La τ]) (show K = zcp (zseeM τ F xr xb) K 0 from funext fun a => (zcp_out (Nat.zero_le a)).symm)) X) (by exact lv_sub hl [1, 2, 3, 4, 0] rfl)
set_option maxHeartbeats 4000000 in
set_option maxRecDepth 100000 in
theorem k8_findNoGoal {E : (Nat → Prop) → State → Heap → Prop} (hE : cEok E) {l : Launch} {D : va_G} {Z : Nat → ClassId} {ta : Nat × Nat × Nat} {F K : Nat → Nat} {La : LA} {τ : MS} (xc : Nat) (hgl : ∀ w, w < 5 → τ.2 6 w < 4294967296) (hc : xc < 4294967296) : dtV E l D Z yX8_findNoGoal (Cond.code yX8_findNoGoal cX8_findNoGoal 4 none :: cW) { frames := 0, cells := 0, slots := 0, locals := 0 } [.ref ta.1, .ref La.1, .int (nI xc)] (wcat [thP Z ta F K, landP Z La τ]) (S := Unit) (fun _ => wcat [thP Z ta F (znog τ F xc), landP Z La τ]) (fun _ => True) := by
  refine dtV_of hE (cc := cX8_findNoGoal) (maxL := 4) (by decide +kernel) (fun w h => List.mem_cons_of_mem _ h) (Nat.le_of_ble_eq_true rfl) ?_
  intro p e s m args below meth c A Q ls hx hb hml hown hts G X hl fin
  replace hl : lv_has ls 4 [(0, .ref ta.1), (1, .ref La.1), (2, .int (nI xc))] := hl
  refine lv_iconst (v := nI 0) hx hb dX8_findNoGoal_0 (by decide) ?_
  refine lv_istore_n (lv' := [(3, .int (nI 0)), (0, .ref ta.1), (1, .ref La.1), (2, .int (nI xc))]) hx hb dX8_findNoGoal_1 rfl hl (by decide) rfl (fun ls hl => ?_)
  have cut_2 : ∀ (NN : Nat) (w1 : Nat) (h1 : w1 ≤ 5), 5 - w1 < NN → ∀ (H : Heap) (locs : List Loc) (ls : Array Slot), wH D vwCl A s.heap H locs (wcat [thP Z ta F (zcp (znog τ F xc) K w1), landP Z La τ]) → lv_has ls 4 [(0, .ref ta.1), (1, .ref La.1), (2, .int (nI xc)), (3, .int (nI w1))] → W p l e { frames := 0, cells := 0, slots := 0, locals := 0 } s m args below meth c H locs 0 0 Q (F0 m 2 ls []) := by
    intro NN
    induction NN with
    | zero => intro w1 h1 hNN; exact absurd hNN (Nat.not_lt_zero _)
    | succ NN ih_2 =>
      intro w1 h1 hNN H locs ls X hl
      refine lv_iload_n hx hb dX8_findNoGoal_2 rfl (lv_at hl 3 rfl) ?_
      refine lv_iconst (v := nI 5) hx hb dX8_findNoGoal_3 (by decide) ?_
      refine gn_icmp_ge (tgt := 39) hx hb dX8_findNoGoal_4 (by decide) (by omega) (by omega) (fun c_4 => ?_) (fun c_4 => ?_)
      ·
        exact cfin_V (()) (trivial) (congrArg (fun z => wcat [z, landP Z La τ]) (thP_cong (F := F) (F' := F) (G := zcp (znog τ F xc) K w1) (G' := (znog τ F xc)) (fun _ _ => rfl) (fun i hi => by rw [show w1 = 5 by omega]; exact zcp_in hi))) X dX8_findNoGoal_39 fin
      ·
        refine lv_aload_n hx hb dX8_findNoGoal_7 rfl (lv_at hl 0 rfl) ?_
        refine cg_8 G X 0 0 rfl rfl 1 (by decide) (G.2.2.2.1 _ ck_293) rfl rfl dX8_findNoGoal_8 ?_
        refine lv_iload_n hx hb dX8_findNoGoal_11 rfl (lv_at hl 3 rfl) ?_
        refine lv_aload_n hx hb dX8_findNoGoal_12 rfl (lv_at hl 1 rfl) ?_
        refine cg_2 G X 1 0 rfl rfl 6 (by decide) (G.2.2.2.1 _ ck_311) rfl rfl dX8_findNoGoal_13 ?_
        refine lv_iload_n hx hb dX8_findNoGoal_16 rfl (lv_at hl 3 rfl) ?_
        refine cr_iald G X 1 5 rfl rfl (by omega) (by decide) dX8_findNoGoal_17 ?_
        refine gi_eq (a := (τ.2 6 w1)) (zcl_in (by omega)) ?_
        refine lv_iload_n hx hb dX8_findNoGoal_18 rfl (lv_at hl 2 rfl) ?_
        refine gn_icmp_ne (tgt := 26) hx hb dX8_findNoGoal_19 (by decide) (by have := hgl w1 (by omega); omega) (by omega) (fun c_19 => ?_) (fun c_19 => ?_)
        ·
          refine lv_aload_n hx hb dX8_findNoGoal_26 rfl (lv_at hl 0 rfl) ?_
          refine cg_8 G X 0 0 rfl rfl 0 (by decide) (G.2.2.2.1 _ ck_27) rfl rfl dX8_findNoGoal_27 ?_
          refine lv_iload_n hx hb dX8_findNoGoal_30 rfl (lv_at hl 3 rfl) ?_
          refine cr_lald G X 0 1 rfl rfl (by omega) (by decide) dX8_findNoGoal_31 ?_
          refine gl_eq (a := (F w1)) (zcl_in (by omega)) ?_
          refine cr_last (ps' := [thP Z ta F (fun b => if b = w1 then F w1 else (zcp (znog τ F xc) K w1) b), landP Z La τ]) G X 0 2 rfl rfl (by omega) (by decide) (congrArg (fun z => [z, landP Z La τ]) (thP_s1 (by omega))) dX8_findNoGoal_32 (fun H locs X => ?_)
          refine lv_iinc (v := nI (w1 + 1)) (lv' := [(3, .int (nI (w1 + 1))), (0, .ref ta.1), (1, .ref La.1), (2, .int (nI xc))]) hx hb dX8_findNoGoal_33 hl (k := 3) rfl (zn_inc _) (by decide) rfl (fun ls hl => ?_)
          refine lv_goto (tgt := 2) hx hb dX8_findNoGoal_36 (by decide) ?_
          refine ih_2 (w1 + 1) (by omega) (by omega) _ _ _ (by first | exact wx_eq (congrArg (fun z => wcat [thP Z ta F z, landP Z La τ]) (zcp_1 (show _ = znog τ F xc w1 from (if_pos c_19).symm))) X | exact wx_eq (congrArg (fun z => wcat [thP Z ta F z, landP Z La τ]) (zcp_1 (show _ = znog τ F xc w1 from (if_neg c_19).symm))) X) (by exact lv_sub hl [1, 2, 3, 0] rfl)
        ·
          refine lv_lconst (v := lN 0) hx hb dX8_findNoGoal_22 (by decide) ?_
          refine lv_goto (tgt := 32) hx hb dX8_findNoGoal_23 (by decide) ?_
          refine cr_last (ps' := [thP Z ta F (fun b => if b = w1 then 0 else (zcp (znog τ F xc) K w1) b), landP Z La τ]) G X 0 2 rfl rfl (by omega) (by decide) (congrArg (fun z => [z, landP Z La τ]) (thP_s1 (by omega))) dX8_findNoGoal_32 (fun H locs X => ?_)
          refine lv_iinc (v := nI (w1 + 1)) (lv' := [(3, .int (nI (w1 + 1))), (0, .ref ta.1), (1, .ref La.1), (2, .int (nI xc))]) hx hb dX8_findNoGoal_33 hl (k := 3) rfl (zn_inc _) (by decide) rfl (fun ls hl => ?_)
          refine lv_goto (tgt := 2) hx hb dX8_findNoGoal_36 (by decide) ?_
          refine ih_2 (w1 + 1) (by omega) (by omega) _ _ _ (by first | exact wx_eq (congrArg (fun z => wcat [thP Z ta F z, landP Z La τ]) (zcp_1 (show _ = znog τ F xc w1 from (if_pos c_19).symm))) X | exact wx_eq (congrArg (fun z => wcat [thP Z ta F z, landP Z La τ]) (zcp_1 (show _ = znog τ F xc w1 from (if_neg c_19).symm))) X) (by exact lv_sub hl [1, 2, 3, 0] rfl)
  refine cut_2 _ 0 (Nat.zero_le _) (Nat.lt_succ_self _) _ _ _ (by exact wx_eq (congrArg (fun z => wcat [thP Z ta F z, landP Z La τ]) (show K = zcp (znog τ F xc) K 0 from funext fun a => (zcp_out (Nat.zero_le a)).symm)) X) (by exact lv_sub hl [1, 2, 3, 0] rfl)
set_option maxHeartbeats 4000000 in
set_option maxRecDepth 100000 in
theorem k8_giveUp {E : (Nat → Prop) → State → Heap → Prop} (hE : cEok E) {l : Launch} {D : va_G} {Z : Nat → ClassId} {ta : Nat × Nat × Nat} {F K : Nat → Nat} (xx : Nat) (hx2 : xx < 4294967296) : dtV E l D Z yX8_giveUp (Cond.code yX8_giveUp cX8_giveUp 3 none :: cW) { frames := 0, cells := 0, slots := 0, locals := 0 } [.ref ta.1, .int (nI xx)] (wcat [thP Z ta F K]) (S := Unit) (fun _ => wcat [thP Z ta F (zgiv F xx)]) (fun _ => True) := by
  refine dtV_of hE (cc := cX8_giveUp) (maxL := 3) (by decide +kernel) (fun w h => List.mem_cons_of_mem _ h) (Nat.le_of_ble_eq_true rfl) ?_
  intro p e s m args below meth c A Q ls hx hb hml hown hts G X hl fin
  replace hl : lv_has ls 3 [(0, .ref ta.1), (1, .int (nI xx))] := hl
  refine lv_iconst (v := nI 0) hx hb dX8_giveUp_0 (by decide) ?_
  refine lv_istore_n (lv' := [(2, .int (nI 0)), (0, .ref ta.1), (1, .int (nI xx))]) hx hb dX8_giveUp_1 rfl hl (by decide) rfl (fun ls hl => ?_)
  have cut_2 : ∀ (NN : Nat) (w1 : Nat) (h1 : w1 ≤ 5), 5 - w1 < NN → ∀ (H : Heap) (locs : List Loc) (ls : Array Slot), wH D vwCl A s.heap H locs (wcat [thP Z ta F (zcp (zgiv F xx) K w1)]) → lv_has ls 3 [(0, .ref ta.1), (1, .int (nI xx)), (2, .int (nI w1))] → W p l e { frames := 0, cells := 0, slots := 0, locals := 0 } s m args below meth c H locs 0 0 Q (F0 m 2 ls []) := by
    intro NN
    induction NN with
    | zero => intro w1 h1 hNN; exact absurd hNN (Nat.not_lt_zero _)
    | succ NN ih_2 =>
      intro w1 h1 hNN H locs ls X hl
      refine lv_iload_n hx hb dX8_giveUp_2 rfl (lv_at hl 2 rfl) ?_
      refine lv_iconst (v := nI 5) hx hb dX8_giveUp_3 (by decide) ?_
      refine gn_icmp_ge (tgt := 34) hx hb dX8_giveUp_4 (by decide) (by omega) (by omega) (fun c_4 => ?_) (fun c_4 => ?_)
      ·
        exact cfin_V (()) (trivial) (congrArg (fun z => wcat [z]) (thP_cong (F := F) (F' := F) (G := zcp (zgiv F xx) K w1) (G' := (zgiv F xx)) (fun _ _ => rfl) (fun i hi => by rw [show w1 = 5 by omega]; exact zcp_in hi))) X dX8_giveUp_34 fin
      ·
        refine lv_aload_n hx hb dX8_giveUp_7 rfl (lv_at hl 0 rfl) ?_
        refine cg_8 G X 0 0 rfl rfl 1 (by decide) (G.2.2.2.1 _ ck_293) rfl rfl dX8_giveUp_8 ?_
        refine lv_iload_n hx hb dX8_giveUp_11 rfl (lv_at hl 2 rfl) ?_
        refine lv_iload_n hx hb dX8_giveUp_12 rfl (lv_at hl 2 rfl) ?_
        refine lv_iload_n hx hb dX8_giveUp_13 rfl (lv_at hl 1 rfl) ?_
        refine gn_icmp_ne (tgt := 21) hx hb dX8_giveUp_14 (by decide) (by omega) (by omega) (fun c_14 => ?_) (fun c_14 => ?_)
        ·
          refine lv_aload_n hx hb dX8_giveUp_21 rfl (lv_at hl 0 rfl) ?_
          refine cg_8 G X 0 0 rfl rfl 0 (by decide) (G.2.2.2.1 _ ck_27) rfl rfl dX8_giveUp_22 ?_
          refine lv_iload_n hx hb dX8_giveUp_25 rfl (lv_at hl 2 rfl) ?_
          refine cr_lald G X 0 1 rfl rfl (by omega) (by decide) dX8_giveUp_26 ?_
          refine gl_eq (a := (F w1)) (zcl_in (by omega)) ?_
          refine cr_last (ps' := [thP Z ta F (fun b => if b = w1 then F w1 else (zcp (zgiv F xx) K w1) b)]) G X 0 2 rfl rfl (by omega) (by decide) (congrArg (fun z => [z]) (thP_s1 (by omega))) dX8_giveUp_27 (fun H locs X => ?_)
          refine lv_iinc (v := nI (w1 + 1)) (lv' := [(2, .int (nI (w1 + 1))), (0, .ref ta.1), (1, .int (nI xx))]) hx hb dX8_giveUp_28 hl (k := 2) rfl (zn_inc _) (by decide) rfl (fun ls hl => ?_)
          refine lv_goto (tgt := 2) hx hb dX8_giveUp_31 (by decide) ?_
          refine ih_2 (w1 + 1) (by omega) (by omega) _ _ _ (by first | exact wx_eq (congrArg (fun z => wcat [thP Z ta F z]) (zcp_1 (show _ = (zgiv F xx) w1 from (if_pos c_14).symm))) X | exact wx_eq (congrArg (fun z => wcat [thP Z ta F z]) (zcp_1 (show _ = (zgiv F xx) w1 from (if_neg c_14).symm))) X) (by exact lv_sub hl [1, 2, 0] rfl)
        ·
          refine lv_lconst (v := lN 0) hx hb dX8_giveUp_17 (by decide) ?_
          refine lv_goto (tgt := 27) hx hb dX8_giveUp_18 (by decide) ?_
          refine cr_last (ps' := [thP Z ta F (fun b => if b = w1 then 0 else (zcp (zgiv F xx) K w1) b)]) G X 0 2 rfl rfl (by omega) (by decide) (congrArg (fun z => [z]) (thP_s1 (by omega))) dX8_giveUp_27 (fun H locs X => ?_)
          refine lv_iinc (v := nI (w1 + 1)) (lv' := [(2, .int (nI (w1 + 1))), (0, .ref ta.1), (1, .int (nI xx))]) hx hb dX8_giveUp_28 hl (k := 2) rfl (zn_inc _) (by decide) rfl (fun ls hl => ?_)
          refine lv_goto (tgt := 2) hx hb dX8_giveUp_31 (by decide) ?_
          refine ih_2 (w1 + 1) (by omega) (by omega) _ _ _ (by first | exact wx_eq (congrArg (fun z => wcat [thP Z ta F z]) (zcp_1 (show _ = (zgiv F xx) w1 from (if_pos c_14).symm))) X | exact wx_eq (congrArg (fun z => wcat [thP Z ta F z]) (zcp_1 (show _ = (zgiv F xx) w1 from (if_neg c_14).symm))) X) (by exact lv_sub hl [1, 2, 0] rfl)
  refine cut_2 _ 0 (Nat.zero_le _) (Nat.lt_succ_self _) _ _ _ (by exact wx_eq (congrArg (fun z => wcat [thP Z ta F z]) (show K = zcp (zgiv F xx) K 0 from funext fun a => (zcp_out (Nat.zero_le a)).symm)) X) (by exact lv_sub hl [1, 2, 0] rfl)
set_option maxHeartbeats 4000000 in
set_option maxRecDepth 100000 in
theorem k8_believe {E : (Nat → Prop) → State → Heap → Prop} (hE : cEok E) {l : Launch} {D : va_G} {Z : Nat → ClassId} {ta : Nat × Nat × Nat} {F K : Nat → Nat} (xx : Nat) (hx2 : xx < 4294967296) : dtV E l D Z yX8_believe (Cond.code yX8_believe cX8_believe 3 none :: cW) { frames := 0, cells := 0, slots := 0, locals := 0 } [.ref ta.1, .int (nI xx)] (wcat [thP Z ta F K]) (S := Unit) (fun _ => wcat [thP Z ta F (zbelM F xx)]) (fun _ => True) := by
  refine dtV_of hE (cc := cX8_believe) (maxL := 3) (by decide +kernel) (fun w h => List.mem_cons_of_mem _ h) (Nat.le_of_ble_eq_true rfl) ?_
  intro p e s m args below meth c A Q ls hx hb hml hown hts G X hl fin
  replace hl : lv_has ls 3 [(0, .ref ta.1), (1, .int (nI xx))] := hl
  refine lv_iconst (v := nI 0) hx hb dX8_believe_0 (by decide) ?_
  refine lv_istore_n (lv' := [(2, .int (nI 0)), (0, .ref ta.1), (1, .int (nI xx))]) hx hb dX8_believe_1 rfl hl (by decide) rfl (fun ls hl => ?_)
  have cut_2 : ∀ (NN : Nat) (w1 : Nat) (h1 : w1 ≤ 5), 5 - w1 < NN → ∀ (H : Heap) (locs : List Loc) (ls : Array Slot), wH D vwCl A s.heap H locs (wcat [thP Z ta F (zcp (zbelM F xx) K w1)]) → lv_has ls 3 [(0, .ref ta.1), (1, .int (nI xx)), (2, .int (nI w1))] → W p l e { frames := 0, cells := 0, slots := 0, locals := 0 } s m args below meth c H locs 0 0 Q (F0 m 2 ls []) := by
    intro NN
    induction NN with
    | zero => intro w1 h1 hNN; exact absurd hNN (Nat.not_lt_zero _)
    | succ NN ih_2 =>
      intro w1 h1 hNN H locs ls X hl
      refine lv_iload_n hx hb dX8_believe_2 rfl (lv_at hl 2 rfl) ?_
      refine lv_iconst (v := nI 5) hx hb dX8_believe_3 (by decide) ?_
      refine gn_icmp_ge (tgt := 34) hx hb dX8_believe_4 (by decide) (by omega) (by omega) (fun c_4 => ?_) (fun c_4 => ?_)
      ·
        exact cfin_V (()) (trivial) (congrArg (fun z => wcat [z]) (thP_cong (F := F) (F' := F) (G := zcp (zbelM F xx) K w1) (G' := (zbelM F xx)) (fun _ _ => rfl) (fun i hi => by rw [show w1 = 5 by omega]; exact zcp_in hi))) X dX8_believe_34 fin
      ·
        refine lv_aload_n hx hb dX8_believe_7 rfl (lv_at hl 0 rfl) ?_
        refine cg_8 G X 0 0 rfl rfl 1 (by decide) (G.2.2.2.1 _ ck_293) rfl rfl dX8_believe_8 ?_
        refine lv_iload_n hx hb dX8_believe_11 rfl (lv_at hl 2 rfl) ?_
        refine lv_iload_n hx hb dX8_believe_12 rfl (lv_at hl 2 rfl) ?_
        refine lv_iload_n hx hb dX8_believe_13 rfl (lv_at hl 1 rfl) ?_
        refine gn_icmp_ne (tgt := 26) hx hb dX8_believe_14 (by decide) (by omega) (by omega) (fun c_14 => ?_) (fun c_14 => ?_)
        ·
          refine lv_lconst (v := lN 0) hx hb dX8_believe_26 (by decide) ?_
          refine cr_last (ps' := [thP Z ta F (fun b => if b = w1 then 0 else (zcp (zbelM F xx) K w1) b)]) G X 0 2 rfl rfl (by omega) (by decide) (congrArg (fun z => [z]) (thP_s1 (by omega))) dX8_believe_27 (fun H locs X => ?_)
          refine lv_iinc (v := nI (w1 + 1)) (lv' := [(2, .int (nI (w1 + 1))), (0, .ref ta.1), (1, .int (nI xx))]) hx hb dX8_believe_28 hl (k := 2) rfl (zn_inc _) (by decide) rfl (fun ls hl => ?_)
          refine lv_goto (tgt := 2) hx hb dX8_believe_31 (by decide) ?_
          refine ih_2 (w1 + 1) (by omega) (by omega) _ _ _ (by first | exact wx_eq (congrArg (fun z => wcat [thP Z ta F z]) (zcp_1 (show _ = (zbelM F xx) w1 from (if_pos c_14).symm))) X | exact wx_eq (congrArg (fun z => wcat [thP Z ta F z]) (zcp_1 (show _ = (zbelM F xx) w1 from (if_neg c_14).symm))) X) (by exact lv_sub hl [1, 2, 0] rfl)
        ·
          refine lv_aload_n hx hb dX8_believe_17 rfl (lv_at hl 0 rfl) ?_
          refine cg_8 G X 0 0 rfl rfl 0 (by decide) (G.2.2.2.1 _ ck_27) rfl rfl dX8_believe_18 ?_
          refine lv_iload_n hx hb dX8_believe_21 rfl (lv_at hl 2 rfl) ?_
          refine cr_lald G X 0 1 rfl rfl (by omega) (by decide) dX8_believe_22 ?_
          refine gl_eq (a := (F w1)) (zcl_in (by omega)) ?_
          refine lv_goto (tgt := 27) hx hb dX8_believe_23 (by decide) ?_
          refine cr_last (ps' := [thP Z ta F (fun b => if b = w1 then F w1 else (zcp (zbelM F xx) K w1) b)]) G X 0 2 rfl rfl (by omega) (by decide) (congrArg (fun z => [z]) (thP_s1 (by omega))) dX8_believe_27 (fun H locs X => ?_)
          refine lv_iinc (v := nI (w1 + 1)) (lv' := [(2, .int (nI (w1 + 1))), (0, .ref ta.1), (1, .int (nI xx))]) hx hb dX8_believe_28 hl (k := 2) rfl (zn_inc _) (by decide) rfl (fun ls hl => ?_)
          refine lv_goto (tgt := 2) hx hb dX8_believe_31 (by decide) ?_
          refine ih_2 (w1 + 1) (by omega) (by omega) _ _ _ (by first | exact wx_eq (congrArg (fun z => wcat [thP Z ta F z]) (zcp_1 (show _ = (zbelM F xx) w1 from (if_pos c_14).symm))) X | exact wx_eq (congrArg (fun z => wcat [thP Z ta F z]) (zcp_1 (show _ = (zbelM F xx) w1 from (if_neg c_14).symm))) X) (by exact lv_sub hl [1, 2, 0] rfl)
  refine cut_2 _ 0 (Nat.zero_le _) (Nat.lt_succ_self _) _ _ _ (by exact wx_eq (congrArg (fun z => wcat [thP Z ta F z]) (show K = zcp (zbelM F xx) K 0 from funext fun a => (zcp_out (Nat.zero_le a)).symm)) X) (by exact lv_sub hl [1, 2, 0] rfl)
set_option maxHeartbeats 4000000 in
set_option maxRecDepth 100000 in
theorem k8_halve {E : (Nat → Prop) → State → Heap → Prop} (hE : cEok E) {l : Launch} {D : va_G} {Z : Nat → ClassId} {ta : Nat × Nat × Nat} {F K : Nat → Nat} (hF : ∀ w, w < 5 → F w < 9223372036854775808) : dtV E l D Z yX8_halve (Cond.code yX8_halve cX8_halve 2 none :: cW) { frames := 0, cells := 0, slots := 0, locals := 0 } [.ref ta.1] (wcat [thP Z ta F K]) (S := Unit) (fun _ => wcat [thP Z ta (zcp (zhf F) F 5) K]) (fun _ => True) := by
  refine dtV_of hE (cc := cX8_halve) (maxL := 2) (by decide +kernel) (fun w h => List.mem_cons_of_mem _ h) (Nat.le_of_ble_eq_true rfl) ?_
  intro p e s m args below meth c A Q ls hx hb hml hown hts G X hl fin
  replace hl : lv_has ls 2 [(0, .ref ta.1)] := hl
  refine lv_iconst (v := nI 0) hx hb dX8_halve_0 (by decide) ?_
  refine lv_istore_n (lv' := [(1, .int (nI 0)), (0, .ref ta.1)]) hx hb dX8_halve_1 rfl hl (by decide) rfl (fun ls hl => ?_)
  have cut_2 : ∀ (NN : Nat) (w1 : Nat) (h1 : w1 ≤ 5), 5 - w1 < NN → ∀ (H : Heap) (locs : List Loc) (ls : Array Slot), wH D vwCl A s.heap H locs (wcat [thP Z ta (zcp (zhf F) F w1) K]) → lv_has ls 2 [(0, .ref ta.1), (1, .int (nI w1))] → W p l e { frames := 0, cells := 0, slots := 0, locals := 0 } s m args below meth c H locs 0 0 Q (F0 m 2 ls []) := by
    intro NN
    induction NN with
    | zero => intro w1 h1 hNN; exact absurd hNN (Nat.not_lt_zero _)
    | succ NN ih_2 =>
      intro w1 h1 hNN H locs ls X hl
      refine lv_iload_n hx hb dX8_halve_2 rfl (lv_at hl 1 rfl) ?_
      refine lv_iconst (v := nI 5) hx hb dX8_halve_3 (by decide) ?_
      refine gn_icmp_ge (tgt := 36) hx hb dX8_halve_4 (by decide) (by omega) (by omega) (fun c_4 => ?_) (fun c_4 => ?_)
      ·
        exact cfin_V (()) (trivial) (by rw [show w1 = 5 by omega]) X dX8_halve_36 fin
      ·
        refine lv_aload_n hx hb dX8_halve_7 rfl (lv_at hl 0 rfl) ?_
        refine cg_8 G X 0 0 rfl rfl 0 (by decide) (G.2.2.2.1 _ ck_27) rfl rfl dX8_halve_8 ?_
        refine lv_iload_n hx hb dX8_halve_11 rfl (lv_at hl 1 rfl) ?_
        refine cr_lald G X 0 1 rfl rfl (by omega) (by decide) dX8_halve_12 ?_
        refine gl_eq (a := ((zcp (zhf F) F w1) w1)) (zcl_in (by omega)) ?_
        refine gl_eq (a := (F w1)) (zcp_out (Nat.le_refl _)) ?_
        refine lv_lconst (v := lN 1) hx hb dX8_halve_13 (by decide) ?_
        have q4 := hF w1 (by omega)
        refine gn_lc_le (tgt := 30) hx hb dX8_halve_14 dX8_halve_15 (by decide) (by omega) (by omega) (fun c_14 => ?_) (fun c_14 => ?_)
        ·
          refine lv_iinc (v := nI (w1 + 1)) (lv' := [(1, .int (nI (w1 + 1))), (0, .ref ta.1)]) hx hb dX8_halve_30 hl (k := 1) rfl (zn_inc _) (by decide) rfl (fun ls hl => ?_)
          refine lv_goto (tgt := 2) hx hb dX8_halve_33 (by decide) ?_
          refine ih_2 (w1 + 1) (by omega) (by omega) _ _ _ (by first | exact wx_eq (congrArg (fun z => wcat [thP Z ta z K]) (zcp_1 (show _ = zhf F w1 by unfold zhf; rw [if_neg (by omega)]))) X | exact wx_eq (congrArg (fun z => wcat [thP Z ta z K]) ((show zcp (zhf F) F w1 = (fun a => if a = w1 then F w1 else zcp (zhf F) F w1 a) from funext fun a => by by_cases h : a = w1; rw [if_pos h, h]; exact zcp_out (Nat.le_refl _); rw [if_neg h]).trans (zcp_1 (show _ = zhf F w1 by unfold zhf; split <;> omega)))) X) (by exact lv_sub hl [1, 0] rfl)
        ·
          refine lv_aload_n hx hb dX8_halve_18 rfl (lv_at hl 0 rfl) ?_
          refine cg_8 G X 0 0 rfl rfl 0 (by decide) (G.2.2.2.1 _ ck_27) rfl rfl dX8_halve_19 ?_
          refine lv_iload_n hx hb dX8_halve_22 rfl (lv_at hl 1 rfl) ?_
          refine lv_dup2_11 hx hb dX8_halve_23 rfl rfl ?_
          refine cr_lald G X 0 1 rfl rfl (by omega) (by decide) dX8_halve_24 ?_
          refine gl_eq (a := ((zcp (zhf F) F w1) w1)) (zcl_in (by omega)) ?_
          refine gl_eq (a := (F w1)) (zcp_out (Nat.le_refl _)) ?_
          refine gn_ldc2 (v := 2) (k := 2) hx hb G.2.2.1 (G.2.2.2.1 _ ck_316) (by decide) dX8_halve_25 ?_
          refine gn_ldiv hx hb dX8_halve_28 (by omega) (by omega) (by omega) ?_
          refine cr_last (ps' := [thP Z ta (fun b => if b = w1 then (F w1) / 2 else (zcp (zhf F) F w1) b) K]) G X 0 1 rfl rfl (by omega) (by decide) (congrArg (fun z => [z]) (thP_s0 (by omega))) dX8_halve_29 (fun H locs X => ?_)
          refine lv_iinc (v := nI (w1 + 1)) (lv' := [(1, .int (nI (w1 + 1))), (0, .ref ta.1)]) hx hb dX8_halve_30 hl (k := 1) rfl (zn_inc _) (by decide) rfl (fun ls hl => ?_)
          refine lv_goto (tgt := 2) hx hb dX8_halve_33 (by decide) ?_
          refine ih_2 (w1 + 1) (by omega) (by omega) _ _ _ (by first | exact wx_eq (congrArg (fun z => wcat [thP Z ta z K]) (zcp_1 (show _ = zhf F w1 by unfold zhf; rw [if_neg (by omega)]))) X | exact wx_eq (congrArg (fun z => wcat [thP Z ta z K]) ((show zcp (zhf F) F w1 = (fun a => if a = w1 then F w1 else zcp (zhf F) F w1 a) from funext fun a => by by_cases h : a = w1; rw [if_pos h, h]; exact zcp_out (Nat.le_refl _); rw [if_neg h]).trans (zcp_1 (show _ = zhf F w1 by unfold zhf; split <;> omega)))) X) (by exact lv_sub hl [1, 0] rfl)
  refine cut_2 _ 0 (Nat.zero_le _) (Nat.lt_succ_self _) _ _ _ (by exact wx_eq (congrArg (fun z => wcat [thP Z ta z K]) (show F = zcp (zhf F) F 0 from funext fun a => (zcp_out (Nat.zero_le a)).symm)) X) (by exact lv_sub hl [1, 0] rfl)
set_option maxHeartbeats 4000000 in
set_option maxRecDepth 100000 in
theorem k8_greatestDivisor {E : (Nat → Prop) → State → Heap → Prop} (hE : cEok E) {l : Launch} {D : va_G} {Z : Nat → ClassId}  (xo : Nat) (xt : Nat) (h1 : xo < 9223372036854775808) (h2 : xt < 9223372036854775808) : dtL E l D Z yX8_greatestDivisor (Cond.code yX8_greatestDivisor cX8_greatestDivisor 11 (some .long) :: cW) { frames := 0, cells := 0, slots := 0, locals := 0 } [.long (lN xo), .long (lN xt)] (wcat []) (S := Unit) (fun _ => wcat []) (fun _ => lN (Nat.gcd xo xt)) (fun _ => True) := by
  refine dtL_of hE (cc := cX8_greatestDivisor) (maxL := 11) (by decide +kernel) (fun w h => List.mem_cons_of_mem _ h) (Nat.le_of_ble_eq_true rfl) ?_
  intro p e s m args below meth c A Q ls hx hb hml hown hts G X hl fin
  replace hl : lv_has ls 11 [(0, .long (lN xo)), (2, .long (lN xt))] := hl
  refine lv_lload_n hx hb dX8_greatestDivisor_0 rfl (lv_at hl 0 rfl) ?_
  refine lv_lstore (lv' := [(4, .long (lN xo)), (0, .long (lN xo)), (2, .long (lN xt))]) hx hb dX8_greatestDivisor_1 hl (by decide) rfl (fun ls hl => ?_)
  refine lv_lload_n hx hb dX8_greatestDivisor_3 rfl (lv_at hl 2 rfl) ?_
  refine lv_lstore (lv' := [(6, .long (lN xt)), (4, .long (lN xo)), (0, .long (lN xo)), (2, .long (lN xt))]) hx hb dX8_greatestDivisor_4 hl (by decide) rfl (fun ls hl => ?_)
  refine lv_iconst (v := nI 0) hx hb dX8_greatestDivisor_6 (by decide) ?_
  refine lv_istore (lv' := [(8, .int (nI 0)), (6, .long (lN xt)), (4, .long (lN xo)), (0, .long (lN xo)), (2, .long (lN xt))]) hx hb dX8_greatestDivisor_7 hl (by decide) rfl (fun ls hl => ?_)
  have cut_9 : ∀ (NN : Nat) (i1 : Nat) (g1 : Nat) (r1 : Nat) (hi : i1 ≤ 100) (hg : g1 < 9223372036854775808) (hr : r1 < 9223372036854775808) (hgcd : Nat.gcd g1 r1 = Nat.gcd xo xt) (hz : i1 = 0 ∨ zeuI 9223372036854775807 (i1 - 1) g1 r1), 100 - i1 < NN → ∀ (H : Heap) (locs : List Loc) (ls : Array Slot), wH D vwCl A s.heap H locs (wcat []) → lv_has ls 11 [(0, .long (lN xo)), (2, .long (lN xt)), (4, .long (lN g1)), (6, .long (lN r1)), (8, .int (nI i1))] → W p l e { frames := 0, cells := 0, slots := 0, locals := 0 } s m args below meth c H locs 0 0 Q (F0 m 9 ls []) := by
    intro NN
    induction NN with
    | zero => intro i1 g1 r1 hi hg hr hgcd hz hNN; exact absurd hNN (Nat.not_lt_zero _)
    | succ NN ih_9 =>
      intro i1 g1 r1 hi hg hr hgcd hz hNN H locs ls X hl
      refine lv_iload hx hb dX8_greatestDivisor_9 (lv_at hl 4 rfl) ?_
      refine lv_bipush (v := nI 100) hx hb dX8_greatestDivisor_11 (by decide) ?_
      refine gn_icmp_ge (tgt := 44) hx hb dX8_greatestDivisor_13 (by decide) (by omega) (by omega) (fun c_13 => ?_) (fun c_13 => ?_)
      ·
        refine lv_lload hx hb dX8_greatestDivisor_44 (lv_at hl 2 rfl) ?_
        exact cfin_L (()) (trivial) (rfl) (by have hr0 : r1 = 0 := (by first | omega | (rcases hz with h0 | h0; omega; exact zeu_no (B := 9223372036854775807) (Nat.lt_succ_self _) (by rw [show i1 - 1 = 99 by omega] at h0; exact h0))); rw [← hgcd, hr0, Nat.gcd_zero_right]) X dX8_greatestDivisor_46 fin
      ·
        refine lv_lload hx hb dX8_greatestDivisor_16 (lv_at hl 3 rfl) ?_
        refine lv_lconst (v := lN 0) hx hb dX8_greatestDivisor_18 (by decide) ?_
        refine gn_lc_eq (tgt := 44) hx hb dX8_greatestDivisor_19 dX8_greatestDivisor_20 (by decide) (by omega) (by omega) (fun c_19 => ?_) (fun c_19 => ?_)
        ·
          refine lv_lload hx hb dX8_greatestDivisor_44 (lv_at hl 2 rfl) ?_
          exact cfin_L (()) (trivial) (rfl) (by have hr0 : r1 = 0 := (by first | omega | (rcases hz with h0 | h0; omega; exact zeu_no (B := 9223372036854775807) (Nat.lt_succ_self _) (by rw [show i1 - 1 = 99 by omega] at h0; exact h0))); rw [← hgcd, hr0, Nat.gcd_zero_right]) X dX8_greatestDivisor_46 fin
        ·
          refine lv_lload hx hb dX8_greatestDivisor_23 (lv_at hl 2 rfl) ?_
          refine lv_lload hx hb dX8_greatestDivisor_25 (lv_at hl 3 rfl) ?_
          refine gn_lrem hx hb dX8_greatestDivisor_27 (by omega) (by omega) (by omega) ?_
          refine lv_lstore (lv' := [(9, .long (lN (g1 % r1))), (0, .long (lN xo)), (2, .long (lN xt)), (4, .long (lN g1)), (6, .long (lN r1)), (8, .int (nI i1))]) hx hb dX8_greatestDivisor_28 hl (by decide) rfl (fun ls hl => ?_)
          refine lv_lload hx hb dX8_greatestDivisor_30 (lv_at hl 4 rfl) ?_
          refine lv_lstore (lv' := [(4, .long (lN r1)), (9, .long (lN (g1 % r1))), (0, .long (lN xo)), (2, .long (lN xt)), (6, .long (lN r1)), (8, .int (nI i1))]) hx hb dX8_greatestDivisor_32 hl (by decide) rfl (fun ls hl => ?_)
          refine lv_lload hx hb dX8_greatestDivisor_34 (lv_at hl 1 rfl) ?_
          refine lv_lstore (lv' := [(6, .long (lN (g1 % r1))), (4, .long (lN r1)), (9, .long (lN (g1 % r1))), (0, .long (lN xo)), (2, .long (lN xt)), (8, .int (nI i1))]) hx hb dX8_greatestDivisor_36 hl (by decide) rfl (fun ls hl => ?_)
          refine lv_iinc (v := nI (i1 + 1)) (lv' := [(8, .int (nI (i1 + 1))), (6, .long (lN (g1 % r1))), (4, .long (lN r1)), (9, .long (lN (g1 % r1))), (0, .long (lN xo)), (2, .long (lN xt))]) hx hb dX8_greatestDivisor_38 hl (k := 5) rfl (zn_inc _) (by decide) rfl (fun ls hl => ?_)
          refine lv_goto (tgt := 9) hx hb dX8_greatestDivisor_41 (by decide) ?_
          refine ih_9 (i1 + 1) r1 (g1 % r1) (by omega) (hr) (Nat.lt_of_le_of_lt (Nat.mod_le _ _) hg) (by rw [← hgcd]; exact zgcd g1 r1) (Or.inr (by rcases hz with h0 | h0; exact ⟨Nat.le_of_lt (Nat.mod_lt _ (by omega)), by rw [show i1 + 1 - 1 = 0 by omega]; show 1 * r1 + 0 * (g1 % r1) ≤ _; omega⟩; have h9 := zeu_s h0 (show 0 < r1 by omega); rcases Nat.eq_zero_or_pos i1 with h8 | h8; exact ⟨Nat.le_of_lt (Nat.mod_lt _ (by omega)), by rw [h8]; show 1 * r1 + 0 * (g1 % r1) ≤ _; omega⟩; rw [show i1 + 1 - 1 = i1 - 1 + 1 by omega]; exact h9)) (by omega) _ _ _ (by exact X) (by exact lv_sub hl [4, 5, 2, 1, 0] rfl)
  refine cut_9 _ 0 xo xt (by omega) (h1) (h2) (rfl) (Or.inl rfl) (Nat.lt_succ_self _) _ _ _ (by exact X) (by exact lv_sub hl [3, 4, 2, 1, 0] rfl)
