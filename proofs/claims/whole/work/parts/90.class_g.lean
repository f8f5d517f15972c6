set_option maxHeartbeats 4000000 in
set_option maxRecDepth 100000 in
theorem k2_shorten {E : (Nat → Prop) → State → Heap → Prop} (hE : cEok E) {l : Launch} {D : va_G} {Z : Nat → ClassId} {La : LA} {τ : MS} (xw : Nat) (xf : Nat) (xo : Nat) (xl : Nat) (hw5 : xw < 5) (hf : xf < 8) (ho : xo < 8) (hl100 : xl < 100) (hW : zWok (τ.2 27)) : dtV E l D Z yX2_shorten (Cond.code yX2_shorten cX2_shorten 4 none :: cW) { frames := 0, cells := 0, slots := 0, locals := 0 } [.ref (La.2.2 14 xw), .int (nI xf), .int (nI xo), .int (nI xl)] (wcat [landP Z La τ]) (S := Unit) (fun _ => wcat [landP Z La (sA τ 27 (zrel (τ.2 27) (8 * xw + xf) (8 * xw + xo) xl))]) (fun _ => True) := by
  refine dtV_of hE (cc := cX2_shorten) (maxL := 4) (by decide +kernel) (fun w h => List.mem_cons_of_mem _ h) (Nat.le_of_ble_eq_true rfl) ?_
  intro p e s m args below meth c A Q ls hx hb hml hown hts G X hl fin
  replace hl : lv_has ls 4 [(0, .ref (La.2.2 14 xw)), (1, .int (nI xf)), (2, .int (nI xo)), (3, .int (nI xl))] := hl
  have q1 := hW (8 * xw + xf)
  have q2 := hW (8 * xw + xo)
  refine lv_aload_n hx hb dX2_shorten_0 rfl (lv_at hl 0 rfl) ?_
  refine lv_iload_n hx hb dX2_shorten_1 rfl (lv_at hl 2 rfl) ?_
  refine cr_iald G X 0 (xw + 22) rfl (landP_r14 (by omega)) (by omega) (by decide) dX2_shorten_2 ?_
  refine gi_eq (a := (τ.2 27 (8 * xw + xo))) (zrow_in (by omega)) ?_
  refine gn_ldc (v := 99999) (k := 99999) hx hb G.2.2.1 (G.2.2.2.1 _ ck_111) (by decide) dX2_shorten_3 ?_
  refine gn_icmp_ge (tgt := 27) hx hb dX2_shorten_5 (by decide) (by omega) (by omega) (fun c_5 => ?_) (fun c_5 => ?_)
  ·
    exact cfin_V (()) (trivial) (congrArg (fun z => wcat [landP Z La z]) (by first | exact (zrel_no (by omega)).symm | exact zrel_yes ⟨by omega, by omega⟩)) X dX2_shorten_27 fin
  ·
    refine lv_aload_n hx hb dX2_shorten_8 rfl (lv_at hl 0 rfl) ?_
    refine lv_iload_n hx hb dX2_shorten_9 rfl (lv_at hl 2 rfl) ?_
    refine cr_iald G X 0 (xw + 22) rfl (landP_r14 (by omega)) (by omega) (by decide) dX2_shorten_10 ?_
    refine gi_eq (a := (τ.2 27 (8 * xw + xo))) (zrow_in (by omega)) ?_
    refine lv_iload_n hx hb dX2_shorten_11 rfl (lv_at hl 3 rfl) ?_
    refine gn_iadd hx hb dX2_shorten_12  ?_
    refine lv_aload_n hx hb dX2_shorten_13 rfl (lv_at hl 0 rfl) ?_
    refine lv_iload_n hx hb dX2_shorten_14 rfl (lv_at hl 1 rfl) ?_
    refine cr_iald G X 0 (xw + 22) rfl (landP_r14 (by omega)) (by omega) (by decide) dX2_shorten_15 ?_
    refine gi_eq (a := (τ.2 27 (8 * xw + xf))) (zrow_in (by omega)) ?_
    refine gn_icmp_ge (tgt := 27) hx hb dX2_shorten_16 (by decide) (by omega) (by omega) (fun c_16 => ?_) (fun c_16 => ?_)
    ·
      exact cfin_V (()) (trivial) (congrArg (fun z => wcat [landP Z La z]) (by first | exact (zrel_no (by omega)).symm | exact zrel_yes ⟨by omega, by omega⟩)) X dX2_shorten_27 fin
    ·
      refine lv_aload_n hx hb dX2_shorten_19 rfl (lv_at hl 0 rfl) ?_
      refine lv_iload_n hx hb dX2_shorten_20 rfl (lv_at hl 1 rfl) ?_
      refine lv_aload_n hx hb dX2_shorten_21 rfl (lv_at hl 0 rfl) ?_
      refine lv_iload_n hx hb dX2_shorten_22 rfl (lv_at hl 2 rfl) ?_
      refine cr_iald G X 0 (xw + 22) rfl (landP_r14 (by omega)) (by omega) (by decide) dX2_shorten_23 ?_
      refine gi_eq (a := (τ.2 27 (8 * xw + xo))) (zrow_in (by omega)) ?_
      refine lv_iload_n hx hb dX2_shorten_24 rfl (lv_at hl 3 rfl) ?_
      refine gn_iadd hx hb dX2_shorten_25  ?_
      refine cr_iast (ps' := [landP Z La (sE τ 27 (8 * xw + xf) ((τ.2 27 (8 * xw + xo)) + xl))]) G X 0 (xw + 22) rfl (landP_r14 (by omega)) (by omega) (by decide) (congrArg (fun z => [z]) (landP_rs14 (by omega) (by omega))) dX2_shorten_26 (fun H locs X => ?_)
      exact cfin_V (()) (trivial) (congrArg (fun z => wcat [landP Z La z]) (by first | exact (zrel_no (by omega)).symm | exact zrel_yes ⟨by omega, by omega⟩)) X dX2_shorten_27 fin
set_option maxHeartbeats 4000000 in
set_option maxRecDepth 100000 in
theorem k2_workOutWays {E : (Nat → Prop) → State → Heap → Prop} (hE : cEok E) {l : Launch} {D : va_G} {Z : Nat → ClassId} {La : LA} {τ : MS} (xw : Nat) (hok : mOk τ) (hW : zWok (τ.2 27)) (hw : xw < τ.1 4) : dtV E l D Z yX2_workOutWays (Cond.code yX2_workOutWays cX2_workOutWays 5 none :: cW) { frames := 1, cells := 0, slots := 0, locals := 23 } [.ref La.1, .int (nI xw)] (wcat [landP Z La τ]) (S := Unit) (fun _ => wcat [landP Z La (sA τ 27 (zts τ xw (zinit (τ.2 27) xw (τ.2 6 xw) 8) 7))]) (fun _ => True) := by
  refine dtV_of hE (cc := cX2_workOutWays) (maxL := 5) (by decide +kernel) (fun w h => List.mem_cons_of_mem _ h) (Nat.le_of_ble_eq_true rfl) ?_
  intro p e s m args below meth c A Q ls hx hb hml hown hts G X hl fin
  replace hl : lv_has ls 5 [(0, .ref La.1), (1, .int (nI xw))] := hl
  obtain ⟨k0, k4, k8, kr, kw, ks, kmet, kmt, k12, k13⟩ := id hok
  have q6 := kw xw hw
  have hG0 : zWok (zinit (τ.2 27) xw (τ.2 6 xw) 8) := zWok_init hW _ _ _
  refine lv_aload_n hx hb dX2_workOutWays_0 rfl (lv_at hl 0 rfl) ?_
  refine cg_2 G X 0 0 rfl rfl 14 (by decide) (G.2.2.2.1 _ ck_67) rfl rfl dX2_workOutWays_1 ?_
  refine lv_iload_n hx hb dX2_workOutWays_4 rfl (lv_at hl 1 rfl) ?_
  refine cr_aald G X 0 11 rfl rfl (by omega) (by decide) (if_pos (by omega)) dX2_workOutWays_5 ?_
  refine lv_astore_n (lv' := [(2, .ref (La.2.2 14 xw)), (0, .ref La.1), (1, .int (nI xw))]) hx hb dX2_workOutWays_6 rfl hl (by decide) rfl (fun ls hl => ?_)
  refine lv_iconst (v := nI 0) hx hb dX2_workOutWays_7 (by decide) ?_
  refine lv_istore_n (lv' := [(3, .int (nI 0)), (2, .ref (La.2.2 14 xw)), (0, .ref La.1), (1, .int (nI xw))]) hx hb dX2_workOutWays_8 rfl hl (by decide) rfl (fun ls hl => ?_)
  have cut_9 : ∀ (NN : Nat) (c1 : Nat) (h1 : c1 ≤ 8), 8 - c1 < NN → ∀ (H : Heap) (locs : List Loc) (ls : Array Slot), wH D vwCl A s.heap H locs (wcat [landP Z La (sA τ 27 (zna (τ.2 27) xw c1))]) → lv_has ls 5 [(0, .ref La.1), (1, .int (nI xw)), (2, .ref (La.2.2 14 xw)), (3, .int (nI c1))] → W p l e { frames := 1, cells := 0, slots := 0, locals := 23 } s m args below meth c H locs 0 0 Q (F0 m 9 ls []) := by
    intro NN
    induction NN with
    | zero => intro c1 h1 hNN; exact absurd hNN (Nat.not_lt_zero _)
    | succ NN ih_9 =>
      intro c1 h1 hNN H locs ls X hl
      refine lv_iload_n hx hb dX2_workOutWays_9 rfl (lv_at hl 3 rfl) ?_
      refine lv_bipush (v := nI 8) hx hb dX2_workOutWays_10 (by decide) ?_
      refine gn_icmp_ge (tgt := 26) hx hb dX2_workOutWays_12 (by decide) (by omega) (by omega) (fun c_12 => ?_) (fun c_12 => ?_)
      ·
        refine lv_aload_n hx hb dX2_workOutWays_26 rfl (lv_at hl 2 rfl) ?_
        refine lv_aload_n hx hb dX2_workOutWays_27 rfl (lv_at hl 0 rfl) ?_
        refine cg_2 G X 0 0 rfl rfl 6 (by decide) (G.2.2.2.1 _ ck_58) rfl rfl dX2_workOutWays_28 ?_
        refine lv_iload_n hx hb dX2_workOutWays_31 rfl (lv_at hl 1 rfl) ?_
        refine cr_iald G X 0 5 rfl rfl (by omega) (by decide) dX2_workOutWays_32 ?_
        refine gi_eq (a := (τ.2 6 xw)) (zcl_in (by omega)) ?_
        refine lv_iconst (v := nI 0) hx hb dX2_workOutWays_33 (by decide) ?_
        refine cr_iast (ps' := [landP Z La (sE (sA τ 27 (zna (τ.2 27) xw c1)) 27 (8 * xw + (τ.2 6 xw)) 0)]) G X 0 (xw + 22) rfl (landP_r14 (by omega)) (by omega) (by decide) (congrArg (fun z => [z]) (landP_rs14 (by omega) (by omega))) dX2_workOutWays_34 (fun H locs X => ?_)
        refine lv_iconst (v := nI 1) hx hb dX2_workOutWays_35 (by decide) ?_
        refine lv_istore_n (lv' := [(3, .int (nI 1)), (0, .ref La.1), (1, .int (nI xw)), (2, .ref (La.2.2 14 xw))]) hx hb dX2_workOutWays_36 rfl hl (by decide) rfl (fun ls hl => ?_)
        have cut_37 : ∀ (NN : Nat) (i1 : Nat) (h0 : 1 ≤ i1) (h1 : i1 ≤ 8), 8 - i1 < NN → ∀ (H : Heap) (locs : List Loc) (ls : Array Slot), wH D vwCl A s.heap H locs (wcat [landP Z La (sA τ 27 (zts τ xw (zinit (τ.2 27) xw (τ.2 6 xw) 8) (i1 - 1)))]) → lv_has ls 5 [(0, .ref La.1), (1, .int (nI xw)), (2, .ref (La.2.2 14 xw)), (3, .int (nI i1))] → W p l e { frames := 1, cells := 0, slots := 0, locals := 23 } s m args below meth c H locs 0 0 Q (F0 m 37 ls []) := by
          intro NN
          induction NN with
          | zero => intro i1 h0 h1 hNN; exact absurd hNN (Nat.not_lt_zero _)
          | succ NN ih_37 =>
            intro i1 h0 h1 hNN H locs ls X hl
            refine lv_iload_n hx hb dX2_workOutWays_37 rfl (lv_at hl 3 rfl) ?_
            refine lv_bipush (v := nI 8) hx hb dX2_workOutWays_38 (by decide) ?_
            refine gn_icmp_ge (tgt := 127) hx hb dX2_workOutWays_40 (by decide) (by omega) (by omega) (fun c_40 => ?_) (fun c_40 => ?_)
            ·
              exact cfin_V (()) (trivial) (congrArg (fun z => wcat [landP Z La (sA τ 27 z)]) (by rw [show i1 - 1 = 7 by omega])) X dX2_workOutWays_127 fin
            ·
              refine lv_iconst (v := nI 0) hx hb dX2_workOutWays_43 (by decide) ?_
              refine lv_istore (lv' := [(4, .int (nI 0)), (0, .ref La.1), (1, .int (nI xw)), (2, .ref (La.2.2 14 xw)), (3, .int (nI i1))]) hx hb dX2_workOutWays_44 hl (by decide) rfl (fun ls hl => ?_)
              have cut_46 : ∀ (NN : Nat) (r1 : Nat) (hr1 : r1 ≤ τ.1 0), τ.1 0 - r1 < NN → ∀ (H : Heap) (locs : List Loc) (ls : Array Slot), wH D vwCl A s.heap H locs (wcat [landP Z La (sA τ 27 (zrs τ xw (zts τ xw (zinit (τ.2 27) xw (τ.2 6 xw) 8) (i1 - 1)) r1))]) → lv_has ls 5 [(0, .ref La.1), (1, .int (nI xw)), (2, .ref (La.2.2 14 xw)), (3, .int (nI i1)), (4, .int (nI r1))] → W p l e { frames := 1, cells := 0, slots := 0, locals := 23 } s m args below meth c H locs 0 0 Q (F0 m 46 ls []) := by
                intro NN
                induction NN with
                | zero => intro r1 hr1 hNN; exact absurd hNN (Nat.not_lt_zero _)
                | succ NN ih_46 =>
                  intro r1 hr1 hNN H locs ls X hl
                  refine lv_iload hx hb dX2_workOutWays_46 (lv_at hl 4 rfl) ?_
                  refine lv_aload_n hx hb dX2_workOutWays_48 rfl (lv_at hl 0 rfl) ?_
                  refine cg_2 G X 0 0 rfl rfl 0 (by decide) (G.2.2.2.1 _ ck_51) rfl rfl dX2_workOutWays_49 ?_
                  refine gi_eq (a := (τ.1 0)) rfl ?_
                  refine gn_icmp_ge (tgt := 121) hx hb dX2_workOutWays_52 (by decide) (by omega) (by omega) (fun c_52 => ?_) (fun c_52 => ?_)
                  ·
                    refine lv_iinc (v := nI (i1 + 1)) (lv' := [(3, .int (nI (i1 + 1))), (0, .ref La.1), (1, .int (nI xw)), (2, .ref (La.2.2 14 xw)), (4, .int (nI r1))]) hx hb dX2_workOutWays_121 hl (k := 3) rfl (zn_inc _) (by decide) rfl (fun ls hl => ?_)
                    refine lv_goto (tgt := 37) hx hb dX2_workOutWays_124 (by decide) ?_
                    refine ih_37 (i1 + 1) (by omega) (by omega) (by omega) _ _ _ (by exact wx_eq (congrArg (fun z => wcat [landP Z La (sA τ 27 z)]) (by rw [show r1 = τ.1 0 by omega, show i1 + 1 - 1 = (i1 - 1) + 1 by omega]; rfl)) X) (by exact lv_sub hl [1, 2, 3, 0] rfl)
                  ·
                    have q7 := kr r1 c_52
                    have hZ1 : zWok (zrs τ xw (zts τ xw (zinit (τ.2 27) xw (τ.2 6 xw) 8) (i1 - 1)) r1) := zWok_rs (zWok_ts hG0 _) _
                    refine lv_aload_n hx hb dX2_workOutWays_55 rfl (lv_at hl 0 rfl) ?_
                    refine lv_iload_n hx hb dX2_workOutWays_56 rfl (lv_at hl 1 rfl) ?_
                    refine lv_iload hx hb dX2_workOutWays_57 (lv_at hl 4 rfl) ?_
                    refine dtI_go (w := wcat [landP Z La (sA τ 27 (zrs τ xw (zts τ xw (zinit (τ.2 27) xw (τ.2 6 xw) 8) (i1 - 1)) r1))]) (wf := wcat []) (W1 := fun _ => wcat [landP Z La (sA τ 27 (zrs τ xw (zts τ xw (zinit (τ.2 27) xw (τ.2 6 xw) 8) (i1 - 1)) r1))]) G X (wsel [0] rfl rfl) (run_V (As := [.int (nI xw), .int (nI r1)]) (rest := []) (n := 2) G hml hts hl.1 (p_recv G X 0 0 rfl rfl rfl) (k2_isShut hE xw r1 (by omega) (by omega) (by show τ.2 7 xw < _; omega) _) (cwV 2 hts (cg_V ck_105 ck_113 ck_114 ck_115 ck_79) rfl rfl rfl (by decide +kernel) ⟨Nat.le_of_ble_eq_true rfl, Nat.le_of_ble_eq_true rfl⟩) rfl (Nat.le_of_ble_eq_true rfl) dX2_workOutWays_59 ⟨Nat.le_refl _, Nat.le_refl _⟩) (fun _ => wback [0] rfl rfl) (fun H locs _ _ X => ?_)
                    refine gb_if_ne (tgt := 115) hx hb dX2_workOutWays_62 (by decide) (fun c_62 => ?_) (fun c_62 => ?_)
                    ·
                      refine lv_iinc (v := nI (r1 + 1)) (lv' := [(4, .int (nI (r1 + 1))), (0, .ref La.1), (1, .int (nI xw)), (2, .ref (La.2.2 14 xw)), (3, .int (nI i1))]) hx hb dX2_workOutWays_115 hl (k := 4) rfl (zn_inc _) (by decide) rfl (fun ls hl => ?_)
                      refine lv_goto (tgt := 46) hx hb dX2_workOutWays_118 (by decide) ?_
                      refine ih_46 (r1 + 1) (by omega) (by omega) _ _ _ (by exact wx_eq (congrArg (fun z => wcat [landP Z La (sA τ 27 z)]) (by rw [zrs]; first | exact (if_pos c_62).symm | exact (if_neg c_62).symm)) X) (by exact lv_sub hl [1, 2, 3, 4, 0] rfl)
                    ·
                      refine lv_aload_n hx hb dX2_workOutWays_65 rfl (lv_at hl 2 rfl) ?_
                      refine lv_aload_n hx hb dX2_workOutWays_66 rfl (lv_at hl 0 rfl) ?_
                      refine cg_2 G X 0 0 rfl rfl 1 (by decide) (G.2.2.2.1 _ ck_53) rfl rfl dX2_workOutWays_67 ?_
                      refine lv_iload hx hb dX2_workOutWays_70 (lv_at hl 4 rfl) ?_
                      refine cr_iald G X 0 1 rfl rfl (by omega) (by decide) dX2_workOutWays_72 ?_
                      refine gi_eq (a := (τ.2 1 r1)) (zcl_in (by omega)) ?_
                      refine lv_aload_n hx hb dX2_workOutWays_73 rfl (lv_at hl 0 rfl) ?_
                      refine cg_2 G X 0 0 rfl rfl 2 (by decide) (G.2.2.2.1 _ ck_54) rfl rfl dX2_workOutWays_74 ?_
                      refine lv_iload hx hb dX2_workOutWays_77 (lv_at hl 4 rfl) ?_
                      refine cr_iald G X 0 2 rfl rfl (by omega) (by decide) dX2_workOutWays_79 ?_
                      refine gi_eq (a := (τ.2 2 r1)) (zcl_in (by omega)) ?_
                      refine lv_aload_n hx hb dX2_workOutWays_80 rfl (lv_at hl 0 rfl) ?_
                      refine cg_2 G X 0 0 rfl rfl 3 (by decide) (G.2.2.2.1 _ ck_55) rfl rfl dX2_workOutWays_81 ?_
                      refine lv_iload hx hb dX2_workOutWays_84 (lv_at hl 4 rfl) ?_
                      refine cr_iald G X 0 3 rfl rfl (by omega) (by decide) dX2_workOutWays_86 ?_
                      refine gi_eq (a := (τ.2 3 r1)) (zcl_in (by omega)) ?_
                      refine dtV_go (w := wcat [landP Z La (sA τ 27 (zrs τ xw (zts τ xw (zinit (τ.2 27) xw (τ.2 6 xw) 8) (i1 - 1)) r1))]) (wf := wcat []) (W1 := fun _ => wcat [landP Z La (sA (sA τ 27 (zrs τ xw (zts τ xw (zinit (τ.2 27) xw (τ.2 6 xw) 8) (i1 - 1)) r1)) 27 (zrel ((sA τ 27 (zrs τ xw (zts τ xw (zinit (τ.2 27) xw (τ.2 6 xw) 8) (i1 - 1)) r1)).2 27) (8 * xw + (τ.2 1 r1)) (8 * xw + (τ.2 2 r1)) (τ.2 3 r1)))]) G X (wsel [0] rfl rfl) (run_S (As := [.ref (La.2.2 14 xw), .int (nI (τ.2 1 r1)), .int (nI (τ.2 2 r1)), .int (nI (τ.2 3 r1))]) (rest := []) (n := 4) G hml hts hl.1 (k2_shorten hE xw (τ.2 1 r1) (τ.2 2 r1) (τ.2 3 r1) (by omega) (by omega) (by omega) (by omega) hZ1 _) (va_cwS 4 hts (cg_S ck_110 ck_116 ck_117 ck_79) rfl rfl rfl (by decide +kernel) ⟨Nat.le_of_ble_eq_true rfl, Nat.le_of_ble_eq_true rfl⟩) rfl (Nat.le_of_ble_eq_true rfl) dX2_workOutWays_87 ⟨Nat.le_refl _, Nat.le_refl _⟩) (fun _ => wback [0] rfl rfl) (fun H locs _ _ X => ?_)
                      replace X := wx_eq (congrArg (fun z => wcat [landP Z La z]) sA_rel) X
                      refine lv_aload_n hx hb dX2_workOutWays_90 rfl (lv_at hl 2 rfl) ?_
                      refine lv_aload_n hx hb dX2_workOutWays_91 rfl (lv_at hl 0 rfl) ?_
                      refine cg_2 G X 0 0 rfl rfl 2 (by decide) (G.2.2.2.1 _ ck_54) rfl rfl dX2_workOutWays_92 ?_
                      refine lv_iload hx hb dX2_workOutWays_95 (lv_at hl 4 rfl) ?_
                      refine cr_iald G X 0 2 rfl rfl (by omega) (by decide) dX2_workOutWays_97 ?_
                      refine gi_eq (a := (τ.2 2 r1)) (zcl_in (by omega)) ?_
                      refine lv_aload_n hx hb dX2_workOutWays_98 rfl (lv_at hl 0 rfl) ?_
                      refine cg_2 G X 0 0 rfl rfl 1 (by decide) (G.2.2.2.1 _ ck_53) rfl rfl dX2_workOutWays_99 ?_
                      refine lv_iload hx hb dX2_workOutWays_102 (lv_at hl 4 rfl) ?_
                      refine cr_iald G X 0 1 rfl rfl (by omega) (by decide) dX2_workOutWays_104 ?_
                      refine gi_eq (a := (τ.2 1 r1)) (zcl_in (by omega)) ?_
                      refine lv_aload_n hx hb dX2_workOutWays_105 rfl (lv_at hl 0 rfl) ?_
                      refine cg_2 G X 0 0 rfl rfl 3 (by decide) (G.2.2.2.1 _ ck_55) rfl rfl dX2_workOutWays_106 ?_
                      refine lv_iload hx hb dX2_workOutWays_109 (lv_at hl 4 rfl) ?_
                      refine cr_iald G X 0 3 rfl rfl (by omega) (by decide) dX2_workOutWays_111 ?_
                      refine gi_eq (a := (τ.2 3 r1)) (zcl_in (by omega)) ?_
                      refine dtV_go (w := wcat [landP Z La (sA τ 27 (zrel (zrs τ xw (zts τ xw (zinit (τ.2 27) xw (τ.2 6 xw) 8) (i1 - 1)) r1) (8 * xw + (τ.2 1 r1)) (8 * xw + (τ.2 2 r1)) (τ.2 3 r1)))]) (wf := wcat []) (W1 := fun _ => wcat [landP Z La (sA (sA τ 27 (zrel (zrs τ xw (zts τ xw (zinit (τ.2 27) xw (τ.2 6 xw) 8) (i1 - 1)) r1) (8 * xw + (τ.2 1 r1)) (8 * xw + (τ.2 2 r1)) (τ.2 3 r1))) 27 (zrel ((sA τ 27 (zrel (zrs τ xw (zts τ xw (zinit (τ.2 27) xw (τ.2 6 xw) 8) (i1 - 1)) r1) (8 * xw + (τ.2 1 r1)) (8 * xw + (τ.2 2 r1)) (τ.2 3 r1))).2 27) (8 * xw + (τ.2 2 r1)) (8 * xw + (τ.2 1 r1)) (τ.2 3 r1)))]) G X (wsel [0] rfl rfl) (run_S (As := [.ref (La.2.2 14 xw), .int (nI (τ.2 2 r1)), .int (nI (τ.2 1 r1)), .int (nI (τ.2 3 r1))]) (rest := []) (n := 4) G hml hts hl.1 (k2_shorten hE xw (τ.2 2 r1) (τ.2 1 r1) (τ.2 3 r1) (by omega) (by omega) (by omega) (by omega) (zWok_rel hZ1 _ _ _) _) (va_cwS 4 hts (cg_S ck_110 ck_116 ck_117 ck_79) rfl rfl rfl (by decide +kernel) ⟨Nat.le_of_ble_eq_true rfl, Nat.le_of_ble_eq_true rfl⟩) rfl (Nat.le_of_ble_eq_true rfl) dX2_workOutWays_112 ⟨Nat.le_refl _, Nat.le_refl _⟩) (fun _ => wback [0] rfl rfl) (fun H locs _ _ X => ?_)
                      replace X := wx_eq (congrArg (fun z => wcat [landP Z La z]) sA_rel) X
                      refine lv_iinc (v := nI (r1 + 1)) (lv' := [(4, .int (nI (r1 + 1))), (0, .ref La.1), (1, .int (nI xw)), (2, .ref (La.2.2 14 xw)), (3, .int (nI i1))]) hx hb dX2_workOutWays_115 hl (k := 4) rfl (zn_inc _) (by decide) rfl (fun ls hl => ?_)
                      refine lv_goto (tgt := 46) hx hb dX2_workOutWays_118 (by decide) ?_
                      refine ih_46 (r1 + 1) (by omega) (by omega) _ _ _ (by exact wx_eq (congrArg (fun z => wcat [landP Z La (sA τ 27 z)]) (by rw [zrs]; first | exact (if_pos c_62).symm | exact (if_neg c_62).symm)) X) (by exact lv_sub hl [1, 2, 3, 4, 0] rfl)
              refine cut_46 _ 0 (Nat.zero_le _) (Nat.lt_succ_self _) _ _ _ (by exact X) (by exact lv_sub hl [1, 2, 3, 4, 0] rfl)
        refine cut_37 _ 1 (by omega) (by omega) (Nat.lt_succ_self _) _ _ _ (by exact wx_eq (congrArg (fun z => wcat [landP Z La z]) (show sE (sA τ 27 (zna (τ.2 27) xw c1)) 27 (8 * xw + τ.2 6 xw) 0 = _ from by rw [show c1 = 8 by omega]; exact (sA_e1 τ 27 _ _ _).trans (congrArg (sA τ 27) (zna_g _ _ _ q6.2.2.1)))) X) (by exact lv_sub hl [1, 2, 3, 0] rfl)
      ·
        refine lv_aload_n hx hb dX2_workOutWays_15 rfl (lv_at hl 2 rfl) ?_
        refine lv_iload_n hx hb dX2_workOutWays_16 rfl (lv_at hl 3 rfl) ?_
        refine gn_ldc (v := 99999) (k := 99999) hx hb G.2.2.1 (G.2.2.2.1 _ ck_111) (by decide) dX2_workOutWays_17 ?_
        refine cr_iast (ps' := [landP Z La (sE (sA τ 27 (zna (τ.2 27) xw c1)) 27 (8 * xw + c1) 99999)]) G X 0 (xw + 22) rfl (landP_r14 (by omega)) (by omega) (by decide) (congrArg (fun z => [z]) (landP_rs14 (by omega) (by omega))) dX2_workOutWays_19 (fun H locs X => ?_)
        refine lv_iinc (v := nI (c1 + 1)) (lv' := [(3, .int (nI (c1 + 1))), (0, .ref La.1), (1, .int (nI xw)), (2, .ref (La.2.2 14 xw))]) hx hb dX2_workOutWays_20 hl (k := 3) rfl (zn_inc _) (by decide) rfl (fun ls hl => ?_)
        refine lv_goto (tgt := 9) hx hb dX2_workOutWays_23 (by decide) ?_
        refine ih_9 (c1 + 1) (by omega) (by omega) _ _ _ (by exact wx_eq (congrArg (fun z => wcat [landP Z La z]) ((sA_e1 τ 27 _ _ _).trans (congrArg (sA τ 27) (zna_1 _ _ _)))) X) (by exact lv_sub hl [1, 2, 3, 0] rfl)
  refine cut_9 _ 0 (Nat.zero_le _) (Nat.lt_succ_self _) _ _ _ (by exact wx_eq (congrArg (fun z => wcat [landP Z La z]) (show τ = sA τ 27 (zna (τ.2 27) xw 0) by rw [zna_0, sA_self])) X) (by exact lv_sub hl [2, 3, 1, 0] rfl)
set_option maxHeartbeats 4000000 in
set_option maxRecDepth 100000 in
theorem k2_searchNext {E : (Nat → Prop) → State → Heap → Prop} (hE : cEok E) {l : Launch} {D : va_G} {Z : Nat → ClassId} {La : LA} {τ : MS} (xw : Nat) (xc : Nat) (hok : mOk τ) (hW : zWok (τ.2 27)) (hw : xw < τ.1 4) (hc : xc < 8) : dtI E l D Z yX2_searchNext (Cond.code yX2_searchNext cX2_searchNext 6 (some .int) :: cW) { frames := 1, cells := 0, slots := 0, locals := 22 } [.ref La.1, .int (nI xw), .int (nI xc)] (wcat [landP Z La τ]) (S := Unit) (fun _ => wcat [landP Z La τ]) (fun _ => nI (znr τ xw xc)) (fun _ => True) := by
  refine dtI_of hE (cc := cX2_searchNext) (maxL := 6) (by decide +kernel) (fun w h => List.mem_cons_of_mem _ h) (Nat.le_of_ble_eq_true rfl) ?_
  intro p e s m args below meth c A Q ls hx hb hml hown hts G X hl fin
  replace hl : lv_has ls 6 [(0, .ref La.1), (1, .int (nI xw)), (2, .int (nI xc))] := hl
  obtain ⟨k0, k4, k8, kr, kw, ks, kmet, kmt, k12, k13⟩ := id hok
  have q6 := kw xw hw
  have q8 := hW (8 * xw + xc)
  refine lv_aload_n hx hb dX2_searchNext_0 rfl (lv_at hl 0 rfl) ?_
  refine cg_2 G X 0 0 rfl rfl 14 (by decide) (G.2.2.2.1 _ ck_67) rfl rfl dX2_searchNext_1 ?_
  refine lv_iload_n hx hb dX2_searchNext_4 rfl (lv_at hl 1 rfl) ?_
  refine cr_aald G X 0 11 rfl rfl (by omega) (by decide) (if_pos (by omega)) dX2_searchNext_5 ?_
  refine lv_astore_n (lv' := [(3, .ref (La.2.2 14 xw)), (0, .ref La.1), (1, .int (nI xw)), (2, .int (nI xc))]) hx hb dX2_searchNext_6 rfl hl (by decide) rfl (fun ls hl => ?_)
  refine lv_iload_n hx hb dX2_searchNext_7 rfl (lv_at hl 3 rfl) ?_
  refine lv_aload_n hx hb dX2_searchNext_8 rfl (lv_at hl 1 rfl) ?_
  refine cg_2 G X 0 0 rfl rfl 6 (by decide) (G.2.2.2.1 _ ck_58) rfl rfl dX2_searchNext_9 ?_
  refine lv_iload_n hx hb dX2_searchNext_12 rfl (lv_at hl 2 rfl) ?_
  refine cr_iald G X 0 5 rfl rfl (by omega) (by decide) dX2_searchNext_13 ?_
  refine gi_eq (a := (τ.2 6 xw)) (zcl_in (by omega)) ?_
  refine gn_icmp_eq (tgt := 25) hx hb dX2_searchNext_14 (by decide) (by omega) (by omega) (fun c_14 => ?_) (fun c_14 => ?_)
  ·
    refine lv_iconst (v := nI 4294967295) hx hb dX2_searchNext_25 (by decide) ?_
    exact cfin_I (()) (trivial) (rfl) (by first | rw [znr_g (by omega)] | rw [znr_n1 (by omega) (by omega)]) X dX2_searchNext_26 fin
  ·
    refine lv_aload_n hx hb dX2_searchNext_17 rfl (lv_at hl 0 rfl) ?_
    refine lv_iload_n hx hb dX2_searchNext_18 rfl (lv_at hl 3 rfl) ?_
    refine cr_iald G X 0 (xw + 22) rfl (landP_r14 (by omega)) (by omega) (by decide) dX2_searchNext_19 ?_
    refine gi_eq (a := (τ.2 27 (8 * xw + xc))) (zrow_in (by omega)) ?_
    refine gn_ldc (v := 99999) (k := 99999) hx hb G.2.2.1 (G.2.2.2.1 _ ck_111) (by decide) dX2_searchNext_20 ?_
    refine gn_icmp_lt (tgt := 27) hx hb dX2_searchNext_22 (by decide) (by omega) (by omega) (fun c_22 => ?_) (fun c_22 => ?_)
    ·
      refine lv_iconst (v := nI 0) hx hb dX2_searchNext_27 (by decide) ?_
      refine lv_istore (lv' := [(4, .int (nI 0)), (3, .ref (La.2.2 14 xw)), (0, .ref La.1), (1, .int (nI xw)), (2, .int (nI xc))]) hx hb dX2_searchNext_28 hl (by decide) rfl (fun ls hl => ?_)
      have cut_30 : ∀ (NN : Nat) (r1 : Nat) (hr1 : r1 ≤ τ.1 0) (hno : ∀ j, j < r1 → znextP τ xw xc j = false), τ.1 0 - r1 < NN → ∀ (H : Heap) (locs : List Loc) (ls : Array Slot), wH D vwCl A s.heap H locs (wcat [landP Z La τ]) → lv_has ls 6 [(0, .ref La.1), (1, .int (nI xw)), (2, .int (nI xc)), (3, .ref (La.2.2 14 xw)), (4, .int (nI r1))] → W p l e { frames := 1, cells := 0, slots := 0, locals := 22 } s m args below meth c H locs 0 0 Q (F0 m 30 ls []) := by
        intro NN
        induction NN with
        | zero => intro r1 hr1 hno hNN; exact absurd hNN (Nat.not_lt_zero _)
        | succ NN ih_30 =>
          intro r1 hr1 hno hNN H locs ls X hl
          refine lv_iload hx hb dX2_searchNext_30 (lv_at hl 4 rfl) ?_
          refine lv_aload_n hx hb dX2_searchNext_32 rfl (lv_at hl 0 rfl) ?_
          refine cg_2 G X 0 0 rfl rfl 0 (by decide) (G.2.2.2.1 _ ck_51) rfl rfl dX2_searchNext_33 ?_
          refine gn_icmp_ge (tgt := 115) hx hb dX2_searchNext_36 (by decide) (by omega) (by omega) (fun c_36 => ?_) (fun c_36 => ?_)
          ·
            refine lv_iconst (v := nI 4294967295) hx hb dX2_searchNext_115 (by decide) ?_
            exact cfin_I (()) (trivial) (rfl) (by rw [znr_n2 (by omega) (fun j hj => hno j (by omega))]) X dX2_searchNext_116 fin
          ·
            have q7 := kr r1 c_36
            refine lv_aload_n hx hb dX2_searchNext_39 rfl (lv_at hl 0 rfl) ?_
            refine cg_2 G X 0 0 rfl rfl 1 (by decide) (G.2.2.2.1 _ ck_53) rfl rfl dX2_searchNext_40 ?_
            refine lv_iload hx hb dX2_searchNext_43 (lv_at hl 4 rfl) ?_
            refine cr_iald G X 0 1 rfl rfl (by omega) (by decide) dX2_searchNext_45 ?_
            refine gi_eq (a := (τ.2 1 r1)) (zcl_in (by omega)) ?_
            refine lv_iload_n hx hb dX2_searchNext_46 rfl (lv_at hl 2 rfl) ?_
            refine gn_icmp_eq (tgt := 61) hx hb dX2_searchNext_47 (by decide) (by omega) (by omega) (fun c_47 => ?_) (fun c_47 => ?_)
            ·
              refine lv_iconst (v := nI 1) hx hb dX2_searchNext_61 (by decide) ?_
              refine lv_goto (tgt := 66) hx hb dX2_searchNext_62 (by decide) ?_
              refine lv_istore (lv' := [(5, .int (nI 1)), (0, .ref La.1), (1, .int (nI xw)), (2, .int (nI xc)), (3, .ref (La.2.2 14 xw)), (4, .int (nI r1))]) hx hb dX2_searchNext_66 hl (by decide) rfl (fun ls hl => ?_)
              refine lv_iload hx hb dX2_searchNext_68 (lv_at hl 0 rfl) ?_
              refine gn_if_eq (tgt := 109) hx hb dX2_searchNext_70 (by decide) (by omega) (fun c_70 => ?_) (fun c_70 => ?_)
              · exact absurd c_70 (by decide)
              ·
                refine lv_aload_n hx hb dX2_searchNext_73 rfl (lv_at hl 1 rfl) ?_
                refine lv_iload_n hx hb dX2_searchNext_74 rfl (lv_at hl 2 rfl) ?_
                refine lv_iload hx hb dX2_searchNext_75 (lv_at hl 5 rfl) ?_
                refine dtI_go (w := wcat [landP Z La τ]) (wf := wcat []) (W1 := fun _ => wcat [landP Z La τ]) G X (wsel [0] rfl rfl) (run_V (As := [.int (nI xw), .int (nI r1)]) (rest := []) (n := 2) G hml hts hl.1 (p_recv G X 0 0 rfl rfl rfl) (k2_isShut hE xw r1 (by omega) (by omega) (by omega) _) (cwV 2 hts (cg_V ck_105 ck_113 ck_114 ck_115 ck_79) rfl rfl rfl (by decide +kernel) ⟨Nat.le_of_ble_eq_true rfl, Nat.le_of_ble_eq_true rfl⟩) rfl (Nat.le_of_ble_eq_true rfl) dX2_searchNext_77 ⟨Nat.le_refl _, Nat.le_refl _⟩) (fun _ => wback [0] rfl rfl) (fun H locs _ _ X => ?_)
                refine gb_if_ne (tgt := 109) hx hb dX2_searchNext_80 (by decide) (fun c_80 => ?_) (fun c_80 => ?_)
                ·
                  refine lv_iinc (v := nI (r1 + 1)) (lv' := [(4, .int (nI (r1 + 1))), (5, .int (nI 1)), (0, .ref La.1), (1, .int (nI xw)), (2, .int (nI xc)), (3, .ref (La.2.2 14 xw))]) hx hb dX2_searchNext_109 hl (k := 5) rfl (zn_inc _) (by decide) rfl (fun ls hl => ?_)
                  refine lv_goto (tgt := 30) hx hb dX2_searchNext_112 (by decide) ?_
                  refine ih_30 (r1 + 1) (by omega) (fun j hj => by rcases Nat.lt_or_ge j r1 with h9 | h9; exact hno j h9; rw [show j = r1 by omega]; first | exact znextP_3 c_103 | exact znextP_2 c_80 | exact znextP_1 (fun h => by omega)) (by omega) _ _ _ (by exact X) (by exact lv_sub hl [2, 3, 4, 5, 0] rfl)
                ·
                  refine lv_aload_n hx hb dX2_searchNext_83 rfl (lv_at hl 4 rfl) ?_
                  refine lv_aload_n hx hb dX2_searchNext_84 rfl (lv_at hl 1 rfl) ?_
                  refine lv_iload hx hb dX2_searchNext_85 (lv_at hl 5 rfl) ?_
                  refine lv_iload_n hx hb dX2_searchNext_87 rfl (lv_at hl 3 rfl) ?_
                  refine dtI_go (w := wcat [landP Z La τ]) (wf := wcat []) (W1 := fun _ => wcat [landP Z La τ]) G X (wsel [0] rfl rfl) (run_V (As := [.int (nI r1), .int (nI xc)]) (rest := [.ref (La.2.2 14 xw)]) (n := 2) G hml hts hl.1 (p_recv G X 0 0 rfl rfl rfl) (k2_otherEnd hE r1 xc (by omega) (by omega) (by omega) _) (cwV 2 hts (cg_V ck_106 ck_119 ck_120 ck_121 ck_79) rfl rfl rfl (by decide +kernel) ⟨Nat.le_of_ble_eq_true rfl, Nat.le_of_ble_eq_true rfl⟩) rfl (Nat.le_of_ble_eq_true rfl) dX2_searchNext_88 ⟨Nat.le_refl _, Nat.le_refl _⟩) (fun _ => wback [0] rfl rfl) (fun H locs _ _ X => ?_)
                  have q9 : (if τ.2 1 r1 = xc then τ.2 2 r1 else τ.2 1 r1) < 8 := by split <;> omega
                  have qa := hW (8 * xw + (if τ.2 1 r1 = xc then τ.2 2 r1 else τ.2 1 r1))
                  refine cr_iald G X 0 (xw + 22) rfl (landP_r14 (by omega)) (by omega) (by decide) dX2_searchNext_91 ?_
                  refine gi_eq (a := (τ.2 27 (8 * xw + (if τ.2 1 r1 = xc then τ.2 2 r1 else τ.2 1 r1)))) (zrow_in (by omega)) ?_
                  refine lv_aload_n hx hb dX2_searchNext_92 rfl (lv_at hl 1 rfl) ?_
                  refine cg_2 G X 0 0 rfl rfl 3 (by decide) (G.2.2.2.1 _ ck_55) rfl rfl dX2_searchNext_93 ?_
                  refine lv_iload hx hb dX2_searchNext_96 (lv_at hl 5 rfl) ?_
                  refine cr_iald G X 0 3 rfl rfl (by omega) (by decide) dX2_searchNext_98 ?_
                  refine gi_eq (a := (τ.2 3 r1)) (zcl_in (by omega)) ?_
                  refine gn_iadd hx hb dX2_searchNext_99  ?_
                  refine lv_aload_n hx hb dX2_searchNext_100 rfl (lv_at hl 4 rfl) ?_
                  refine lv_iload_n hx hb dX2_searchNext_101 rfl (lv_at hl 3 rfl) ?_
                  refine cr_iald G X 0 (xw + 22) rfl (landP_r14 (by omega)) (by omega) (by decide) dX2_searchNext_102 ?_
                  refine gi_eq (a := (τ.2 27 (8 * xw + xc))) (zrow_in (by omega)) ?_
                  refine gn_icmp_ne (tgt := 109) hx hb dX2_searchNext_103 (by decide) (by omega) (by omega) (fun c_103 => ?_) (fun c_103 => ?_)
                  ·
                    refine lv_iinc (v := nI (r1 + 1)) (lv' := [(4, .int (nI (r1 + 1))), (5, .int (nI 1)), (0, .ref La.1), (1, .int (nI xw)), (2, .int (nI xc)), (3, .ref (La.2.2 14 xw))]) hx hb dX2_searchNext_109 hl (k := 5) rfl (zn_inc _) (by decide) rfl (fun ls hl => ?_)
                    refine lv_goto (tgt := 30) hx hb dX2_searchNext_112 (by decide) ?_
                    refine ih_30 (r1 + 1) (by omega) (fun j hj => by rcases Nat.lt_or_ge j r1 with h9 | h9; exact hno j h9; rw [show j = r1 by omega]; first | exact znextP_3 c_103 | exact znextP_2 c_80 | exact znextP_1 (fun h => by omega)) (by omega) _ _ _ (by exact X) (by exact lv_sub hl [2, 3, 4, 5, 0] rfl)
                  ·
                    refine lv_iload hx hb dX2_searchNext_106 (lv_at hl 5 rfl) ?_
                    exact cfin_I (()) (trivial) (rfl) (by rw [znr_r (by omega) (by omega) hno (znextP_y (by omega) c_80 (by omega) c_103) c_36]) X dX2_searchNext_108 fin
            ·
              refine lv_aload_n hx hb dX2_searchNext_50 rfl (lv_at hl 0 rfl) ?_
              refine cg_2 G X 0 0 rfl rfl 2 (by decide) (G.2.2.2.1 _ ck_54) rfl rfl dX2_searchNext_51 ?_
              refine lv_iload hx hb dX2_searchNext_54 (lv_at hl 4 rfl) ?_
              refine cr_iald G X 0 2 rfl rfl (by omega) (by decide) dX2_searchNext_56 ?_
              refine gi_eq (a := (τ.2 2 r1)) (zcl_in (by omega)) ?_
              refine lv_iload_n hx hb dX2_searchNext_57 rfl (lv_at hl 2 rfl) ?_
              refine gn_icmp_ne (tgt := 65) hx hb dX2_searchNext_58 (by decide) (by omega) (by omega) (fun c_58 => ?_) (fun c_58 => ?_)
              ·
                refine lv_iconst (v := nI 0) hx hb dX2_searchNext_65 (by decide) ?_
                refine lv_istore (lv' := [(5, .int (nI 0)), (0, .ref La.1), (1, .int (nI xw)), (2, .int (nI xc)), (3, .ref (La.2.2 14 xw)), (4, .int (nI r1))]) hx hb dX2_searchNext_66 hl (by decide) rfl (fun ls hl => ?_)
                refine lv_iload hx hb dX2_searchNext_68 (lv_at hl 0 rfl) ?_
                refine gn_if_eq (tgt := 109) hx hb dX2_searchNext_70 (by decide) (by omega) (fun c_70 => ?_) (fun c_70 => ?_)
                ·
                  refine lv_iinc (v := nI (r1 + 1)) (lv' := [(4, .int (nI (r1 + 1))), (5, .int (nI 0)), (0, .ref La.1), (1, .int (nI xw)), (2, .int (nI xc)), (3, .ref (La.2.2 14 xw))]) hx hb dX2_searchNext_109 hl (k := 5) rfl (zn_inc _) (by decide) rfl (fun ls hl => ?_)
                  refine lv_goto (tgt := 30) hx hb dX2_searchNext_112 (by decide) ?_
                  refine ih_30 (r1 + 1) (by omega) (fun j hj => by rcases Nat.lt_or_ge j r1 with h9 | h9; exact hno j h9; rw [show j = r1 by omega]; first | exact znextP_3 c_103 | exact znextP_2 c_80 | exact znextP_1 (fun h => by omega)) (by omega) _ _ _ (by exact X) (by exact lv_sub hl [2, 3, 4, 5, 0] rfl)
                · exact absurd c_70 (by decide)
              ·
                refine lv_iconst (v := nI 1) hx hb dX2_searchNext_61 (by decide) ?_
                refine lv_goto (tgt := 66) hx hb dX2_searchNext_62 (by decide) ?_
                refine lv_istore (lv' := [(5, .int (nI 1)), (0, .ref La.1), (1, .int (nI xw)), (2, .int (nI xc)), (3, .ref (La.2.2 14 xw)), (4, .int (nI r1))]) hx hb dX2_searchNext_66 hl (by decide) rfl (fun ls hl => ?_)
                refine lv_iload hx hb dX2_searchNext_68 (lv_at hl 0 rfl) ?_
                refine gn_if_eq (tgt := 109) hx hb dX2_searchNext_70 (by decide) (by omega) (fun c_70 => ?_) (fun c_70 => ?_)
                · exact absurd c_70 (by decide)
                ·
                  refine lv_aload_n hx hb dX2_searchNext_73 rfl (lv_at hl 1 rfl) ?_
                  refine lv_iload_n hx hb dX2_searchNext_74 rfl (lv_at hl 2 rfl) ?_
                  refine lv_iload hx hb dX2_searchNext_75 (lv_at hl 5 rfl) ?_
                  refine dtI_go (w := wcat [landP Z La τ]) (wf := wcat []) (W1 := fun _ => wcat [landP Z La τ]) G X (wsel [0] rfl rfl) (run_V (As := [.int (nI xw), .int (nI r1)]) (rest := []) (n := 2) G hml hts hl.1 (p_recv G X 0 0 rfl rfl rfl) (k2_isShut hE xw r1 (by omega) (by omega) (by omega) _) (cwV 2 hts (cg_V ck_105 ck_113 ck_114 ck_115 ck_79) rfl rfl rfl (by decide +kernel) ⟨Nat.le_of_ble_eq_true rfl, Nat.le_of_ble_eq_true rfl⟩) rfl (Nat.le_of_ble_eq_true rfl) dX2_searchNext_77 ⟨Nat.le_refl _, Nat.le_refl _⟩) (fun _ => wback [0] rfl rfl) (fun H locs _ _ X => ?_)
                  refine gb_if_ne (tgt := 109) hx hb dX2_searchNext_80 (by decide) (fun c_80 => ?_) (fun c_80 => ?_)
                  ·
                    refine lv_iinc (v := nI (r1 + 1)) (lv' := [(4, .int (nI (r1 + 1))), (5, .int (nI 1)), (0, .ref La.1), (1, .int (nI xw)), (2, .int (nI xc)), (3, .ref (La.2.2 14 xw))]) hx hb dX2_searchNext_109 hl (k := 5) rfl (zn_inc _) (by decide) rfl (fun ls hl => ?_)
                    refine lv_goto (tgt := 30) hx hb dX2_searchNext_112 (by decide) ?_
                    refine ih_30 (r1 + 1) (by omega) (fun j hj => by rcases Nat.lt_or_ge j r1 with h9 | h9; exact hno j h9; rw [show j = r1 by omega]; first | exact znextP_3 c_103 | exact znextP_2 c_80 | exact znextP_1 (fun h => by omega)) (by omega) _ _ _ (by exact X) (by exact lv_sub hl [2, 3, 4, 5, 0] rfl)
                  ·
                    refine lv_aload_n hx hb dX2_searchNext_83 rfl (lv_at hl 4 rfl) ?_
                    refine lv_aload_n hx hb dX2_searchNext_84 rfl (lv_at hl 1 rfl) ?_
                    refine lv_iload hx hb dX2_searchNext_85 (lv_at hl 5 rfl) ?_
                    refine lv_iload_n hx hb dX2_searchNext_87 rfl (lv_at hl 3 rfl) ?_
                    refine dtI_go (w := wcat [landP Z La τ]) (wf := wcat []) (W1 := fun _ => wcat [landP Z La τ]) G X (wsel [0] rfl rfl) (run_V (As := [.int (nI r1), .int (nI xc)]) (rest := [.ref (La.2.2 14 xw)]) (n := 2) G hml hts hl.1 (p_recv G X 0 0 rfl rfl rfl) (k2_otherEnd hE r1 xc (by omega) (by omega) (by omega) _) (cwV 2 hts (cg_V ck_106 ck_119 ck_120 ck_121 ck_79) rfl rfl rfl (by decide +kernel) ⟨Nat.le_of_ble_eq_true rfl, Nat.le_of_ble_eq_true rfl⟩) rfl (Nat.le_of_ble_eq_true rfl) dX2_searchNext_88 ⟨Nat.le_refl _, Nat.le_refl _⟩) (fun _ => wback [0] rfl rfl) (fun H locs _ _ X => ?_)
                    have q9 : (if τ.2 1 r1 = xc then τ.2 2 r1 else τ.2 1 r1) < 8 := by split <;> omega
                    have qa := hW (8 * xw + (if τ.2 1 r1 = xc then τ.2 2 r1 else τ.2 1 r1))
                    refine cr_iald G X 0 (xw + 22) rfl (landP_r14 (by omega)) (by omega) (by decide) dX2_searchNext_91 ?_
                    refine gi_eq (a := (τ.2 27 (8 * xw + (if τ.2 1 r1 = xc then τ.2 2 r1 else τ.2 1 r1)))) (zrow_in (by omega)) ?_
                    refine lv_aload_n hx hb dX2_searchNext_92 rfl (lv_at hl 1 rfl) ?_
                    refine cg_2 G X 0 0 rfl rfl 3 (by decide) (G.2.2.2.1 _ ck_55) rfl rfl dX2_searchNext_93 ?_
                    refine lv_iload hx hb dX2_searchNext_96 (lv_at hl 5 rfl) ?_
                    refine cr_iald G X 0 3 rfl rfl (by omega) (by decide) dX2_searchNext_98 ?_
                    refine gi_eq (a := (τ.2 3 r1)) (zcl_in (by omega)) ?_
                    refine gn_iadd hx hb dX2_searchNext_99  ?_
                    refine lv_aload_n hx hb dX2_searchNext_100 rfl (lv_at hl 4 rfl) ?_
                    refine lv_iload_n hx hb dX2_searchNext_101 rfl (lv_at hl 3 rfl) ?_
                    refine cr_iald G X 0 (xw + 22) rfl (landP_r14 (by omega)) (by omega) (by decide) dX2_searchNext_102 ?_
                    refine gi_eq (a := (τ.2 27 (8 * xw + xc))) (zrow_in (by omega)) ?_
                    refine gn_icmp_ne (tgt := 109) hx hb dX2_searchNext_103 (by decide) (by omega) (by omega) (fun c_103 => ?_) (fun c_103 => ?_)
                    ·
                      refine lv_iinc (v := nI (r1 + 1)) (lv' := [(4, .int (nI (r1 + 1))), (5, .int (nI 1)), (0, .ref La.1), (1, .int (nI xw)), (2, .int (nI xc)), (3, .ref (La.2.2 14 xw))]) hx hb dX2_searchNext_109 hl (k := 5) rfl (zn_inc _) (by decide) rfl (fun ls hl => ?_)
                      refine lv_goto (tgt := 30) hx hb dX2_searchNext_112 (by decide) ?_
                      refine ih_30 (r1 + 1) (by omega) (fun j hj => by rcases Nat.lt_or_ge j r1 with h9 | h9; exact hno j h9; rw [show j = r1 by omega]; first | exact znextP_3 c_103 | exact znextP_2 c_80 | exact znextP_1 (fun h => by omega)) (by omega) _ _ _ (by exact X) (by exact lv_sub hl [2, 3, 4, 5, 0] rfl)
                    ·
                      refine lv_iload hx hb dX2_searchNext_106 (lv_at hl 5 rfl) ?_
                      exact cfin_I (()) (trivial) (rfl) (by rw [znr_r (by omega) (by omega) hno (znextP_y (by omega) c_80 (by omega) c_103) c_36]) X dX2_searchNext_108 fin
      refine cut_30 _ 0 (Nat.zero_le _) (fun j hj => absurd hj (Nat.not_lt_zero j)) (Nat.lt_succ_self _) _ _ _ (by exact X) (by exact lv_sub hl [2, 3, 4, 1, 0] rfl)
    ·
      refine lv_iconst (v := nI 4294967295) hx hb dX2_searchNext_25 (by decide) ?_
      exact cfin_I (()) (trivial) (rfl) (by first | rw [znr_g (by omega)] | rw [znr_n1 (by omega) (by omega)]) X dX2_searchNext_26 fin
set_option maxHeartbeats 4000000 in
set_option maxRecDepth 100000 in
theorem k2_searchPleasing {E : (Nat → Prop) → State → Heap → Prop} (hE : cEok E) {l : Launch} {D : va_G} {Z : Nat → ClassId} {La : LA} {τ : MS} (xc : Nat) (hok : mOk τ) (hW : zWok (τ.2 27)) (hc : xc < 8) : dtI E l D Z yX2_searchPleasing (Cond.code yX2_searchPleasing cX2_searchPleasing 4 (some .int) :: cW) { frames := 0, cells := 0, slots := 0, locals := 0 } [.ref La.1, .int (nI xc)] (wcat [landP Z La τ]) (S := Unit) (fun _ => wcat [landP Z La τ]) (fun _ => nI (zleast (fun o => τ.2 27 (8 * o + xc)) (τ.1 4))) (fun _ => True) := by
  refine dtI_of hE (cc := cX2_searchPleasing) (maxL := 4) (by decide +kernel) (fun w h => List.mem_cons_of_mem _ h) (Nat.le_of_ble_eq_true rfl) ?_
  intro p e s m args below meth c A Q ls hx hb hml hown hts G X hl fin
  replace hl : lv_has ls 4 [(0, .ref La.1), (1, .int (nI xc))] := hl
  obtain ⟨k0, k4, k8, kr, kw, ks, kmet, kmt, k12, k13⟩ := id hok
  refine lv_iconst (v := nI 0) hx hb dX2_searchPleasing_0 (by decide) ?_
  refine lv_istore_n (lv' := [(2, .int (nI 0)), (0, .ref La.1), (1, .int (nI xc))]) hx hb dX2_searchPleasing_1 rfl hl (by decide) rfl (fun ls hl => ?_)
  refine lv_iconst (v := nI 1) hx hb dX2_searchPleasing_2 (by decide) ?_
  refine lv_istore_n (lv' := [(3, .int (nI 1)), (2, .int (nI 0)), (0, .ref La.1), (1, .int (nI xc))]) hx hb dX2_searchPleasing_3 rfl hl (by decide) rfl (fun ls hl => ?_)
  have cut_4 : ∀ (NN : Nat) (w1 : Nat) (h0 : 1 ≤ w1) (h1 : w1 ≤ τ.1 4 ∨ w1 = 1), τ.1 4 - w1 < NN → ∀ (H : Heap) (locs : List Loc) (ls : Array Slot), wH D vwCl A s.heap H locs (wcat [landP Z La τ]) → lv_has ls 4 [(0, .ref La.1), (1, .int (nI xc)), (2, .int (nI (zleast (fun o => τ.2 27 (8 * o + xc)) w1))), (3, .int (nI w1))] → W p l e { frames := 0, cells := 0, slots := 0, locals := 0 } s m args below meth c H locs 0 0 Q (F0 m 4 ls []) := by
    intro NN
    induction NN with
    | zero => intro w1 h0 h1 hNN; exact absurd hNN (Nat.not_lt_zero _)
    | succ NN ih_4 =>
      intro w1 h0 h1 hNN H locs ls X hl
      have hzl := zleast_lt (fun o => τ.2 27 (8 * o + xc)) w1 h0
      refine lv_iload_n hx hb dX2_searchPleasing_4 rfl (lv_at hl 3 rfl) ?_
      refine lv_aload_n hx hb dX2_searchPleasing_5 rfl (lv_at hl 0 rfl) ?_
      refine cg_2 G X 0 0 rfl rfl 4 (by decide) (G.2.2.2.1 _ ck_56) rfl rfl dX2_searchPleasing_6 ?_
      refine gn_icmp_ge (tgt := 39) hx hb dX2_searchPleasing_9 (by decide) (by omega) (by omega) (fun c_9 => ?_) (fun c_9 => ?_)
      ·
        refine lv_iload_n hx hb dX2_searchPleasing_39 rfl (lv_at hl 2 rfl) ?_
        exact cfin_I (()) (trivial) (rfl) (by rcases h1 with h9 | h9; rw [show w1 = τ.1 4 by omega]; rcases Nat.eq_zero_or_pos (τ.1 4) with h8 | h8; rw [h8, h9, zleast_1]; rfl; rw [show w1 = τ.1 4 by omega]) X dX2_searchPleasing_40 fin
      ·
        have qa := hW (8 * w1 + xc)
        have qb := hW (8 * zleast (fun o => τ.2 27 (8 * o + xc)) w1 + xc)
        refine lv_aload_n hx hb dX2_searchPleasing_12 rfl (lv_at hl 0 rfl) ?_
        refine cg_2 G X 0 0 rfl rfl 14 (by decide) (G.2.2.2.1 _ ck_67) rfl rfl dX2_searchPleasing_13 ?_
        refine lv_iload_n hx hb dX2_searchPleasing_16 rfl (lv_at hl 3 rfl) ?_
        refine cr_aald G X 0 11 rfl rfl (by omega) (by decide) (if_pos (by omega)) dX2_searchPleasing_17 ?_
        refine lv_iload_n hx hb dX2_searchPleasing_18 rfl (lv_at hl 1 rfl) ?_
        refine cr_iald G X 0 (w1 + 22) rfl (landP_r14 (by omega)) (by omega) (by decide) dX2_searchPleasing_19 ?_
        refine gi_eq (a := (τ.2 27 (8 * w1 + xc))) (zrow_in (by omega)) ?_
        refine lv_aload_n hx hb dX2_searchPleasing_20 rfl (lv_at hl 0 rfl) ?_
        refine cg_2 G X 0 0 rfl rfl 14 (by decide) (G.2.2.2.1 _ ck_67) rfl rfl dX2_searchPleasing_21 ?_
        refine lv_iload_n hx hb dX2_searchPleasing_24 rfl (lv_at hl 2 rfl) ?_
        refine cr_aald G X 0 11 rfl rfl (by omega) (by decide) (if_pos (by omega)) dX2_searchPleasing_25 ?_
        refine lv_iload_n hx hb dX2_searchPleasing_26 rfl (lv_at hl 1 rfl) ?_
        refine cr_iald G X 0 (zleast (fun o => τ.2 27 (8 * o + xc)) w1 + 22) rfl (landP_r14 (by omega)) (by omega) (by decide) dX2_searchPleasing_27 ?_
        refine gi_eq (a := (τ.2 27 (8 * (zleast (fun o => τ.2 27 (8 * o + xc)) w1) + xc))) (zrow_in (by omega)) ?_
        refine gn_icmp_ge (tgt := 33) hx hb dX2_searchPleasing_28 (by decide) (by omega) (by omega) (fun c_28 => ?_) (fun c_28 => ?_)
        ·
          refine lv_iinc (v := nI (w1 + 1)) (lv' := [(3, .int (nI (w1 + 1))), (0, .ref La.1), (1, .int (nI xc)), (2, .int (nI (zleast (fun o => τ.2 27 (8 * o + xc)) w1)))]) hx hb dX2_searchPleasing_33 hl (k := 3) rfl (zn_inc _) (by decide) rfl (fun ls hl => ?_)
          refine lv_goto (tgt := 4) hx hb dX2_searchPleasing_36 (by decide) ?_
          refine ih_4 (w1 + 1) (by omega) (by omega) (by omega) _ _ _ (by exact X) (by first | (rw [show zleast (fun o => τ.2 27 (8 * o + xc)) (w1 + 1) = w1 by rw [zleast, if_pos c_28]]; exact lv_sub hl [1, 2, 3, 0] rfl) | (rw [show zleast (fun o => τ.2 27 (8 * o + xc)) (w1 + 1) = zleast (fun o => τ.2 27 (8 * o + xc)) w1 by rw [zleast, if_neg (by omega)]]; exact lv_sub hl [1, 2, 3, 0] rfl))
        ·
          refine lv_iload_n hx hb dX2_searchPleasing_31 rfl (lv_at hl 3 rfl) ?_
          refine lv_istore_n (lv' := [(2, .int (nI w1)), (0, .ref La.1), (1, .int (nI xc)), (3, .int (nI w1))]) hx hb dX2_searchPleasing_32 rfl hl (by decide) rfl (fun ls hl => ?_)
          refine lv_iinc (v := nI (w1 + 1)) (lv' := [(3, .int (nI (w1 + 1))), (2, .int (nI w1)), (0, .ref La.1), (1, .int (nI xc))]) hx hb dX2_searchPleasing_33 hl (k := 3) rfl (zn_inc _) (by decide) rfl (fun ls hl => ?_)
          refine lv_goto (tgt := 4) hx hb dX2_searchPleasing_36 (by decide) ?_
          refine ih_4 (w1 + 1) (by omega) (by omega) (by omega) _ _ _ (by exact X) (by first | (rw [show zleast (fun o => τ.2 27 (8 * o + xc)) (w1 + 1) = w1 by rw [zleast, if_pos c_28]]; exact lv_sub hl [2, 3, 1, 0] rfl) | (rw [show zleast (fun o => τ.2 27 (8 * o + xc)) (w1 + 1) = zleast (fun o => τ.2 27 (8 * o + xc)) w1 by rw [zleast, if_neg (by omega)]]; exact lv_sub hl [2, 3, 1, 0] rfl))
  refine cut_4 _ 1 (by omega) (Or.inr rfl) (Nat.lt_succ_self _) _ _ _ (by exact X) (by rw [zleast_1]; exact lv_sub hl [2, 3, 1, 0] rfl)
