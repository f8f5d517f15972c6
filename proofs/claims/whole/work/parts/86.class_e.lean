set_option maxHeartbeats 4000000 in
set_option maxRecDepth 100000 in
theorem k10_mostSaid {E : (Nat → Prop) → State → Heap → Prop} (hE : cEok E) {l : Launch} {D : va_G} {Z : Nat → ClassId} {wo vq ru k f yw yz yp yl ym yr ya yg : Nat} {La : LA} {τ : MS} {ta : Nat × Nat × Nat} {F K v : Nat → Nat} (xt : Nat) (hT : tOk τ) (hw : yw < τ.1 4) (hl8 : yl < 8) (hpo : yp = τ.1 28 ∧ yp < 4294967296) (ht : xt < 100) : dtI E l D Z yX10_mostSaid (Cond.code yX10_mostSaid cX10_mostSaid 4 (some .int) :: cW) { frames := 2, cells := 0, slots := 0, locals := 45 } [.ref wo, .int (nI xt)] (wcat [wkP Z (wo, La.1, ta.1, vq) ru yw yz yp yl ym yr ya yg v, landP Z La τ, thP Z ta F K, ruP ru k f]) (S := Unit) (fun _ => wcat [wkP Z (wo, La.1, ta.1, vq) ru yw (zsd yz xt) yp yl (ym + xt * τ.1 13) yr (ya + xt) yg (zvotes τ yz yl yw xt), landP Z La τ, thP Z ta F K, ruP ru k f]) (fun _ => nI (zmost (zvotes τ yz yl yw xt) (τ.1 4))) (fun _ => True) := by
  refine dtI_of hE (cc := cX10_mostSaid) (maxL := 4) (by decide +kernel) (fun w h => List.mem_cons_of_mem _ h) (Nat.le_of_ble_eq_true rfl) ?_
  intro p e s m args below meth c A Q ls hx hb hml hown hts G X hl fin
  replace hl : lv_has ls 4 [(0, .ref wo), (1, .int (nI xt))] := hl
  obtain ⟨hok, hpl, hod, hrows, hnx, hsh6, hgl8⟩ := id hT
  obtain ⟨k0, k4, k8, kr, kw, ks, kmet, kmt, k12, k13⟩ := id hok
  refine lv_iconst (v := nI 0) hx hb dX10_mostSaid_0 (by decide) ?_
  refine lv_istore_n (lv' := [(2, .int (nI 0)), (0, .ref wo), (1, .int (nI xt))]) hx hb dX10_mostSaid_1 rfl hl (by decide) rfl (fun ls hl => ?_)
  have cut_2 : ∀ (NN : Nat) (w1 : Nat) (h1 : w1 ≤ 5), 5 - w1 < NN → ∀ (H : Heap) (locs : List Loc) (ls : Array Slot), wH D vwCl A s.heap H locs (wcat [wkP Z (wo, La.1, ta.1, vq) ru yw yz yp yl ym yr ya yg (zcp (fun _ => 0) v w1), landP Z La τ, thP Z ta F K, ruP ru k f]) → lv_has ls 4 [(0, .ref wo), (1, .int (nI xt)), (2, .int (nI w1))] → W p l e { frames := 2, cells := 0, slots := 0, locals := 45 } s m args below meth c H locs 0 0 Q (F0 m 2 ls []) := by
    intro NN
    induction NN with
    | zero => intro w1 h1 hNN; exact absurd hNN (Nat.not_lt_zero _)
    | succ NN ih_2 =>
      intro w1 h1 hNN H locs ls X hl
      refine lv_iload_n hx hb dX10_mostSaid_2 rfl (lv_at hl 2 rfl) ?_
      refine lv_iconst (v := nI 5) hx hb dX10_mostSaid_3 (by decide) ?_
      refine gn_icmp_ge (tgt := 20) hx hb dX10_mostSaid_4 (by decide) (by omega) (by omega) (fun c_4 => ?_) (fun c_4 => ?_)
      ·
        refine lv_iconst (v := nI 0) hx hb dX10_mostSaid_20 (by decide) ?_
        refine lv_istore_n (lv' := [(2, .int (nI 0)), (0, .ref wo), (1, .int (nI xt))]) hx hb dX10_mostSaid_21 rfl hl (by decide) rfl (fun ls hl => ?_)
        have cut_22 : ∀ (NN : Nat) (i1 : Nat) (hi : i1 ≤ xt), xt - i1 < NN → ∀ (H : Heap) (locs : List Loc) (ls : Array Slot), wH D vwCl A s.heap H locs (wcat [wkP Z (wo, La.1, ta.1, vq) ru yw (zsd yz i1) yp yl (ym + i1 * τ.1 13) yr (ya + i1) yg (zvotes τ yz yl yw i1), landP Z La τ, thP Z ta F K, ruP ru k f]) → lv_has ls 4 [(0, .ref wo), (1, .int (nI xt)), (2, .int (nI i1))] → W p l e { frames := 2, cells := 0, slots := 0, locals := 45 } s m args below meth c H locs 0 0 Q (F0 m 22 ls []) := by
          intro NN
          induction NN with
          | zero => intro i1 hi hNN; exact absurd hNN (Nat.not_lt_zero _)
          | succ NN ih_22 =>
            intro i1 hi hNN H locs ls X hl
            refine lv_iload_n hx hb dX10_mostSaid_22 rfl (lv_at hl 2 rfl) ?_
            refine lv_iload_n hx hb dX10_mostSaid_23 rfl (lv_at hl 1 rfl) ?_
            refine gn_icmp_ge (tgt := 59) hx hb dX10_mostSaid_24 (by decide) (by omega) (by omega) (fun c_24 => ?_) (fun c_24 => ?_)
            ·
              refine lv_iconst (v := nI 0) hx hb dX10_mostSaid_59 (by decide) ?_
              refine lv_istore_n (lv' := [(2, .int (nI 0)), (0, .ref wo), (1, .int (nI xt))]) hx hb dX10_mostSaid_60 rfl hl (by decide) rfl (fun ls hl => ?_)
              refine lv_iconst (v := nI 1) hx hb dX10_mostSaid_61 (by decide) ?_
              refine lv_istore_n (lv' := [(3, .int (nI 1)), (2, .int (nI 0)), (0, .ref wo), (1, .int (nI xt))]) hx hb dX10_mostSaid_62 rfl hl (by decide) rfl (fun ls hl => ?_)
              have cut_63 : ∀ (NN : Nat) (w3 : Nat) (h30 : 0 < w3) (h3 : w3 ≤ 5), 5 - w3 < NN → ∀ (H : Heap) (locs : List Loc) (ls : Array Slot), wH D vwCl A s.heap H locs (wcat [wkP Z (wo, La.1, ta.1, vq) ru yw (zsd yz xt) yp yl (ym + xt * τ.1 13) yr (ya + xt) yg (zvotes τ yz yl yw xt), landP Z La τ, thP Z ta F K, ruP ru k f]) → lv_has ls 4 [(0, .ref wo), (1, .int (nI xt)), (2, .int (nI (zbest (zvotes τ yz yl yw xt) w3))), (3, .int (nI w3))] → W p l e { frames := 2, cells := 0, slots := 0, locals := 45 } s m args below meth c H locs 0 0 Q (F0 m 63 ls []) := by
                intro NN
                induction NN with
                | zero => intro w3 h30 h3 hNN; exact absurd hNN (Nat.not_lt_zero _)
                | succ NN ih_63 =>
                  intro w3 h30 h3 hNN H locs ls X hl
                  have hzb := zbest_lt (zvotes τ yz yl yw xt) w3 h30
                  have hv1 := zvotes_le τ yz yl yw xt (zbest (zvotes τ yz yl yw xt) w3)
                  have hv2 := zvotes_le τ yz yl yw xt w3
                  refine lv_iload_n hx hb dX10_mostSaid_63 rfl (lv_at hl 3 rfl) ?_
                  refine lv_iconst (v := nI 5) hx hb dX10_mostSaid_64 (by decide) ?_
                  refine gn_icmp_ge (tgt := 91) hx hb dX10_mostSaid_65 (by decide) (by omega) (by omega) (fun c_65 => ?_) (fun c_65 => ?_)
                  ·
                    have e5 : zbest (zvotes τ yz yl yw xt) w3 = zbest (zvotes τ yz yl yw xt) (τ.1 4) := by rw [show w3 = 5 by omega]; exact zbest_ext k4 (fun o h1 h2 => zvotes_out hw h1 h2 xt)
                    have ez := zmost_is (v := zvotes τ yz yl yw xt) (n := τ.1 4) (by omega) (by omega)
                    refine lv_aload_n hx hb dX10_mostSaid_91 rfl (lv_at hl 0 rfl) ?_
                    refine cg_10 G X 0 0 rfl rfl 2 (by decide) (G.2.2.2.1 _ ck_345) rfl rfl dX10_mostSaid_92 ?_
                    refine lv_iload_n hx hb dX10_mostSaid_95 rfl (lv_at hl 2 rfl) ?_
                    refine cr_iald G X 0 1 rfl rfl (by omega) (by decide) dX10_mostSaid_96 ?_
                    refine gi_eq (a := ((zvotes τ yz yl yw xt) (zbest (zvotes τ yz yl yw xt) w3))) (zcl_in (by omega)) ?_
                    refine gn_if_le (tgt := 104) hx hb dX10_mostSaid_97 (by decide) (by omega) (fun c_97 => ?_) (fun c_97 => ?_)
                    ·
                      refine lv_iconst (v := nI 4294967295) hx hb dX10_mostSaid_104 (by decide) ?_
                      exact cfin_I (()) (trivial) (rfl) (by rw [ez, ← e5]; first | rw [if_pos c_97] | rw [if_neg (by omega)]) X dX10_mostSaid_105 fin
                    ·
                      refine lv_iload_n hx hb dX10_mostSaid_100 rfl (lv_at hl 2 rfl) ?_
                      refine lv_goto (tgt := 105) hx hb dX10_mostSaid_101 (by decide) ?_
                      exact cfin_I (()) (trivial) (rfl) (by rw [ez, ← e5]; first | rw [if_pos c_97] | rw [if_neg (by omega)]) X dX10_mostSaid_105 fin
                  ·
                    refine lv_aload_n hx hb dX10_mostSaid_68 rfl (lv_at hl 0 rfl) ?_
                    refine cg_10 G X 0 0 rfl rfl 2 (by decide) (G.2.2.2.1 _ ck_345) rfl rfl dX10_mostSaid_69 ?_
                    refine lv_iload_n hx hb dX10_mostSaid_72 rfl (lv_at hl 3 rfl) ?_
                    refine cr_iald G X 0 1 rfl rfl (by omega) (by decide) dX10_mostSaid_73 ?_
                    refine gi_eq (a := ((zvotes τ yz yl yw xt) w3)) (zcl_in (by omega)) ?_
                    refine lv_aload_n hx hb dX10_mostSaid_74 rfl (lv_at hl 0 rfl) ?_
                    refine cg_10 G X 0 0 rfl rfl 2 (by decide) (G.2.2.2.1 _ ck_345) rfl rfl dX10_mostSaid_75 ?_
                    refine lv_iload_n hx hb dX10_mostSaid_78 rfl (lv_at hl 2 rfl) ?_
                    refine cr_iald G X 0 1 rfl rfl (by omega) (by decide) dX10_mostSaid_79 ?_
                    refine gi_eq (a := ((zvotes τ yz yl yw xt) (zbest (zvotes τ yz yl yw xt) w3))) (zcl_in (by omega)) ?_
                    refine gn_icmp_le (tgt := 85) hx hb dX10_mostSaid_80 (by decide) (by omega) (by omega) (fun c_80 => ?_) (fun c_80 => ?_)
                    ·
                      refine lv_iinc (v := nI (w3 + 1)) (lv' := [(3, .int (nI (w3 + 1))), (0, .ref wo), (1, .int (nI xt)), (2, .int (nI (zbest (zvotes τ yz yl yw xt) w3)))]) hx hb dX10_mostSaid_85 hl (k := 3) rfl (zn_inc _) (by decide) rfl (fun ls hl => ?_)
                      refine lv_goto (tgt := 63) hx hb dX10_mostSaid_88 (by decide) ?_
                      refine ih_63 (w3 + 1) (by omega) (by omega) (by omega) _ _ _ (by exact X) (by first | (rw [show zbest (zvotes τ yz yl yw xt) (w3 + 1) = w3 by rw [zbest, if_pos c_80]]; exact lv_sub hl [1, 2, 3, 0] rfl) | (rw [show zbest (zvotes τ yz yl yw xt) (w3 + 1) = zbest (zvotes τ yz yl yw xt) w3 by rw [zbest, if_neg (by omega)]]; exact lv_sub hl [1, 2, 3, 0] rfl))
                    ·
                      refine lv_iload_n hx hb dX10_mostSaid_83 rfl (lv_at hl 3 rfl) ?_
                      refine lv_istore_n (lv' := [(2, .int (nI w3)), (0, .ref wo), (1, .int (nI xt)), (3, .int (nI w3))]) hx hb dX10_mostSaid_84 rfl hl (by decide) rfl (fun ls hl => ?_)
                      refine lv_iinc (v := nI (w3 + 1)) (lv' := [(3, .int (nI (w3 + 1))), (2, .int (nI w3)), (0, .ref wo), (1, .int (nI xt))]) hx hb dX10_mostSaid_85 hl (k := 3) rfl (zn_inc _) (by decide) rfl (fun ls hl => ?_)
                      refine lv_goto (tgt := 63) hx hb dX10_mostSaid_88 (by decide) ?_
                      refine ih_63 (w3 + 1) (by omega) (by omega) (by omega) _ _ _ (by exact X) (by first | (rw [show zbest (zvotes τ yz yl yw xt) (w3 + 1) = w3 by rw [zbest, if_pos c_80]]; exact lv_sub hl [2, 3, 1, 0] rfl) | (rw [show zbest (zvotes τ yz yl yw xt) (w3 + 1) = zbest (zvotes τ yz yl yw xt) w3 by rw [zbest, if_neg (by omega)]]; exact lv_sub hl [2, 3, 1, 0] rfl))
              refine cut_63 _ 1 (by omega) (by omega) (Nat.lt_succ_self _) _ _ _ (by rw [show i1 = xt by omega] at X; exact X) (by rw [zbest_1]; exact lv_sub hl [2, 3, 1, 0] rfl)
            ·
              refine lv_aload_n hx hb dX10_mostSaid_27 rfl (lv_at hl 0 rfl) ?_
              refine dtI_go (w := wcat [wkP Z (wo, La.1, ta.1, vq) ru yw (zsd yz i1) yp yl (ym + i1 * τ.1 13) yr (ya + i1) yg (zvotes τ yz yl yw i1), landP Z La τ, thP Z ta F K, ruP ru k f]) (wf := wcat []) (W1 := fun _ => wcat [wkP Z (wo, La.1, ta.1, vq) ru yw (znx (zsd yz i1)) yp yl ((ym + i1 * τ.1 13) + (τ.1 13)) yr ((ya + i1) + 1) yg (zvotes τ yz yl yw i1), landP Z La τ, thP Z ta F K, ruP ru k f]) G X (wsel [0, 1, 2, 3] rfl rfl) (run_V (As := []) (rest := []) (n := 0) G hml hts hl.1 (p_recv G X 0 0 rfl rfl rfl) (k10_askOnce hE hT (by omega) (by omega) hpo _) (cwV 0 hts (cg_V ck_380 ck_381 ck_382 ck_383 ck_365) rfl rfl rfl (by decide +kernel) ⟨Nat.le_of_ble_eq_true rfl, Nat.le_of_ble_eq_true rfl⟩) rfl (Nat.le_of_ble_eq_true rfl) dX10_mostSaid_28 ⟨Nat.le_refl _, Nat.le_refl _⟩) (fun _ => wback [0, 1, 2, 3] rfl rfl) (fun H locs _ _ X => ?_)
              refine lv_istore_n (lv' := [(3, .int (nI (zans τ (znx (zsd yz i1)) yl yw))), (0, .ref wo), (1, .int (nI xt)), (2, .int (nI i1))]) hx hb dX10_mostSaid_31 rfl hl (by decide) rfl (fun ls hl => ?_)
              have ha5 := zans_lt (σ := τ) (z := znx (zsd yz i1)) (c := yl) hw
              have hir : zir (nI (zans τ (znx (zsd yz i1)) yl yw)) (τ.1 4) ↔ zans τ (znx (zsd yz i1)) yl yw < τ.1 4 := by rcases ha5 with h9 | h9; exact zir_n (by omega); rw [h9]; exact ⟨fun h => absurd h zir_m1, fun h => by omega⟩
              refine lv_aload_n hx hb dX10_mostSaid_32 rfl (lv_at hl 1 rfl) ?_
              refine cg_10 G X 0 0 rfl rfl 0 (by decide) (G.2.2.2.1 _ ck_341) rfl rfl dX10_mostSaid_33 ?_
              refine lv_iload_n hx hb dX10_mostSaid_36 rfl (lv_at hl 0 rfl) ?_
              refine dtI_go (w := wcat [landP Z La τ]) (wf := wcat [wkP Z (wo, La.1, ta.1, vq) ru yw (znx (zsd yz i1)) yp yl ((ym + i1 * τ.1 13) + (τ.1 13)) yr ((ya + i1) + 1) yg (zvotes τ yz yl yw i1), thP Z ta F K, ruP ru k f]) (W1 := fun _ => wcat [wkP Z (wo, La.1, ta.1, vq) ru yw (znx (zsd yz i1)) yp yl ((ym + i1 * τ.1 13) + (τ.1 13)) yr ((ya + i1) + 1) yg (zvotes τ yz yl yw i1), landP Z La τ, thP Z ta F K, ruP ru k f]) G X (wsel [1, 0, 2, 3] rfl rfl) (run_V (As := [.int (nI (zans τ (znx (zsd yz i1)) yl yw))]) (rest := []) (n := 1) G hml hts hl.1 (p_recv G X 1 0 rfl rfl rfl) (k2_hasWorld hE (nI (zans τ (znx (zsd yz i1)) yl yw)) hok _) (cwV 1 hts (cg_V ck_72 ck_384 ck_297 ck_298 ck_79) rfl rfl rfl (by decide +kernel) ⟨Nat.le_of_ble_eq_true rfl, Nat.le_of_ble_eq_true rfl⟩) rfl (Nat.le_of_ble_eq_true rfl) dX10_mostSaid_37 ⟨Nat.le_refl _, Nat.le_refl _⟩) (fun _ => wback [1, 0, 2, 3] rfl rfl) (fun H locs _ _ X => ?_)
              refine gb_if_eq (tgt := 53) hx hb dX10_mostSaid_40 (by decide) (fun c_40 => ?_) (fun c_40 => ?_)
              ·
                rw [hir] at c_40
                refine lv_iinc (v := nI (i1 + 1)) (lv' := [(2, .int (nI (i1 + 1))), (3, .int (nI (zans τ (znx (zsd yz i1)) yl yw))), (0, .ref wo), (1, .int (nI xt))]) hx hb dX10_mostSaid_53 hl (k := 3) rfl (zn_inc _) (by decide) rfl (fun ls hl => ?_)
                refine lv_goto (tgt := 22) hx hb dX10_mostSaid_56 (by decide) ?_
                refine ih_22 (i1 + 1) (by omega) (by omega) _ _ _ (by rw [show ym + i1 * τ.1 13 + τ.1 13 = ym + (i1 + 1) * τ.1 13 by rw [Nat.succ_mul]; omega] at X; first | exact wx_eq (congrArg (fun z => wcat [z, landP Z La τ, thP Z ta F K, ruP ru k f]) (wkP_cong (fun i hi => zvotes_n (by omega) i hi))) X | exact wx_eq (congrArg (fun z => wcat [z, landP Z La τ, thP Z ta F K, ruP ru k f]) (wkP_cong (fun i hi => zvotes_y i))) X) (by exact lv_sub hl [2, 3, 0] rfl)
              ·
                rw [hir] at c_40
                refine lv_aload_n hx hb dX10_mostSaid_43 rfl (lv_at hl 1 rfl) ?_
                refine cg_10 G X 0 0 rfl rfl 2 (by decide) (G.2.2.2.1 _ ck_345) rfl rfl dX10_mostSaid_44 ?_
                refine lv_iload_n hx hb dX10_mostSaid_47 rfl (lv_at hl 0 rfl) ?_
                refine lv_dup2_11 hx hb dX10_mostSaid_48 rfl rfl ?_
                refine cr_iald G X 0 1 rfl rfl (by omega) (by decide) dX10_mostSaid_49 ?_
                refine gi_eq (a := ((zvotes τ yz yl yw i1) (zans τ (znx (zsd yz i1)) yl yw))) (zcl_in (by omega)) ?_
                refine lv_iconst (v := nI 1) hx hb dX10_mostSaid_50 (by decide) ?_
                refine gn_iadd hx hb dX10_mostSaid_51  ?_
                refine cr_iast (ps' := [wkP Z (wo, La.1, ta.1, vq) ru yw (znx (zsd yz i1)) yp yl ((ym + i1 * τ.1 13) + (τ.1 13)) yr ((ya + i1) + 1) yg (fun b => if b = zans τ (znx (zsd yz i1)) yl yw then ((zvotes τ yz yl yw i1) (zans τ (znx (zsd yz i1)) yl yw)) + 1 else (zvotes τ yz yl yw i1) b), landP Z La τ, thP Z ta F K, ruP ru k f]) G X 0 1 rfl rfl (by omega) (by decide) (congrArg (fun z => [z, landP Z La τ, thP Z ta F K, ruP ru k f]) (wkP_s (by omega))) dX10_mostSaid_52 (fun H locs X => ?_)
                refine lv_iinc (v := nI (i1 + 1)) (lv' := [(2, .int (nI (i1 + 1))), (3, .int (nI (zans τ (znx (zsd yz i1)) yl yw))), (0, .ref wo), (1, .int (nI xt))]) hx hb dX10_mostSaid_53 hl (k := 3) rfl (zn_inc _) (by decide) rfl (fun ls hl => ?_)
                refine lv_goto (tgt := 22) hx hb dX10_mostSaid_56 (by decide) ?_
                refine ih_22 (i1 + 1) (by omega) (by omega) _ _ _ (by rw [show ym + i1 * τ.1 13 + τ.1 13 = ym + (i1 + 1) * τ.1 13 by rw [Nat.succ_mul]; omega] at X; first | exact wx_eq (congrArg (fun z => wcat [z, landP Z La τ, thP Z ta F K, ruP ru k f]) (wkP_cong (fun i hi => zvotes_n (by omega) i hi))) X | exact wx_eq (congrArg (fun z => wcat [z, landP Z La τ, thP Z ta F K, ruP ru k f]) (wkP_cong (fun i hi => zvotes_y i))) X) (by exact lv_sub hl [2, 3, 0] rfl)
        refine cut_22 _ 0 (Nat.zero_le _) (Nat.lt_succ_self _) _ _ _ (by exact wx_eq (by rw [show ym + 0 * τ.1 13 = ym by omega]; exact congrArg (fun z => wcat [z, landP Z La τ, thP Z ta F K, ruP ru k f]) (wkP_cong (fun i hi => zcp_in (show i < w1 by omega)))) X) (by exact lv_sub hl [1, 2, 0] rfl)
      ·
        refine lv_aload_n hx hb dX10_mostSaid_7 rfl (lv_at hl 0 rfl) ?_
        refine cg_10 G X 0 0 rfl rfl 2 (by decide) (G.2.2.2.1 _ ck_345) rfl rfl dX10_mostSaid_8 ?_
        refine lv_iload_n hx hb dX10_mostSaid_11 rfl (lv_at hl 2 rfl) ?_
        refine lv_iconst (v := nI 0) hx hb dX10_mostSaid_12 (by decide) ?_
        refine cr_iast (ps' := [wkP Z (wo, La.1, ta.1, vq) ru yw yz yp yl ym yr ya yg (fun b => if b = w1 then 0 else (zcp (fun _ => 0) v w1) b), landP Z La τ, thP Z ta F K, ruP ru k f]) G X 0 1 rfl rfl (by omega) (by decide) (congrArg (fun z => [z, landP Z La τ, thP Z ta F K, ruP ru k f]) (wkP_s (by omega))) dX10_mostSaid_13 (fun H locs X => ?_)
        refine lv_iinc (v := nI (w1 + 1)) (lv' := [(2, .int (nI (w1 + 1))), (0, .ref wo), (1, .int (nI xt))]) hx hb dX10_mostSaid_14 hl (k := 2) rfl (zn_inc _) (by decide) rfl (fun ls hl => ?_)
        refine lv_goto (tgt := 2) hx hb dX10_mostSaid_17 (by decide) ?_
        refine ih_2 (w1 + 1) (by omega) (by omega) _ _ _ (by exact wx_eq (congrArg (fun z => wcat [wkP Z (wo, La.1, ta.1, vq) ru yw yz yp yl ym yr ya yg z, landP Z La τ, thP Z ta F K, ruP ru k f]) (zcp_1 rfl)) X) (by exact lv_sub hl [1, 2, 0] rfl)
  refine cut_2 _ 0 (Nat.zero_le _) (Nat.lt_succ_self _) _ _ _ (by exact wx_eq (congrArg (fun z => wcat [z, landP Z La τ, thP Z ta F K, ruP ru k f]) (wkP_cong (v := v) (v' := zcp (fun _ => 0) v 0) (fun i _ => (zcp_out (Nat.zero_le i)).symm))) X) (by exact lv_sub hl [1, 2, 0] rfl)
set_option maxHeartbeats 4000000 in
set_option maxRecDepth 100000 in
theorem k10_believeAtStart {E : (Nat → Prop) → State → Heap → Prop} (hE : cEok E) {l : Launch} {D : va_G} {Z : Nat → ClassId} {wo vq ru k f yw yz yp yl ym yr ya yg : Nat} {La : LA} {τ : MS} {ta : Nat × Nat × Nat} {F K v : Nat → Nat} (hT : tOk τ) (hw : yw < τ.1 4) (hl8 : yl < 8) (hpo : yp = τ.1 28 ∧ yp < 4294967296) (hM : zM (τ.1 4) F) (hk6 : k < 6) (hf9 : f < 100) (hF0 : ∀ w, w < τ.1 4 → 0 < F w) : dtV E l D Z yX10_believeAtStart (Cond.code yX10_believeAtStart cX10_believeAtStart 3 none :: cW) { frames := 3, cells := 0, slots := 0, locals := 68 } [.ref wo] (wcat [wkP Z (wo, La.1, ta.1, vq) ru yw yz yp yl ym yr ya yg v, landP Z La τ, thP Z ta F K, ruP ru k f]) (S := SB) (fun u => wcat [wkP Z (wo, La.1, ta.1, vq) ru yw u.2.2.1 yp yl u.2.2.2.1 yr u.2.2.2.2.1 yg u.2.2.2.2.2, landP Z La τ, thP Z ta u.1 u.2.1, ruP ru k f]) (fun u => kbegin τ yw yl k f F yz ym ya u) := by
  refine dtV_of hE (cc := cX10_believeAtStart) (maxL := 3) (by decide +kernel) (fun w h => List.mem_cons_of_mem _ h) (Nat.le_of_ble_eq_true rfl) ?_
  intro p e s m args below meth c A Q ls hx hb hml hown hts G X hl fin
  replace hl : lv_has ls 3 [(0, .ref wo)] := hl
  obtain ⟨hok, hpl, hod, hrows, hnx, hsh6, hgl8⟩ := id hT
  obtain ⟨k0, k4, k8, kr, kw, ks, kmet, kmt, k12, k13⟩ := id hok
  have hzk : zasks k f < 100 := by unfold zasks; split; omega; split <;> omega
  have hbb := zbeb_lt (τ := τ) (z := yz) (c := yl) (w := yw) (k := k) k4 hf9
  refine lv_aload_n hx hb dX10_believeAtStart_0 rfl (lv_at hl 0 rfl) ?_
  refine cg_10 G X 0 0 rfl rfl 3 (by decide) (G.2.2.2.1 _ ck_348) rfl rfl dX10_believeAtStart_1 ?_
  refine dtI_go (w := wcat [ruP ru k f]) (wf := wcat [wkP Z (wo, La.1, ta.1, vq) ru yw yz yp yl ym yr ya yg v, landP Z La τ, thP Z ta F K]) (W1 := fun _ => wcat [wkP Z (wo, La.1, ta.1, vq) ru yw yz yp yl ym yr ya yg v, landP Z La τ, thP Z ta F K, ruP ru k f]) G X (wsel [3, 0, 1, 2] rfl rfl) (fun X => vr_10_asksAtStart hE G hml hts hl.1 hk6  (Nat.le_of_ble_eq_true rfl) dX10_believeAtStart_4 ⟨Nat.le_refl _, Nat.le_refl _⟩ ⟨Nat.le_of_ble_eq_true rfl, Nat.le_of_ble_eq_true rfl⟩ X) (fun _ => wback [3, 0, 1, 2] rfl rfl) (fun H locs _ _ X => ?_)
  refine lv_istore_n (lv' := [(1, .int (nI (zasks k f))), (0, .ref wo)]) hx hb dX10_believeAtStart_7 rfl hl (by decide) rfl (fun ls hl => ?_)
  refine lv_iload_n hx hb dX10_believeAtStart_8 rfl (lv_at hl 0 rfl) ?_
  refine gn_if_le (tgt := 20) hx hb dX10_believeAtStart_9 (by decide) (by omega) (fun c_9 => ?_) (fun c_9 => ?_)
  ·
    refine lv_aload_n hx hb dX10_believeAtStart_20 rfl (lv_at hl 1 rfl) ?_
    refine cg_10 G X 0 0 rfl rfl 3 (by decide) (G.2.2.2.1 _ ck_348) rfl rfl dX10_believeAtStart_21 ?_
    refine dtI_go (w := wcat [ruP ru k f]) (wf := wcat [wkP Z (wo, La.1, ta.1, vq) ru yw yz yp yl ym yr ya yg v, landP Z La τ, thP Z ta F K]) (W1 := fun _ => wcat [wkP Z (wo, La.1, ta.1, vq) ru yw yz yp yl ym yr ya yg v, landP Z La τ, thP Z ta F K, ruP ru k f]) G X (wsel [3, 0, 1, 2] rfl rfl) (fun X => vr_10_toldWorld hE G hml hts hl.1 hk6  (Nat.le_of_ble_eq_true rfl) dX10_believeAtStart_24 ⟨Nat.le_refl _, Nat.le_refl _⟩ ⟨Nat.le_of_ble_eq_true rfl, Nat.le_of_ble_eq_true rfl⟩ X) (fun _ => wback [3, 0, 1, 2] rfl rfl) (fun H locs _ _ X => ?_)
    refine lv_istore_n (lv' := [(2, .int (nI (ztw k f))), (1, .int (nI (zasks k f))), (0, .ref wo)]) hx hb dX10_believeAtStart_27 rfl hl (by decide) rfl (fun ls hl => ?_)
    have hbe : (ztw k f) = zbeb τ yz yl yw k f := by unfold zbeb; first | rw [if_pos c_9] | rw [if_neg (by omega)]
    have hir : zir (nI (ztw k f)) (τ.1 4) ↔ (ztw k f) < τ.1 4 := by rw [hbe]; rcases hbb with h9 | h9; exact zir_n (by omega); rw [h9]; exact ⟨fun h => absurd h zir_m1, fun h => by omega⟩
    refine lv_aload_n hx hb dX10_believeAtStart_28 rfl (lv_at hl 2 rfl) ?_
    refine cg_10 G X 0 0 rfl rfl 0 (by decide) (G.2.2.2.1 _ ck_341) rfl rfl dX10_believeAtStart_29 ?_
    refine lv_iload_n hx hb dX10_believeAtStart_32 rfl (lv_at hl 0 rfl) ?_
    refine dtI_go (w := wcat [landP Z La τ]) (wf := wcat [wkP Z (wo, La.1, ta.1, vq) ru yw yz yp yl ym yr ya yg v, thP Z ta F K, ruP ru k f]) (W1 := fun _ => wcat [wkP Z (wo, La.1, ta.1, vq) ru yw yz yp yl ym yr ya yg v, landP Z La τ, thP Z ta F K, ruP ru k f]) G X (wsel [1, 0, 2, 3] rfl rfl) (run_V (As := [.int (nI (ztw k f))]) (rest := []) (n := 1) G hml hts hl.1 (p_recv G X 1 0 rfl rfl rfl) (k2_hasWorld hE (nI (ztw k f)) hok _) (cwV 1 hts (cg_V ck_72 ck_384 ck_297 ck_298 ck_79) rfl rfl rfl (by decide +kernel) ⟨Nat.le_of_ble_eq_true rfl, Nat.le_of_ble_eq_true rfl⟩) rfl (Nat.le_of_ble_eq_true rfl) dX10_believeAtStart_33 ⟨Nat.le_refl _, Nat.le_refl _⟩) (fun _ => wback [1, 0, 2, 3] rfl rfl) (fun H locs _ _ X => ?_)
    refine gb_if_eq (tgt := 55) hx hb dX10_believeAtStart_36 (by decide) (fun c_36 => ?_) (fun c_36 => ?_)
    ·
      rw [hir] at c_36
      exact cfin_V ((F, K, yz, ym, ya, v)) (by first | exact kbegin_y k4 hw hk6 hM hF0 hbe c_36 (by first | rfl | (rw [show zasks k f = 0 by omega]; rfl)) (by first | rfl | (rw [show zasks k f = 0 by omega]; omega)) (by first | rfl | omega) | exact kbegin_n k4 hw hk6 hM (by rw [← hbe]; exact c_36) (by first | rfl | (rw [show zasks k f = 0 by omega]; rfl)) (by first | rfl | (rw [show zasks k f = 0 by omega]; omega)) (by first | rfl | omega)) (rfl) X dX10_believeAtStart_55 fin
    ·
      rw [hir] at c_36
      refine lv_aload_n hx hb dX10_believeAtStart_39 rfl (lv_at hl 2 rfl) ?_
      refine cg_10 G X 0 0 rfl rfl 1 (by decide) (G.2.2.2.1 _ ck_344) rfl rfl dX10_believeAtStart_40 ?_
      refine lv_iload_n hx hb dX10_believeAtStart_43 rfl (lv_at hl 0 rfl) ?_
      refine dtV_go (w := wcat [thP Z ta F K]) (wf := wcat [wkP Z (wo, La.1, ta.1, vq) ru yw yz yp yl ym yr ya yg v, landP Z La τ, ruP ru k f]) (W1 := fun _ => wcat [wkP Z (wo, La.1, ta.1, vq) ru yw yz yp yl ym yr ya yg v, landP Z La τ, thP Z ta F (zbelM F (ztw k f)), ruP ru k f]) G X (wsel [2, 0, 1, 3] rfl rfl) (run_V (As := [.int (nI (ztw k f))]) (rest := []) (n := 1) G hml hts hl.1 (p_recv G X 2 0 rfl rfl rfl) (k8_believe hE (ztw k f) (by omega) _) (cwV 1 hts (cg_V ck_313 ck_416 ck_417 ck_418 ck_35) rfl rfl rfl (by decide +kernel) ⟨Nat.le_of_ble_eq_true rfl, Nat.le_of_ble_eq_true rfl⟩) rfl (Nat.le_of_ble_eq_true rfl) dX10_believeAtStart_44 ⟨Nat.le_refl _, Nat.le_refl _⟩) (fun _ => wback [2, 0, 1, 3] rfl rfl) (fun H locs _ _ X => ?_)
      refine lv_aload_n hx hb dX10_believeAtStart_47 rfl (lv_at hl 2 rfl) ?_
      refine cg_10 G X 0 0 rfl rfl 1 (by decide) (G.2.2.2.1 _ ck_344) rfl rfl dX10_believeAtStart_48 ?_
      refine dtI_go (w := wcat [thP Z ta F (zbelM F (ztw k f))]) (wf := wcat [wkP Z (wo, La.1, ta.1, vq) ru yw yz yp yl ym yr ya yg v, landP Z La τ, ruP ru k f]) (W1 := fun _ => wcat [wkP Z (wo, La.1, ta.1, vq) ru yw yz yp yl ym yr ya yg v, landP Z La τ, thP Z ta (if zgall (zbelM F (ztw k f)) 5 = 0 then F else zset 5 (zbelM F (ztw k f))) (zbelM F (ztw k f)), ruP ru k f]) G X (wsel [2, 0, 1, 3] rfl rfl) (run_V (As := []) (rest := []) (n := 0) G hml hts hl.1 (p_recv G X 2 0 rfl rfl rfl) (k8_settles hE (fun w9 hw9 => by have q1 := hM.1 w9 hw9; show (if _ then _ else _) < _; split <;> omega) _) (cwV 0 hts (cg_V ck_317 ck_419 ck_420 ck_421 ck_35) rfl rfl rfl (by decide +kernel) ⟨Nat.le_of_ble_eq_true rfl, Nat.le_of_ble_eq_true rfl⟩) rfl (Nat.le_of_ble_eq_true rfl) dX10_believeAtStart_51 ⟨Nat.le_refl _, Nat.le_refl _⟩) (fun _ => wback [2, 0, 1, 3] rfl rfl) (fun H locs _ _ X => ?_)
      refine lv_pop hx hb dX10_believeAtStart_54 rfl ?_
      exact cfin_V ((if zgall (zbelM F (ztw k f)) 5 = 0 then F else zset 5 (zbelM F (ztw k f)), zbelM F (ztw k f), yz, ym, ya, v)) (by first | exact kbegin_y k4 hw hk6 hM hF0 hbe c_36 (by first | rfl | (rw [show zasks k f = 0 by omega]; rfl)) (by first | rfl | (rw [show zasks k f = 0 by omega]; omega)) (by first | rfl | omega) | exact kbegin_n k4 hw hk6 hM (by rw [← hbe]; exact c_36) (by first | rfl | (rw [show zasks k f = 0 by omega]; rfl)) (by first | rfl | (rw [show zasks k f = 0 by omega]; omega)) (by first | rfl | omega)) (rfl) X dX10_believeAtStart_55 fin
  ·
    refine lv_aload_n hx hb dX10_believeAtStart_12 rfl (lv_at hl 1 rfl) ?_
    refine lv_iload_n hx hb dX10_believeAtStart_13 rfl (lv_at hl 0 rfl) ?_
    refine dtI_go (w := wcat [wkP Z (wo, La.1, ta.1, vq) ru yw yz yp yl ym yr ya yg v, landP Z La τ, thP Z ta F K, ruP ru k f]) (wf := wcat []) (W1 := fun _ => wcat [wkP Z (wo, La.1, ta.1, vq) ru yw (zsd yz (zasks k f)) yp yl (ym + (zasks k f) * (τ.1 13)) yr (ya + (zasks k f)) yg (zvotes τ yz yl yw (zasks k f)), landP Z La τ, thP Z ta F K, ruP ru k f]) G X (wsel [0, 1, 2, 3] rfl rfl) (run_V (As := [.int (nI (zasks k f))]) (rest := []) (n := 1) G hml hts hl.1 (p_recv G X 0 0 rfl rfl rfl) (k10_mostSaid hE (zasks k f) hT (by omega) (by omega) hpo hzk _) (cwV 1 hts (cg_V ck_385 ck_400 ck_401 ck_402 ck_365) rfl rfl rfl (by decide +kernel) ⟨Nat.le_of_ble_eq_true rfl, Nat.le_of_ble_eq_true rfl⟩) rfl (Nat.le_of_ble_eq_true rfl) dX10_believeAtStart_14 ⟨Nat.le_refl _, Nat.le_refl _⟩) (fun _ => wback [0, 1, 2, 3] rfl rfl) (fun H locs _ _ X => ?_)
    refine lv_goto (tgt := 27) hx hb dX10_believeAtStart_17 (by decide) ?_
    refine lv_istore_n (lv' := [(2, .int (nI (zmost (zvotes τ yz yl yw (zasks k f)) ((τ.1 4))))), (1, .int (nI (zasks k f))), (0, .ref wo)]) hx hb dX10_believeAtStart_27 rfl hl (by decide) rfl (fun ls hl => ?_)
    have hbe : (zmost (zvotes τ yz yl yw (zasks k f)) ((τ.1 4))) = zbeb τ yz yl yw k f := by unfold zbeb; first | rw [if_pos c_9] | rw [if_neg (by omega)]
    have hir : zir (nI (zmost (zvotes τ yz yl yw (zasks k f)) ((τ.1 4)))) (τ.1 4) ↔ (zmost (zvotes τ yz yl yw (zasks k f)) ((τ.1 4))) < τ.1 4 := by rw [hbe]; rcases hbb with h9 | h9; exact zir_n (by omega); rw [h9]; exact ⟨fun h => absurd h zir_m1, fun h => by omega⟩
    refine lv_aload_n hx hb dX10_believeAtStart_28 rfl (lv_at hl 2 rfl) ?_
    refine cg_10 G X 0 0 rfl rfl 0 (by decide) (G.2.2.2.1 _ ck_341) rfl rfl dX10_believeAtStart_29 ?_
    refine lv_iload_n hx hb dX10_believeAtStart_32 rfl (lv_at hl 0 rfl) ?_
    refine dtI_go (w := wcat [landP Z La τ]) (wf := wcat [wkP Z (wo, La.1, ta.1, vq) ru yw (zsd yz (zasks k f)) yp yl (ym + (zasks k f) * (τ.1 13)) yr (ya + (zasks k f)) yg (zvotes τ yz yl yw (zasks k f)), thP Z ta F K, ruP ru k f]) (W1 := fun _ => wcat [wkP Z (wo, La.1, ta.1, vq) ru yw (zsd yz (zasks k f)) yp yl (ym + (zasks k f) * (τ.1 13)) yr (ya + (zasks k f)) yg (zvotes τ yz yl yw (zasks k f)), landP Z La τ, thP Z ta F K, ruP ru k f]) G X (wsel [1, 0, 2, 3] rfl rfl) (run_V (As := [.int (nI (zmost (zvotes τ yz yl yw (zasks k f)) ((τ.1 4))))]) (rest := []) (n := 1) G hml hts hl.1 (p_recv G X 1 0 rfl rfl rfl) (k2_hasWorld hE (nI (zmost (zvotes τ yz yl yw (zasks k f)) ((τ.1 4)))) hok _) (cwV 1 hts (cg_V ck_72 ck_384 ck_297 ck_298 ck_79) rfl rfl rfl (by decide +kernel) ⟨Nat.le_of_ble_eq_true rfl, Nat.le_of_ble_eq_true rfl⟩) rfl (Nat.le_of_ble_eq_true rfl) dX10_believeAtStart_33 ⟨Nat.le_refl _, Nat.le_refl _⟩) (fun _ => wback [1, 0, 2, 3] rfl rfl) (fun H locs _ _ X => ?_)
    refine gb_if_eq (tgt := 55) hx hb dX10_believeAtStart_36 (by decide) (fun c_36 => ?_) (fun c_36 => ?_)
    ·
      rw [hir] at c_36
      exact cfin_V ((F, K, zsd yz (zasks k f), ym + (zasks k f) * (τ.1 13), ya + (zasks k f), zvotes τ yz yl yw (zasks k f))) (by first | exact kbegin_y k4 hw hk6 hM hF0 hbe c_36 (by first | rfl | (rw [show zasks k f = 0 by omega]; rfl)) (by first | rfl | (rw [show zasks k f = 0 by omega]; omega)) (by first | rfl | omega) | exact kbegin_n k4 hw hk6 hM (by rw [← hbe]; exact c_36) (by first | rfl | (rw [show zasks k f = 0 by omega]; rfl)) (by first | rfl | (rw [show zasks k f = 0 by omega]; omega)) (by first | rfl | omega)) (rfl) X dX10_believeAtStart_55 fin
    ·
      rw [hir] at c_36
      refine lv_aload_n hx hb dX10_believeAtStart_39 rfl (lv_at hl 2 rfl) ?_
      refine cg_10 G X 0 0 rfl rfl 1 (by decide) (G.2.2.2.1 _ ck_344) rfl rfl dX10_believeAtStart_40 ?_
      refine lv_iload_n hx hb dX10_believeAtStart_43 rfl (lv_at hl 0 rfl) ?_
      refine dtV_go (w := wcat [thP Z ta F K]) (wf := wcat [wkP Z (wo, La.1, ta.1, vq) ru yw (zsd yz (zasks k f)) yp yl (ym + (zasks k f) * (τ.1 13)) yr (ya + (zasks k f)) yg (zvotes τ yz yl yw (zasks k f)), landP Z La τ, ruP ru k f]) (W1 := fun _ => wcat [wkP Z (wo, La.1, ta.1, vq) ru yw (zsd yz (zasks k f)) yp yl (ym + (zasks k f) * (τ.1 13)) yr (ya + (zasks k f)) yg (zvotes τ yz yl yw (zasks k f)), landP Z La τ, thP Z ta F (zbelM F (zmost (zvotes τ yz yl yw (zasks k f)) ((τ.1 4)))), ruP ru k f]) G X (wsel [2, 0, 1, 3] rfl rfl) (run_V (As := [.int (nI (zmost (zvotes τ yz yl yw (zasks k f)) ((τ.1 4))))]) (rest := []) (n := 1) G hml hts hl.1 (p_recv G X 2 0 rfl rfl rfl) (k8_believe hE (zmost (zvotes τ yz yl yw (zasks k f)) ((τ.1 4))) (by omega) _) (cwV 1 hts (cg_V ck_313 ck_416 ck_417 ck_418 ck_35) rfl rfl rfl (by decide +kernel) ⟨Nat.le_of_ble_eq_true rfl, Nat.le_of_ble_eq_true rfl⟩) rfl (Nat.le_of_ble_eq_true rfl) dX10_believeAtStart_44 ⟨Nat.le_refl _, Nat.le_refl _⟩) (fun _ => wback [2, 0, 1, 3] rfl rfl) (fun H locs _ _ X => ?_)
      refine lv_aload_n hx hb dX10_believeAtStart_47 rfl (lv_at hl 2 rfl) ?_
      refine cg_10 G X 0 0 rfl rfl 1 (by decide) (G.2.2.2.1 _ ck_344) rfl rfl dX10_believeAtStart_48 ?_
      refine dtI_go (w := wcat [thP Z ta F (zbelM F (zmost (zvotes τ yz yl yw (zasks k f)) ((τ.1 4))))]) (wf := wcat [wkP Z (wo, La.1, ta.1, vq) ru yw (zsd yz (zasks k f)) yp yl (ym + (zasks k f) * (τ.1 13)) yr (ya + (zasks k f)) yg (zvotes τ yz yl yw (zasks k f)), landP Z La τ, ruP ru k f]) (W1 := fun _ => wcat [wkP Z (wo, La.1, ta.1, vq) ru yw (zsd yz (zasks k f)) yp yl (ym + (zasks k f) * (τ.1 13)) yr (ya + (zasks k f)) yg (zvotes τ yz yl yw (zasks k f)), landP Z La τ, thP Z ta (if zgall (zbelM F (zmost (zvotes τ yz yl yw (zasks k f)) ((τ.1 4)))) 5 = 0 then F else zset 5 (zbelM F (zmost (zvotes τ yz yl yw (zasks k f)) ((τ.1 4))))) (zbelM F (zmost (zvotes τ yz yl yw (zasks k f)) ((τ.1 4)))), ruP ru k f]) G X (wsel [2, 0, 1, 3] rfl rfl) (run_V (As := []) (rest := []) (n := 0) G hml hts hl.1 (p_recv G X 2 0 rfl rfl rfl) (k8_settles hE (fun w9 hw9 => by have q1 := hM.1 w9 hw9; show (if _ then _ else _) < _; split <;> omega) _) (cwV 0 hts (cg_V ck_317 ck_419 ck_420 ck_421 ck_35) rfl rfl rfl (by decide +kernel) ⟨Nat.le_of_ble_eq_true rfl, Nat.le_of_ble_eq_true rfl⟩) rfl (Nat.le_of_ble_eq_true rfl) dX10_believeAtStart_51 ⟨Nat.le_refl _, Nat.le_refl _⟩) (fun _ => wback [2, 0, 1, 3] rfl rfl) (fun H locs _ _ X => ?_)
      refine lv_pop hx hb dX10_believeAtStart_54 rfl ?_
      exact cfin_V ((if zgall (zbelM F (zmost (zvotes τ yz yl yw (zasks k f)) ((τ.1 4)))) 5 = 0 then F else zset 5 (zbelM F (zmost (zvotes τ yz yl yw (zasks k f)) ((τ.1 4)))), zbelM F (zmost (zvotes τ yz yl yw (zasks k f)) ((τ.1 4))), zsd yz (zasks k f), ym + (zasks k f) * (τ.1 13), ya + (zasks k f), zvotes τ yz yl yw (zasks k f))) (by first | exact kbegin_y k4 hw hk6 hM hF0 hbe c_36 (by first | rfl | (rw [show zasks k f = 0 by omega]; rfl)) (by first | rfl | (rw [show zasks k f = 0 by omega]; omega)) (by first | rfl | omega) | exact kbegin_n k4 hw hk6 hM (by rw [← hbe]; exact c_36) (by first | rfl | (rw [show zasks k f = 0 by omega]; rfl)) (by first | rfl | (rw [show zasks k f = 0 by omega]; omega)) (by first | rfl | omega)) (rfl) X dX10_believeAtStart_55 fin
set_option maxHeartbeats 4000000 in
set_option maxRecDepth 100000 in
theorem k10_setOutByMind {E : (Nat → Prop) → State → Heap → Prop} (hE : cEok E) {l : Launch} {D : va_G} {Z : Nat → ClassId} {wo vq ru k f yw yz yp yl ym yr ya yg : Nat} {La : LA} {τ : MS} {ta : Nat × Nat × Nat} {F K v : Nat → Nat} {ru2 : Nat} {tb : Nat × Nat × Nat} {F2 K2 : Nat → Nat} (xw : Nat) (xl : Nat)  : dtV E l D Z yX10_setOutByMind (Cond.code yX10_setOutByMind cX10_setOutByMind 5 none :: cW) { frames := 2, cells := 0, slots := 0, locals := 61 } [.ref wo, .ref ru, .ref tb.1, .int (nI xw), .int (nI xl)] (wcat [wkP Z (wo, La.1, ta.1, vq) ru2 yw yz yp yl ym yr ya yg v, landP Z La τ, thP Z ta F K, ruP ru k f, thP Z tb F2 K2]) (S := Unit) (fun _ => wcat [wkP Z (wo, La.1, ta.1, vq) ru xw yz 4294967295 xl 0 0 0 0 v, landP Z La τ, thP Z ta F2 K, ruP ru k f, thP Z tb F2 K2]) (fun _ => True) := by
  refine dtV_of hE (cc := cX10_setOutByMind) (maxL := 5) (by decide +kernel) (fun w h => List.mem_cons_of_mem _ h) (Nat.le_of_ble_eq_true rfl) ?_
  intro p e s m args below meth c A Q ls hx hb hml hown hts G X hl fin
  replace hl : lv_has ls 5 [(0, .ref wo), (1, .ref ru), (2, .ref tb.1), (3, .int (nI xw)), (4, .int (nI xl))] := hl
  refine lv_aload_n hx hb dX10_setOutByMind_0 rfl (lv_at hl 0 rfl) ?_
  refine lv_aload_n hx hb dX10_setOutByMind_1 rfl (lv_at hl 1 rfl) ?_
  refine lv_iload_n hx hb dX10_setOutByMind_2 rfl (lv_at hl 3 rfl) ?_
  refine lv_iload hx hb dX10_setOutByMind_3 (lv_at hl 4 rfl) ?_
  refine lv_iconst (v := nI 4294967295) hx hb dX10_setOutByMind_5 (by decide) ?_
  refine dtV_go (w := wcat [wkP Z (wo, La.1, ta.1, vq) ru2 yw yz yp yl ym yr ya yg v, ruP ru k f]) (wf := wcat [landP Z La τ, thP Z ta F K, thP Z tb F2 K2]) (W1 := fun _ => wcat [wkP Z (wo, La.1, ta.1, vq) ru xw yz 4294967295 xl 0 0 0 0 v, landP Z La τ, thP Z ta F K, ruP ru k f, thP Z tb F2 K2]) G X (wsel [0, 3, 1, 2, 4] rfl rfl) (run_V (As := [.ref ru, .int (nI xw), .int (nI xl), .int (nI 4294967295)]) (rest := []) (n := 4) G hml hts hl.1 (p_recv G X 0 0 rfl rfl rfl) (k10_setOut hE xw xl 4294967295 _) (cwV 4 hts (cg_V ck_354 ck_362 ck_363 ck_364 ck_365) rfl rfl rfl (by decide +kernel) ⟨Nat.le_of_ble_eq_true rfl, Nat.le_of_ble_eq_true rfl⟩) rfl (Nat.le_of_ble_eq_true rfl) dX10_setOutByMind_6 ⟨Nat.le_refl _, Nat.le_refl _⟩) (fun _ => wback [0, 3, 1, 2, 4] rfl rfl) (fun H locs _ _ X => ?_)
  refine lv_aload_n hx hb dX10_setOutByMind_9 rfl (lv_at hl 0 rfl) ?_
  refine cg_10 G X 0 0 rfl rfl 1 (by decide) (G.2.2.2.1 _ ck_344) rfl rfl dX10_setOutByMind_10 ?_
  refine lv_aload_n hx hb dX10_setOutByMind_13 rfl (lv_at hl 2 rfl) ?_
  refine dtV_go (w := wcat [thP Z ta F K, thP Z tb F2 K2]) (wf := wcat [wkP Z (wo, La.1, ta.1, vq) ru xw yz 4294967295 xl 0 0 0 0 v, landP Z La τ, ruP ru k f]) (W1 := fun _ => wcat [wkP Z (wo, La.1, ta.1, vq) ru xw yz 4294967295 xl 0 0 0 0 v, landP Z La τ, thP Z ta F2 K, ruP ru k f, thP Z tb F2 K2]) G X (wsel [2, 4, 0, 1, 3] rfl rfl) (run_V (As := [.ref tb.1]) (rest := []) (n := 1) G hml hts hl.1 (p_recv G X 2 0 rfl rfl rfl) (k8_becomeLike hE  _) (cwV 1 hts (cg_V ck_299 ck_366 ck_367 ck_368 ck_35) rfl rfl rfl (by decide +kernel) ⟨Nat.le_of_ble_eq_true rfl, Nat.le_of_ble_eq_true rfl⟩) rfl (Nat.le_of_ble_eq_true rfl) dX10_setOutByMind_14 ⟨Nat.le_refl _, Nat.le_refl _⟩) (fun _ => wback [2, 4, 0, 1, 3] rfl rfl) (fun H locs _ _ X => ?_)
  exact cfin_V (()) (trivial) (rfl) X dX10_setOutByMind_17 fin
set_option maxHeartbeats 4000000 in
set_option maxRecDepth 100000 in
theorem k10_setOutByRule {E : (Nat → Prop) → State → Heap → Prop} (hE : cEok E) {l : Launch} {D : va_G} {Z : Nat → ClassId} {wo vq ru k f yw yz yp yl ym yr ya yg : Nat} {La : LA} {τ : MS} {ta : Nat × Nat × Nat} {F K v : Nat → Nat} {ru2 : Nat} (xw : Nat) (xz : Nat) (xp : Nat) (hT : tOk τ) (hw : xw < τ.1 4) (hpo : xp = τ.1 28 ∧ xp < 4294967296) (hk6 : k < 6) (hf9 : f < 100) : dtV E l D Z yX10_setOutByRule (Cond.code yX10_setOutByRule cX10_setOutByRule 5 none :: cW) { frames := 4, cells := 0, slots := 0, locals := 90 } [.ref wo, .ref ru, .int (nI xw), .int (nI xz), .int (nI xp)] (wcat [wkP Z (wo, La.1, ta.1, vq) ru2 yw yz yp yl ym yr ya yg v, landP Z La τ, thP Z ta F K, ruP ru k f]) (S := SB) (fun u => wcat [wkP Z (wo, La.1, ta.1, vq) ru xw u.2.2.1 xp (τ.1 12) u.2.2.2.1 0 u.2.2.2.2.1 0 u.2.2.2.2.2, landP Z La τ, thP Z ta u.1 u.2.1, ruP ru k f]) (fun u => kout τ xw k f xz u) := by
  refine dtV_of hE (cc := cX10_setOutByRule) (maxL := 5) (by decide +kernel) (fun w h => List.mem_cons_of_mem _ h) (Nat.le_of_ble_eq_true rfl) ?_
  intro p e s m args below meth c A Q ls hx hb hml hown hts G X hl fin
  replace hl : lv_has ls 5 [(0, .ref wo), (1, .ref ru), (2, .int (nI xw)), (3, .int (nI xz)), (4, .int (nI xp))] := hl
  obtain ⟨hok, hpl, hod, hrows, hnx, hsh6, hgl8⟩ := id hT
  obtain ⟨k0, k4, k8, kr, kw, ks, kmet, kmt, k12, k13⟩ := id hok
  refine lv_aload_n hx hb dX10_setOutByRule_0 rfl (lv_at hl 0 rfl) ?_
  refine lv_aload_n hx hb dX10_setOutByRule_1 rfl (lv_at hl 1 rfl) ?_
  refine lv_iload_n hx hb dX10_setOutByRule_2 rfl (lv_at hl 2 rfl) ?_
  refine lv_aload_n hx hb dX10_setOutByRule_3 rfl (lv_at hl 0 rfl) ?_
  refine cg_10 G X 0 0 rfl rfl 0 (by decide) (G.2.2.2.1 _ ck_341) rfl rfl dX10_setOutByRule_4 ?_
  refine cg_2 G X 1 0 rfl rfl 12 (by decide) (G.2.2.2.1 _ ck_423) rfl rfl dX10_setOutByRule_7 ?_
  refine lv_iload hx hb dX10_setOutByRule_10 (lv_at hl 4 rfl) ?_
  refine dtV_go (w := wcat [wkP Z (wo, La.1, ta.1, vq) ru2 yw yz yp yl ym yr ya yg v, ruP ru k f]) (wf := wcat [landP Z La τ, thP Z ta F K]) (W1 := fun _ => wcat [wkP Z (wo, La.1, ta.1, vq) ru xw yz xp (τ.1 12) 0 0 0 0 v, landP Z La τ, thP Z ta F K, ruP ru k f]) G X (wsel [0, 3, 1, 2] rfl rfl) (run_V (As := [.ref ru, .int (nI xw), .int (nI (τ.1 12)), .int (nI xp)]) (rest := []) (n := 4) G hml hts hl.1 (p_recv G X 0 0 rfl rfl rfl) (k10_setOut hE xw (τ.1 12) xp _) (cwV 4 hts (cg_V ck_354 ck_362 ck_363 ck_364 ck_365) rfl rfl rfl (by decide +kernel) ⟨Nat.le_of_ble_eq_true rfl, Nat.le_of_ble_eq_true rfl⟩) rfl (Nat.le_of_ble_eq_true rfl) dX10_setOutByRule_12 ⟨Nat.le_refl _, Nat.le_refl _⟩) (fun _ => wback [0, 3, 1, 2] rfl rfl) (fun H locs _ _ X => ?_)
  refine lv_aload_n hx hb dX10_setOutByRule_15 rfl (lv_at hl 0 rfl) ?_
  refine lv_iload_n hx hb dX10_setOutByRule_16 rfl (lv_at hl 3 rfl) ?_
  refine cp_10 (ps' := [wkP Z (wo, La.1, ta.1, vq) ru xw xz xp (τ.1 12) 0 0 0 0 v, landP Z La τ, thP Z ta F K, ruP ru k f]) G X 0 0 rfl rfl 5 (by decide) (G.2.2.2.1 _ ck_372) rfl rfl (ty := .int) (by decide +kernel) rfl rfl (Nat.le_of_ble_eq_true rfl) rfl dX10_setOutByRule_17 (fun H locs X => ?_)
  refine lv_aload_n hx hb dX10_setOutByRule_20 rfl (lv_at hl 0 rfl) ?_
  refine cg_10 G X 0 0 rfl rfl 1 (by decide) (G.2.2.2.1 _ ck_344) rfl rfl dX10_setOutByRule_21 ?_
  refine lv_aload_n hx hb dX10_setOutByRule_24 rfl (lv_at hl 0 rfl) ?_
  refine cg_10 G X 0 0 rfl rfl 0 (by decide) (G.2.2.2.1 _ ck_341) rfl rfl dX10_setOutByRule_25 ?_
  refine dtV_go (w := wcat [thP Z ta F K, landP Z La τ]) (wf := wcat [wkP Z (wo, La.1, ta.1, vq) ru xw xz xp (τ.1 12) 0 0 0 0 v, ruP ru k f]) (W1 := fun _ => wcat [wkP Z (wo, La.1, ta.1, vq) ru xw xz xp (τ.1 12) 0 0 0 0 v, landP Z La τ, thP Z ta (zch5 τ) K, ruP ru k f]) G X (wsel [2, 1, 0, 3] rfl rfl) (run_V (As := [.ref La.1]) (rest := []) (n := 1) G hml hts hl.1 (p_recv G X 2 0 rfl rfl rfl) (k8_becomeChances hE hok _) (cwV 1 hts (cg_V ck_294 ck_424 ck_425 ck_426 ck_35) rfl rfl rfl (by decide +kernel) ⟨Nat.le_of_ble_eq_true rfl, Nat.le_of_ble_eq_true rfl⟩) rfl (Nat.le_of_ble_eq_true rfl) dX10_setOutByRule_28 ⟨Nat.le_refl _, Nat.le_refl _⟩) (fun _ => wback [2, 1, 0, 3] rfl rfl) (fun H locs _ _ X => ?_)
  refine lv_aload_n hx hb dX10_setOutByRule_31 rfl (lv_at hl 0 rfl) ?_
  refine dtI_go (w := wcat [wkP Z (wo, La.1, ta.1, vq) ru xw xz xp (τ.1 12) 0 0 0 0 v, landP Z La τ, thP Z ta (zch5 τ) K, ruP ru k f]) (wf := wcat []) (W1 := fun _ => wcat [wkP Z (wo, La.1, ta.1, vq) ru xw xz xp (τ.1 12) 0 0 0 0 v, landP Z La τ, thP Z ta (zch5 τ) K, ruP ru k f]) G X (wsel [0, 1, 2, 3] rfl rfl) (run_V (As := []) (rest := []) (n := 0) G hml hts hl.1 (p_recv G X 0 0 rfl rfl rfl) (k10_isThere hE hT hw k12 _) (cwV 0 hts (cg_V ck_369 ck_427 ck_428 ck_429 ck_365) rfl rfl rfl (by decide +kernel) ⟨Nat.le_of_ble_eq_true rfl, Nat.le_of_ble_eq_true rfl⟩) rfl (Nat.le_of_ble_eq_true rfl) dX10_setOutByRule_32 ⟨Nat.le_refl _, Nat.le_refl _⟩) (fun _ => wback [0, 1, 2, 3] rfl rfl) (fun H locs _ _ X => ?_)
  refine gb_if_ne (tgt := 42) hx hb dX10_setOutByRule_35 (by decide) (fun c_35 => ?_) (fun c_35 => ?_)
  ·
    exact cfin_V ((zch5 τ, K, xz, 0, 0, v)) (kout_t (zM_ch hok) c_35) (rfl) X dX10_setOutByRule_42 fin
  ·
    refine lv_aload_n hx hb dX10_setOutByRule_38 rfl (lv_at hl 0 rfl) ?_
    refine dtV_go (w := wcat [wkP Z (wo, La.1, ta.1, vq) ru xw xz xp (τ.1 12) 0 0 0 0 v, landP Z La τ, thP Z ta (zch5 τ) K, ruP ru k f]) (wf := wcat []) (W1 := fun u_39 => wcat [wkP Z (wo, La.1, ta.1, vq) ru xw u_39.2.2.1 xp (τ.1 12) u_39.2.2.2.1 0 u_39.2.2.2.2.1 0 u_39.2.2.2.2.2, landP Z La τ, thP Z ta u_39.1 u_39.2.1, ruP ru k f]) G X (wsel [0, 1, 2, 3] rfl rfl) (run_V (As := []) (rest := []) (n := 0) G hml hts hl.1 (p_recv G X 0 0 rfl rfl rfl) (k10_believeAtStart hE hT hw k12 hpo (zM_ch hok) hk6 hf9 (fun w9 hw9 => by show 0 < (if w9 < τ.1 4 then τ.2 5 w9 else 0); rw [if_pos hw9]; have := (kw w9 hw9).1; omega) _) (cwV 0 hts (cg_V ck_422 ck_430 ck_431 ck_432 ck_365) rfl rfl rfl (by decide +kernel) ⟨Nat.le_of_ble_eq_true rfl, Nat.le_of_ble_eq_true rfl⟩) rfl (Nat.le_of_ble_eq_true rfl) dX10_setOutByRule_39 ⟨Nat.le_refl _, Nat.le_refl _⟩) (fun u_39 => wback [0, 1, 2, 3] rfl rfl) (fun H locs u_39 hu_39 X => ?_)
    exact cfin_V (u_39) (kout_w (by omega) c_35 hu_39) (rfl) X dX10_setOutByRule_42 fin
set_option maxHeartbeats 4000000 in
set_option maxRecDepth 100000 in
theorem k10_minutesThere {E : (Nat → Prop) → State → Heap → Prop} (hE : cEok E) {l : Launch} {D : va_G} {Z : Nat → ClassId} {wo vq ru k f yw yz yp yl ym yr ya yg : Nat} {La : LA} {τ : MS} {ta : Nat × Nat × Nat} {F K v : Nat → Nat} (hT : tOk τ) (hw : yw < τ.1 4) (hl8 : yl < 8) (hpo : yp = τ.1 28 ∧ yp < 4294967296) (hM : zM (τ.1 4) F) (hk6 : k < 6) (hf9 : f < 100) : dtI E l D Z yX10_minutesThere (Cond.code yX10_minutesThere cX10_minutesThere 3 (some .int) :: cW) { frames := 3, cells := 0, slots := 0, locals := 86 } [.ref wo] (wcat [wkP Z (wo, La.1, ta.1, vq) ru yw yz yp yl ym 0 ya 0 v, landP Z La τ, thP Z ta F K, ruP ru k f]) (S := (Nat → Nat) × (Nat → Nat) × Nat × Nat × Nat × Nat × Nat × Nat) (fun u => wcat [wkP Z (wo, La.1, ta.1, vq) ru yw u.2.2.1 yp u.2.2.2.1 u.2.2.2.2.1 u.2.2.2.2.2.1 u.2.2.2.2.2.2.1 u.2.2.2.2.2.2.2 v, landP Z La τ, thP Z ta u.1 u.2.1, ruP ru k f]) (fun u => nI (zmnN (zloop τ yw k f 200 F ym ya 0 yz yl (zanew k 0) 1))) (fun u => u.2.2.2.2.2.2.1 = (zloop τ yw k f 200 F ym ya 0 yz yl (zanew k 0) 1).2.2.1 ∧ u.2.2.2.2.2.2.2 = (zloop τ yw k f 200 F ym ya 0 yz yl (zanew k 0) 1).2.2.2) := by
  refine dtI_of hE (cc := cX10_minutesThere) (maxL := 3) (by decide +kernel) (fun w h => List.mem_cons_of_mem _ h) (Nat.le_of_ble_eq_true rfl) ?_
  intro p e s m args below meth c A Q ls hx hb hml hown hts G X hl fin
  replace hl : lv_has ls 3 [(0, .ref wo)] := hl
  obtain ⟨hok, hpl, hod, hrows, hnx, hsh6, hgl8⟩ := id hT
  obtain ⟨k0, k4, k8, kr, kw, ks, kmet, kmt, k12, k13⟩ := id hok
  generalize hRR : zloop τ yw k f 200 F ym ya 0 yz yl (zanew k 0) 1 = RR at fin ⊢
  refine lv_aload_n hx hb dX10_minutesThere_0 rfl (lv_at hl 0 rfl) ?_
  refine dtV_go (w := wcat [wkP Z (wo, La.1, ta.1, vq) ru yw yz yp yl ym 0 ya 0 v, landP Z La τ, thP Z ta F K, ruP ru k f]) (wf := wcat []) (W1 := fun u_1 => wcat [wkP Z (wo, La.1, ta.1, vq) ru yw u_1.2.2.1 yp yl u_1.2.2.2.1 0 u_1.2.2.2.2 0 v, landP Z La τ, thP Z ta u_1.1 u_1.2.1, ruP ru k f]) G X (wsel [0, 1, 2, 3] rfl rfl) (run_V (As := []) (rest := []) (n := 0) G hml hts hl.1 (p_recv G X 0 0 rfl rfl rfl) (k10_comeHere hE hT (by omega) (by omega) hpo hM hk6 hf9 _) (cwV 0 hts (cg_V ck_451 ck_485 ck_486 ck_487 ck_365) rfl rfl rfl (by decide +kernel) ⟨Nat.le_of_ble_eq_true rfl, Nat.le_of_ble_eq_true rfl⟩) rfl (Nat.le_of_ble_eq_true rfl) dX10_minutesThere_1 ⟨Nat.le_refl _, Nat.le_refl _⟩) (fun u_1 => wback [0, 1, 2, 3] rfl rfl) (fun H locs u_1 hu_1 X => ?_)
  refine lv_iconst (v := nI 0) hx hb dX10_minutesThere_4 (by decide) ?_
  refine lv_istore_n (lv' := [(1, .int (nI 0)), (0, .ref wo)]) hx hb dX10_minutesThere_5 rfl hl (by decide) rfl (fun ls hl => ?_)
  have cut_6 : ∀ (NN : Nat) (i1 : Nat) (F1 : Nat → Nat) (K1 : Nat → Nat) (z1 : Nat) (m1 : Nat) (r1 : Nat) (a1 : Nat) (g1 : Nat) (l1 : Nat) (hi : i1 ≤ 200) (hM1 : zM (τ.1 4) F1) (hl1 : l1 < 8) (hr1 : r1 < 2) (hg1 : g1 ≤ i1) (hR : zgo τ yw k f (200 - i1) F1 m1 a1 g1 z1 l1 (zanew k r1) = RR), 200 - i1 < NN → ∀ (H : Heap) (locs : List Loc) (ls : Array Slot), wH D vwCl A s.heap H locs (wcat [wkP Z (wo, La.1, ta.1, vq) ru yw z1 yp l1 m1 r1 a1 g1 v, landP Z La τ, thP Z ta F1 K1, ruP ru k f]) → lv_has ls 3 [(0, .ref wo), (1, .int (nI i1))] → W p l e { frames := 3, cells := 0, slots := 0, locals := 86 } s m args below meth c H locs 0 0 Q (F0 m 6 ls []) := by
    intro NN
    induction NN with
    | zero => intro i1 F1 K1 z1 m1 r1 a1 g1 l1 hi hM1 hl1 hr1 hg1 hR hNN; exact absurd hNN (Nat.not_lt_zero _)
    | succ NN ih_6 =>
      intro i1 F1 K1 z1 m1 r1 a1 g1 l1 hi hM1 hl1 hr1 hg1 hR hNN H locs ls X hl
      refine lv_iload_n hx hb dX10_minutesThere_6 rfl (lv_at hl 1 rfl) ?_
      refine lv_sipush (v := nI 200) hx hb dX10_minutesThere_7 (by decide) ?_
      refine gn_icmp_ge (tgt := 67) hx hb dX10_minutesThere_10 (by decide) (by omega) (by omega) (fun c_10 => ?_) (fun c_10 => ?_)
      ·
        refine lv_aload_n hx hb dX10_minutesThere_67 rfl (lv_at hl 0 rfl) ?_
        refine dtI_go (w := wcat [wkP Z (wo, La.1, ta.1, vq) ru yw z1 yp l1 m1 r1 a1 g1 v, landP Z La τ, thP Z ta F1 K1, ruP ru k f]) (wf := wcat []) (W1 := fun _ => wcat [wkP Z (wo, La.1, ta.1, vq) ru yw z1 yp l1 m1 r1 a1 g1 v, landP Z La τ, thP Z ta F1 K1, ruP ru k f]) G X (wsel [0, 1, 2, 3] rfl rfl) (run_V (As := []) (rest := []) (n := 0) G hml hts hl.1 (p_recv G X 0 0 rfl rfl rfl) (k10_isThere hE hT (by omega) (by omega) _) (cwV 0 hts (cg_V ck_369 ck_427 ck_428 ck_429 ck_365) rfl rfl rfl (by decide +kernel) ⟨Nat.le_of_ble_eq_true rfl, Nat.le_of_ble_eq_true rfl⟩) rfl (Nat.le_of_ble_eq_true rfl) dX10_minutesThere_68 ⟨Nat.le_refl _, Nat.le_refl _⟩) (fun _ => wback [0, 1, 2, 3] rfl rfl) (fun H locs _ _ X => ?_)
        refine gb_if_eq (tgt := 81) hx hb dX10_minutesThere_71 (by decide) (fun c_71 => ?_) (fun c_71 => ?_)
        ·
          refine gn_ldc (v := 99999) (k := 99999) hx hb G.2.2.1 (G.2.2.2.1 _ ck_484) (by decide) dX10_minutesThere_81 ?_
          exact cfin_I ((F1, K1, z1, l1, m1, r1, a1, g1)) (by first | (rw [zgo_t (by first | exact c_71 | exact c_17)] at hR; rw [← hR]; exact ⟨rfl, rfl⟩) | (rw [show 200 - i1 = 0 by omega, zgo_e c_71] at hR; rw [← hR]; exact ⟨rfl, rfl⟩)) (rfl) (by first | (rw [zgo_t (by first | exact c_71 | exact c_17)] at hR; rw [← hR]; rfl) | (rw [show 200 - i1 = 0 by omega, zgo_e c_71] at hR; rw [← hR]; rfl)) X dX10_minutesThere_83 fin
        ·
          refine lv_aload_n hx hb dX10_minutesThere_74 rfl (lv_at hl 0 rfl) ?_
          refine cg_10 G X 0 0 rfl rfl 8 (by decide) (G.2.2.2.1 _ ck_357) rfl rfl dX10_minutesThere_75 ?_
          refine lv_goto (tgt := 83) hx hb dX10_minutesThere_78 (by decide) ?_
          exact cfin_I ((F1, K1, z1, l1, m1, r1, a1, g1)) (by first | (rw [zgo_t (by first | exact c_71 | exact c_17)] at hR; rw [← hR]; exact ⟨rfl, rfl⟩) | (rw [show 200 - i1 = 0 by omega, zgo_e c_71] at hR; rw [← hR]; exact ⟨rfl, rfl⟩)) (rfl) (by first | (rw [zgo_t (by first | exact c_71 | exact c_17)] at hR; rw [← hR]; rfl) | (rw [show 200 - i1 = 0 by omega, zgo_e c_71] at hR; rw [← hR]; rfl)) X dX10_minutesThere_83 fin
      ·
        refine lv_aload_n hx hb dX10_minutesThere_13 rfl (lv_at hl 0 rfl) ?_
        refine dtI_go (w := wcat [wkP Z (wo, La.1, ta.1, vq) ru yw z1 yp l1 m1 r1 a1 g1 v, landP Z La τ, thP Z ta F1 K1, ruP ru k f]) (wf := wcat []) (W1 := fun _ => wcat [wkP Z (wo, La.1, ta.1, vq) ru yw z1 yp l1 m1 r1 a1 g1 v, landP Z La τ, thP Z ta F1 K1, ruP ru k f]) G X (wsel [0, 1, 2, 3] rfl rfl) (run_V (As := []) (rest := []) (n := 0) G hml hts hl.1 (p_recv G X 0 0 rfl rfl rfl) (k10_isThere hE hT (by omega) (by omega) _) (cwV 0 hts (cg_V ck_369 ck_427 ck_428 ck_429 ck_365) rfl rfl rfl (by decide +kernel) ⟨Nat.le_of_ble_eq_true rfl, Nat.le_of_ble_eq_true rfl⟩) rfl (Nat.le_of_ble_eq_true rfl) dX10_minutesThere_14 ⟨Nat.le_refl _, Nat.le_refl _⟩) (fun _ => wback [0, 1, 2, 3] rfl rfl) (fun H locs _ _ X => ?_)
        refine gb_if_ne (tgt := 67) hx hb dX10_minutesThere_17 (by decide) (fun c_17 => ?_) (fun c_17 => ?_)
        ·
          refine lv_aload_n hx hb dX10_minutesThere_67 rfl (lv_at hl 0 rfl) ?_
          refine dtI_go (w := wcat [wkP Z (wo, La.1, ta.1, vq) ru yw z1 yp l1 m1 r1 a1 g1 v, landP Z La τ, thP Z ta F1 K1, ruP ru k f]) (wf := wcat []) (W1 := fun _ => wcat [wkP Z (wo, La.1, ta.1, vq) ru yw z1 yp l1 m1 r1 a1 g1 v, landP Z La τ, thP Z ta F1 K1, ruP ru k f]) G X (wsel [0, 1, 2, 3] rfl rfl) (run_V (As := []) (rest := []) (n := 0) G hml hts hl.1 (p_recv G X 0 0 rfl rfl rfl) (k10_isThere hE hT (by omega) (by omega) _) (cwV 0 hts (cg_V ck_369 ck_427 ck_428 ck_429 ck_365) rfl rfl rfl (by decide +kernel) ⟨Nat.le_of_ble_eq_true rfl, Nat.le_of_ble_eq_true rfl⟩) rfl (Nat.le_of_ble_eq_true rfl) dX10_minutesThere_68 ⟨Nat.le_refl _, Nat.le_refl _⟩) (fun _ => wback [0, 1, 2, 3] rfl rfl) (fun H locs _ _ X => ?_)
          refine gb_if_eq (tgt := 81) hx hb dX10_minutesThere_71 (by decide) (fun c_71 => ?_) (fun c_71 => ?_)
          ·
            refine gn_ldc (v := 99999) (k := 99999) hx hb G.2.2.1 (G.2.2.2.1 _ ck_484) (by decide) dX10_minutesThere_81 ?_
            exact cfin_I ((F1, K1, z1, l1, m1, r1, a1, g1)) (by first | (rw [zgo_t (by first | exact c_71 | exact c_17)] at hR; rw [← hR]; exact ⟨rfl, rfl⟩) | (rw [show 200 - i1 = 0 by omega, zgo_e c_71] at hR; rw [← hR]; exact ⟨rfl, rfl⟩)) (rfl) (by first | (rw [zgo_t (by first | exact c_71 | exact c_17)] at hR; rw [← hR]; rfl) | (rw [show 200 - i1 = 0 by omega, zgo_e c_71] at hR; rw [← hR]; rfl)) X dX10_minutesThere_83 fin
          ·
            refine lv_aload_n hx hb dX10_minutesThere_74 rfl (lv_at hl 0 rfl) ?_
            refine cg_10 G X 0 0 rfl rfl 8 (by decide) (G.2.2.2.1 _ ck_357) rfl rfl dX10_minutesThere_75 ?_
            refine lv_goto (tgt := 83) hx hb dX10_minutesThere_78 (by decide) ?_
            exact cfin_I ((F1, K1, z1, l1, m1, r1, a1, g1)) (by first | (rw [zgo_t (by first | exact c_71 | exact c_17)] at hR; rw [← hR]; exact ⟨rfl, rfl⟩) | (rw [show 200 - i1 = 0 by omega, zgo_e c_71] at hR; rw [← hR]; exact ⟨rfl, rfl⟩)) (rfl) (by first | (rw [zgo_t (by first | exact c_71 | exact c_17)] at hR; rw [← hR]; rfl) | (rw [show 200 - i1 = 0 by omega, zgo_e c_71] at hR; rw [← hR]; rfl)) X dX10_minutesThere_83 fin
        ·
          refine lv_aload_n hx hb dX10_minutesThere_20 rfl (lv_at hl 0 rfl) ?_
          refine cg_10 G X 0 0 rfl rfl 11 (by decide) (G.2.2.2.1 _ ck_359) rfl rfl dX10_minutesThere_21 ?_
          refine lv_istore_n (lv' := [(2, .int (nI g1)), (0, .ref wo), (1, .int (nI i1))]) hx hb dX10_minutesThere_24 rfl hl (by decide) rfl (fun ls hl => ?_)
          refine lv_aload_n hx hb dX10_minutesThere_25 rfl (lv_at hl 1 rfl) ?_
          refine dtV_go (w := wcat [wkP Z (wo, La.1, ta.1, vq) ru yw z1 yp l1 m1 r1 a1 g1 v, landP Z La τ, thP Z ta F1 K1, ruP ru k f]) (wf := wcat []) (W1 := fun u_26 => wcat [wkP Z (wo, La.1, ta.1, vq) ru yw z1 yp u_26.2.1 u_26.2.2.1 r1 a1 u_26.2.2.2 v, landP Z La τ, thP Z ta F1 u_26.1, ruP ru k f]) G X (wsel [0, 1, 2, 3] rfl rfl) (run_V (As := []) (rest := []) (n := 0) G hml hts hl.1 (p_recv G X 0 0 rfl rfl rfl) (k10_stepOn hE hT (by omega) (by omega) hM1 _) (cwV 0 hts (cg_V ck_469 ck_488 ck_489 ck_490 ck_365) rfl rfl rfl (by decide +kernel) ⟨Nat.le_of_ble_eq_true rfl, Nat.le_of_ble_eq_true rfl⟩) rfl (Nat.le_of_ble_eq_true rfl) dX10_minutesThere_26 ⟨Nat.le_refl _, Nat.le_refl _⟩) (fun u_26 => wback [0, 1, 2, 3] rfl rfl) (fun H locs u_26 hu_26 X => ?_)
          have hl26 : u_26.2.1 < 8 := by rw [hu_26.2.2.1]; exact zstep_pl hok hl1
          have hK26 : ∀ w, w < 5 → u_26.1 w < 9223372036854775808 := fun w hw => Nat.lt_of_le_of_lt (hu_26.1.1 w hw) (by decide)
          rw [show 200 - i1 = 199 - i1 + 1 by omega] at hR
          have hg26 := hu_26.2.2.2.2
          have hca26 := zstep_ca (τ := τ) (yw := yw) (F := F1) (yl := l1)
          refine lv_aload_n hx hb dX10_minutesThere_29 rfl (lv_at hl 1 rfl) ?_
          refine cg_10 G X 0 0 rfl rfl 1 (by decide) (G.2.2.2.1 _ ck_344) rfl rfl dX10_minutesThere_30 ?_
          refine dtI_go (w := wcat [thP Z ta F1 u_26.1]) (wf := wcat [wkP Z (wo, La.1, ta.1, vq) ru yw z1 yp u_26.2.1 u_26.2.2.1 r1 a1 u_26.2.2.2 v, landP Z La τ, ruP ru k f]) (W1 := fun _ => wcat [wkP Z (wo, La.1, ta.1, vq) ru yw z1 yp u_26.2.1 u_26.2.2.1 r1 a1 u_26.2.2.2 v, landP Z La τ, thP Z ta (if zgall u_26.1 5 = 0 then F1 else zset 5 u_26.1) u_26.1, ruP ru k f]) G X (wsel [2, 0, 1, 3] rfl rfl) (run_V (As := []) (rest := []) (n := 0) G hml hts hl.1 (p_recv G X 2 0 rfl rfl rfl) (k8_settles hE hK26 _) (cwV 0 hts (cg_V ck_317 ck_419 ck_420 ck_421 ck_35) rfl rfl rfl (by decide +kernel) ⟨Nat.le_of_ble_eq_true rfl, Nat.le_of_ble_eq_true rfl⟩) rfl (Nat.le_of_ble_eq_true rfl) dX10_minutesThere_33 ⟨Nat.le_refl _, Nat.le_refl _⟩) (fun _ => wback [2, 0, 1, 3] rfl rfl) (fun H locs _ _ X => ?_)
          have cut_49 : ∀ (F2 : Nat → Nat) (r2 : Nat) (hM2 : zM (τ.1 4) F2) (hr2 : r2 < 2) (hL : zloop τ yw k f (199 - i1) F2 u_26.2.2.1 a1 u_26.2.2.2 z1 u_26.2.1 (zanew k r2) (zstep τ yw F1 l1).2.2.2 = RR), ∀ (H : Heap) (locs : List Loc) (ls : Array Slot), wH D vwCl A s.heap H locs (wcat [wkP Z (wo, La.1, ta.1, vq) ru yw z1 yp u_26.2.1 u_26.2.2.1 r2 a1 u_26.2.2.2 v, landP Z La τ, thP Z ta F2 u_26.1, ruP ru k f]) → lv_has ls 3 [(0, .ref wo), (1, .int (nI i1)), (2, .int (nI g1))] → W p l e { frames := 3, cells := 0, slots := 0, locals := 86 } s m args below meth c H locs 0 0 Q (F0 m 49 ls []) := by
            intro F2 r2 hM2 hr2 hL H locs ls X hl
            refine lv_aload_n hx hb dX10_minutesThere_49 rfl (lv_at hl 0 rfl) ?_
            refine cg_10 G X 0 0 rfl rfl 11 (by decide) (G.2.2.2.1 _ ck_359) rfl rfl dX10_minutesThere_50 ?_
            refine lv_iload_n hx hb dX10_minutesThere_53 rfl (lv_at hl 2 rfl) ?_
            refine gn_icmp_le (tgt := 61) hx hb dX10_minutesThere_54 (by decide) (by omega) (by omega) (fun c_54 => ?_) (fun c_54 => ?_)
            ·
              refine lv_iinc (v := nI (i1 + 1)) (lv' := [(1, .int (nI (i1 + 1))), (0, .ref wo), (2, .int (nI g1))]) hx hb dX10_minutesThere_61 hl (k := 1) rfl (zn_inc _) (by decide) rfl (fun ls hl => ?_)
              refine lv_goto (tgt := 6) hx hb dX10_minutesThere_64 (by decide) ?_
              refine ih_6 (i1 + 1) F2 u_26.1 z1 u_26.2.2.1 r2 a1 u_26.2.2.2 u_26.2.1 (by omega) (by first | exact hu_58.1 | exact hM2) (hl26) (hr2) (by have h9 := hu_26.2.2.2.2; have h8 := zstep_ca (τ := τ) (yw := yw) (F := F1) (yl := l1); omega) (by rw [show 200 - (i1 + 1) = 199 - i1 by omega]; first | exact kl_m hu_26 c_54 hL hu_58 | exact kl_n hu_26 c_54 hL) (by omega) _ _ _ (by exact X) (by exact lv_sub hl [1, 0] rfl)
            ·
              refine lv_aload_n hx hb dX10_minutesThere_57 rfl (lv_at hl 0 rfl) ?_
              refine dtV_go (w := wcat [wkP Z (wo, La.1, ta.1, vq) ru yw z1 yp u_26.2.1 u_26.2.2.1 r2 a1 u_26.2.2.2 v, landP Z La τ, thP Z ta F2 u_26.1, ruP ru k f]) (wf := wcat []) (W1 := fun u_58 => wcat [wkP Z (wo, La.1, ta.1, vq) ru yw u_58.2.2.1 yp u_26.2.1 u_58.2.2.2.1 r2 u_58.2.2.2.2 u_26.2.2.2 v, landP Z La τ, thP Z ta u_58.1 u_58.2.1, ruP ru k f]) G X (wsel [0, 1, 2, 3] rfl rfl) (run_V (As := []) (rest := []) (n := 0) G hml hts hl.1 (p_recv G X 0 0 rfl rfl rfl) (k10_comeHere hE hT (by omega) hl26 hpo hM2 hk6 hf9 _) (cwV 0 hts (cg_V ck_451 ck_485 ck_486 ck_487 ck_365) rfl rfl rfl (by decide +kernel) ⟨Nat.le_of_ble_eq_true rfl, Nat.le_of_ble_eq_true rfl⟩) rfl (Nat.le_of_ble_eq_true rfl) dX10_minutesThere_58 ⟨Nat.le_refl _, Nat.le_refl _⟩) (fun u_58 => wback [0, 1, 2, 3] rfl rfl) (fun H locs u_58 hu_58 X => ?_)
              refine lv_iinc (v := nI (i1 + 1)) (lv' := [(1, .int (nI (i1 + 1))), (0, .ref wo), (2, .int (nI g1))]) hx hb dX10_minutesThere_61 hl (k := 1) rfl (zn_inc _) (by decide) rfl (fun ls hl => ?_)
              refine lv_goto (tgt := 6) hx hb dX10_minutesThere_64 (by decide) ?_
              refine ih_6 (i1 + 1) u_58.1 u_58.2.1 u_58.2.2.1 u_58.2.2.2.1 r2 u_58.2.2.2.2 u_26.2.2.2 u_26.2.1 (by omega) (by first | exact hu_58.1 | exact hM2) (hl26) (hr2) (by have h9 := hu_26.2.2.2.2; have h8 := zstep_ca (τ := τ) (yw := yw) (F := F1) (yl := l1); omega) (by rw [show 200 - (i1 + 1) = 199 - i1 by omega]; first | exact kl_m hu_26 c_54 hL hu_58 | exact kl_n hu_26 c_54 hL) (by omega) _ _ _ (by exact X) (by exact lv_sub hl [1, 0] rfl)
          refine gb_if_ne (tgt := 49) hx hb dX10_minutesThere_36 (by decide) (fun c_36 => ?_) (fun c_36 => ?_)
          ·
            refine cut_49 (if zgall u_26.1 5 = 0 then F1 else zset 5 u_26.1) r1 (by first | exact (kl_s hT (by omega) c_17 hu_26 c_36 hR).1 | exact (kl_a hT (by omega) c_17 hu_26 hg0 c_43 hR).1) (by first | exact hr1 | (rw [if_pos c_43]; omega)) (by first | exact (kl_s hT (by omega) c_17 hu_26 c_36 hR).2 | exact (kl_a hT (by omega) c_17 hu_26 hg0 c_43 hR).2) _ _ _ (by exact X) (by exact lv_sub hl [1, 2, 0] rfl)
          ·
            have hg0 : zgall u_26.1 5 = 0 := Decidable.not_not.mp c_36
            refine lv_aload_n hx hb dX10_minutesThere_39 rfl (lv_at hl 1 rfl) ?_
            refine dtI_go (w := wcat [wkP Z (wo, La.1, ta.1, vq) ru yw z1 yp u_26.2.1 u_26.2.2.1 r1 a1 u_26.2.2.2 v, landP Z La τ, thP Z ta (if zgall u_26.1 5 = 0 then F1 else zset 5 u_26.1) u_26.1, ruP ru k f]) (wf := wcat []) (W1 := fun _ => wcat [wkP Z (wo, La.1, ta.1, vq) ru yw z1 yp u_26.2.1 u_26.2.2.1 (if r1 = 0 ∧ zsec k then 1 else r1) a1 u_26.2.2.2 v, landP Z La τ, thP Z ta (if r1 = 0 ∧ zsec k then zch5 τ else (if zgall u_26.1 5 = 0 then F1 else zset 5 u_26.1)) u_26.1, ruP ru k f]) G X (wsel [0, 1, 2, 3] rfl rfl) (run_V (As := []) (rest := []) (n := 0) G hml hts hl.1 (p_recv G X 0 0 rfl rfl rfl) (k10_beginsAgain hE hok hk6 (by omega) _) (cwV 0 hts (cg_V ck_483 ck_491 ck_492 ck_493 ck_365) rfl rfl rfl (by decide +kernel) ⟨Nat.le_of_ble_eq_true rfl, Nat.le_of_ble_eq_true rfl⟩) rfl (Nat.le_of_ble_eq_true rfl) dX10_minutesThere_40 ⟨Nat.le_refl _, Nat.le_refl _⟩) (fun _ => wback [0, 1, 2, 3] rfl rfl) (fun H locs _ _ X => ?_)
            refine gb_if_ne (tgt := 49) hx hb dX10_minutesThere_43 (by decide) (fun c_43 => ?_) (fun c_43 => ?_)
            ·
              refine cut_49 (if r1 = 0 ∧ zsec k then zch5 τ else (if zgall u_26.1 5 = 0 then F1 else zset 5 u_26.1)) (if r1 = 0 ∧ zsec k then 1 else r1) (by first | exact (kl_s hT (by omega) c_17 hu_26 c_36 hR).1 | exact (kl_a hT (by omega) c_17 hu_26 hg0 c_43 hR).1) (by first | exact hr1 | (rw [if_pos c_43]; omega)) (by first | exact (kl_s hT (by omega) c_17 hu_26 c_36 hR).2 | exact (kl_a hT (by omega) c_17 hu_26 hg0 c_43 hR).2) _ _ _ (by exact X) (by exact lv_sub hl [1, 2, 0] rfl)
            ·
              have hlost := kl_l hT (by omega) c_17 hu_26 hg0 c_43 hR
              refine gn_ldc (v := 99999) (k := 99999) hx hb G.2.2.1 (G.2.2.2.1 _ ck_484) (by decide) dX10_minutesThere_46 ?_
              exact cfin_I ((if r1 = 0 ∧ zsec k then zch5 τ else (if zgall u_26.1 5 = 0 then F1 else zset 5 u_26.1), u_26.1, z1, u_26.2.1, u_26.2.2.1, if r1 = 0 ∧ zsec k then 1 else r1, a1, u_26.2.2.2)) (by rw [hlost]; exact ⟨rfl, rfl⟩) (rfl) (by rw [hlost]; rfl) X dX10_minutesThere_48 fin
  refine cut_6 _ 0 u_1.1 u_1.2.1 u_1.2.2.1 u_1.2.2.2.1 0 u_1.2.2.2.2 0 yl (by omega) (hu_1.1) (hl8) (by omega) (by omega) ((hu_1.2 200 0 (zanew k 0)).symm.trans hRR) (Nat.lt_succ_self _) _ _ _ (by exact X) (by exact lv_sub hl [1, 0] rfl)
