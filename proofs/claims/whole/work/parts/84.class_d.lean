set_option maxHeartbeats 4000000 in
set_option maxRecDepth 100000 in
theorem k10_isThere {E : (Nat → Prop) → State → Heap → Prop} (hE : cEok E) {l : Launch} {D : va_G} {Z : Nat → ClassId} {wo vq ru k f yw yz yp yl ym yr ya yg : Nat} {La : LA} {τ : MS} {ta : Nat × Nat × Nat} {F K v : Nat → Nat} (hT : tOk τ) (hw : yw < τ.1 4) (hl8 : yl < 8) : dtI E l D Z yX10_isThere (Cond.code yX10_isThere cX10_isThere 1 (some .boolean) :: cW) { frames := 0, cells := 0, slots := 0, locals := 0 } [.ref wo] (wcat [wkP Z (wo, La.1, ta.1, vq) ru yw yz yp yl ym yr ya yg v, landP Z La τ, thP Z ta F K, ruP ru k f]) (S := Unit) (fun _ => wcat [wkP Z (wo, La.1, ta.1, vq) ru yw yz yp yl ym yr ya yg v, landP Z La τ, thP Z ta F K, ruP ru k f]) (fun _ => if yl = τ.2 6 yw then 1 else 0) (fun _ => True) := by
  refine dtZ_of hE (cc := cX10_isThere) (maxL := 1) (hnar := fun _ _ => zb_ite) (by decide +kernel) (fun w h => List.mem_cons_of_mem _ h) (Nat.le_of_ble_eq_true rfl) ?_
  intro p e s m args below meth c A Q ls hx hb hml hown hts G X hl fin
  replace hl : lv_has ls 1 [(0, .ref wo)] := hl
  obtain ⟨hok, hpl, hod, hrows, hnx, hsh6, hgl8⟩ := id hT
  obtain ⟨k0, k4, k8, kr, kw, ks, kmet, kmt, k12, k13⟩ := id hok
  have q6 := hgl8 yw (by omega)
  refine lv_aload_n hx hb dX10_isThere_0 rfl (lv_at hl 0 rfl) ?_
  refine cg_10 G X 0 0 rfl rfl 7 (by decide) (G.2.2.2.1 _ ck_356) rfl rfl dX10_isThere_1 ?_
  refine lv_aload_n hx hb dX10_isThere_4 rfl (lv_at hl 0 rfl) ?_
  refine cg_10 G X 0 0 rfl rfl 0 (by decide) (G.2.2.2.1 _ ck_341) rfl rfl dX10_isThere_5 ?_
  refine cg_2 G X 1 0 rfl rfl 6 (by decide) (G.2.2.2.1 _ ck_370) rfl rfl dX10_isThere_8 ?_
  refine lv_aload_n hx hb dX10_isThere_11 rfl (lv_at hl 0 rfl) ?_
  refine cg_10 G X 0 0 rfl rfl 4 (by decide) (G.2.2.2.1 _ ck_355) rfl rfl dX10_isThere_12 ?_
  refine cr_iald G X 1 5 rfl rfl (by omega) (by decide) dX10_isThere_15 ?_
  refine gi_eq (a := (τ.2 6 yw)) (zcl_in (by omega)) ?_
  refine gn_icmp_ne (tgt := 23) hx hb dX10_isThere_16 (by decide) (by omega) (by omega) (fun c_16 => ?_) (fun c_16 => ?_)
  ·
    refine lv_iconst (v := nI 0) hx hb dX10_isThere_23 (by decide) ?_
    exact cfin_I (()) (trivial) (rfl) (by first | exact zb_t c_16 | exact zb_f c_16) X dX10_isThere_24 fin
  ·
    refine lv_iconst (v := nI 1) hx hb dX10_isThere_19 (by decide) ?_
    refine lv_goto (tgt := 24) hx hb dX10_isThere_20 (by decide) ?_
    exact cfin_I (()) (trivial) (rfl) (by first | exact zb_t c_16 | exact zb_f c_16) X dX10_isThere_24 fin
set_option maxHeartbeats 4000000 in
set_option maxRecDepth 100000 in
theorem k10_setOut {E : (Nat → Prop) → State → Heap → Prop} (hE : cEok E) {l : Launch} {D : va_G} {Z : Nat → ClassId} {wo vq ru k f yw yz yp yl ym yr ya yg ru2 : Nat} {La : LA} {ta : Nat × Nat × Nat} {v : Nat → Nat} (xw : Nat) (xl : Nat) (xp : Nat)  : dtV E l D Z yX10_setOut (Cond.code yX10_setOut cX10_setOut 5 none :: cW) { frames := 0, cells := 0, slots := 0, locals := 0 } [.ref wo, .ref ru, .int (nI xw), .int (nI xl), .int (nI xp)] (wcat [wkP Z (wo, La.1, ta.1, vq) ru2 yw yz yp yl ym yr ya yg v, ruP ru k f]) (S := Unit) (fun _ => wcat [wkP Z (wo, La.1, ta.1, vq) ru xw yz xp xl 0 0 0 0 v, ruP ru k f]) (fun _ => True) := by
  refine dtV_of hE (cc := cX10_setOut) (maxL := 5) (by decide +kernel) (fun w h => List.mem_cons_of_mem _ h) (Nat.le_of_ble_eq_true rfl) ?_
  intro p e s m args below meth c A Q ls hx hb hml hown hts G X hl fin
  replace hl : lv_has ls 5 [(0, .ref wo), (1, .ref ru), (2, .int (nI xw)), (3, .int (nI xl)), (4, .int (nI xp))] := hl
  refine lv_aload_n hx hb dX10_setOut_0 rfl (lv_at hl 0 rfl) ?_
  refine lv_aload_n hx hb dX10_setOut_1 rfl (lv_at hl 1 rfl) ?_
  refine cp_10 (ps' := [wkP Z (wo, La.1, ta.1, vq) ru yw yz yp yl ym yr ya yg v, ruP ru k f]) G X 0 0 rfl rfl 3 (by decide) (G.2.2.2.1 _ ck_348) rfl rfl (ty := .object "AskNext$Rule") (by decide +kernel) rfl rfl (Nat.le_of_ble_eq_true rfl) rfl dX10_setOut_2 (fun H locs X => ?_)
  refine lv_aload_n hx hb dX10_setOut_5 rfl (lv_at hl 0 rfl) ?_
  refine lv_iload_n hx hb dX10_setOut_6 rfl (lv_at hl 2 rfl) ?_
  refine cp_10 (ps' := [wkP Z (wo, La.1, ta.1, vq) ru xw yz yp yl ym yr ya yg v, ruP ru k f]) G X 0 0 rfl rfl 4 (by decide) (G.2.2.2.1 _ ck_355) rfl rfl (ty := .int) (by decide +kernel) rfl rfl (Nat.le_of_ble_eq_true rfl) rfl dX10_setOut_7 (fun H locs X => ?_)
  refine lv_aload_n hx hb dX10_setOut_10 rfl (lv_at hl 0 rfl) ?_
  refine lv_iload_n hx hb dX10_setOut_11 rfl (lv_at hl 3 rfl) ?_
  refine cp_10 (ps' := [wkP Z (wo, La.1, ta.1, vq) ru xw yz yp xl ym yr ya yg v, ruP ru k f]) G X 0 0 rfl rfl 7 (by decide) (G.2.2.2.1 _ ck_356) rfl rfl (ty := .int) (by decide +kernel) rfl rfl (Nat.le_of_ble_eq_true rfl) rfl dX10_setOut_12 (fun H locs X => ?_)
  refine lv_aload_n hx hb dX10_setOut_15 rfl (lv_at hl 0 rfl) ?_
  refine lv_iload hx hb dX10_setOut_16 (lv_at hl 4 rfl) ?_
  refine cp_10 (ps' := [wkP Z (wo, La.1, ta.1, vq) ru xw yz xp xl ym yr ya yg v, ruP ru k f]) G X 0 0 rfl rfl 6 (by decide) (G.2.2.2.1 _ ck_349) rfl rfl (ty := .int) (by decide +kernel) rfl rfl (Nat.le_of_ble_eq_true rfl) rfl dX10_setOut_18 (fun H locs X => ?_)
  refine lv_aload_n hx hb dX10_setOut_21 rfl (lv_at hl 0 rfl) ?_
  refine lv_iconst (v := nI 0) hx hb dX10_setOut_22 (by decide) ?_
  refine cp_10 (ps' := [wkP Z (wo, La.1, ta.1, vq) ru xw yz xp xl 0 yr ya yg v, ruP ru k f]) G X 0 0 rfl rfl 8 (by decide) (G.2.2.2.1 _ ck_357) rfl rfl (ty := .int) (by decide +kernel) rfl rfl (Nat.le_of_ble_eq_true rfl) rfl dX10_setOut_23 (fun H locs X => ?_)
  refine lv_aload_n hx hb dX10_setOut_26 rfl (lv_at hl 0 rfl) ?_
  refine lv_iconst (v := nI 0) hx hb dX10_setOut_27 (by decide) ?_
  refine cp_10 (ps' := [wkP Z (wo, La.1, ta.1, vq) ru xw yz xp xl 0 yr 0 yg v, ruP ru k f]) G X 0 0 rfl rfl 10 (by decide) (G.2.2.2.1 _ ck_358) rfl rfl (ty := .int) (by decide +kernel) rfl rfl (Nat.le_of_ble_eq_true rfl) rfl dX10_setOut_28 (fun H locs X => ?_)
  refine lv_aload_n hx hb dX10_setOut_31 rfl (lv_at hl 0 rfl) ?_
  refine lv_iconst (v := nI 0) hx hb dX10_setOut_32 (by decide) ?_
  refine cp_10 (ps' := [wkP Z (wo, La.1, ta.1, vq) ru xw yz xp xl 0 yr 0 0 v, ruP ru k f]) G X 0 0 rfl rfl 11 (by decide) (G.2.2.2.1 _ ck_359) rfl rfl (ty := .int) (by decide +kernel) rfl rfl (Nat.le_of_ble_eq_true rfl) rfl dX10_setOut_33 (fun H locs X => ?_)
  refine lv_aload_n hx hb dX10_setOut_36 rfl (lv_at hl 0 rfl) ?_
  refine lv_iconst (v := nI 0) hx hb dX10_setOut_37 (by decide) ?_
  refine cp_10 (ps' := [wkP Z (wo, La.1, ta.1, vq) ru xw yz xp xl 0 0 0 0 v, ruP ru k f]) G X 0 0 rfl rfl 9 (by decide) (G.2.2.2.1 _ ck_360) rfl rfl (ty := .boolean) (by decide +kernel) (zb_nar (by omega)) (zb_fit (by omega)) (Nat.le_of_ble_eq_true rfl) rfl dX10_setOut_38 (fun H locs X => ?_)
  exact cfin_V (()) (trivial) (rfl) X dX10_setOut_41 fin
set_option maxHeartbeats 4000000 in
set_option maxRecDepth 100000 in
theorem k10_askOnce {E : (Nat → Prop) → State → Heap → Prop} (hE : cEok E) {l : Launch} {D : va_G} {Z : Nat → ClassId} {wo vq ru k f yw yz yp yl ym yr ya yg : Nat} {La : LA} {τ : MS} {ta : Nat × Nat × Nat} {F K v : Nat → Nat} (hT : tOk τ) (hw : yw < τ.1 4) (hl8 : yl < 8) (hpo : yp = τ.1 28 ∧ yp < 4294967296) : dtI E l D Z yX10_askOnce (Cond.code yX10_askOnce cX10_askOnce 2 (some .int) :: cW) { frames := 1, cells := 0, slots := 0, locals := 24 } [.ref wo] (wcat [wkP Z (wo, La.1, ta.1, vq) ru yw yz yp yl ym yr ya yg v, landP Z La τ, thP Z ta F K, ruP ru k f]) (S := Unit) (fun _ => wcat [wkP Z (wo, La.1, ta.1, vq) ru yw (znx yz) yp yl (ym + τ.1 13) yr (ya + 1) yg v, landP Z La τ, thP Z ta F K, ruP ru k f]) (fun _ => nI (zans τ (znx yz) yl yw)) (fun _ => True) := by
  refine dtI_of hE (cc := cX10_askOnce) (maxL := 2) (by decide +kernel) (fun w h => List.mem_cons_of_mem _ h) (Nat.le_of_ble_eq_true rfl) ?_
  intro p e s m args below meth c A Q ls hx hb hml hown hts G X hl fin
  replace hl : lv_has ls 2 [(0, .ref wo)] := hl
  obtain ⟨hok, hpl, hod, hrows, hnx, hsh6, hgl8⟩ := id hT
  obtain ⟨k0, k4, k8, kr, kw, ks, kmet, kmt, k12, k13⟩ := id hok
  refine lv_aload_n hx hb dX10_askOnce_0 rfl (lv_at hl 0 rfl) ?_
  refine lv_dup hx hb dX10_askOnce_1 rfl ?_
  refine cg_10 G X 0 0 rfl rfl 10 (by decide) (G.2.2.2.1 _ ck_358) rfl rfl dX10_askOnce_2 ?_
  refine lv_iconst (v := nI 1) hx hb dX10_askOnce_5 (by decide) ?_
  refine gn_iadd hx hb dX10_askOnce_6  ?_
  refine cp_10 (ps' := [wkP Z (wo, La.1, ta.1, vq) ru yw yz yp yl ym yr (ya + 1) yg v, landP Z La τ, thP Z ta F K, ruP ru k f]) G X 0 0 rfl rfl 10 (by decide) (G.2.2.2.1 _ ck_358) rfl rfl (ty := .int) (by decide +kernel) rfl rfl (Nat.le_of_ble_eq_true rfl) rfl dX10_askOnce_7 (fun H locs X => ?_)
  refine lv_aload_n hx hb dX10_askOnce_10 rfl (lv_at hl 0 rfl) ?_
  refine lv_dup hx hb dX10_askOnce_11 rfl ?_
  refine cg_10 G X 0 0 rfl rfl 8 (by decide) (G.2.2.2.1 _ ck_357) rfl rfl dX10_askOnce_12 ?_
  refine lv_aload_n hx hb dX10_askOnce_15 rfl (lv_at hl 0 rfl) ?_
  refine cg_10 G X 0 0 rfl rfl 0 (by decide) (G.2.2.2.1 _ ck_341) rfl rfl dX10_askOnce_16 ?_
  refine cg_2 G X 1 0 rfl rfl 13 (by decide) (G.2.2.2.1 _ ck_371) rfl rfl dX10_askOnce_19 ?_
  refine gn_iadd hx hb dX10_askOnce_22  ?_
  refine cp_10 (ps' := [wkP Z (wo, La.1, ta.1, vq) ru yw yz yp yl (ym + (τ.1 13)) yr (ya + 1) yg v, landP Z La τ, thP Z ta F K, ruP ru k f]) G X 0 0 rfl rfl 8 (by decide) (G.2.2.2.1 _ ck_357) rfl rfl (ty := .int) (by decide +kernel) rfl rfl (Nat.le_of_ble_eq_true rfl) rfl dX10_askOnce_23 (fun H locs X => ?_)
  refine lv_aload_n hx hb dX10_askOnce_26 rfl (lv_at hl 0 rfl) ?_
  refine lv_aload_n hx hb dX10_askOnce_27 rfl (lv_at hl 0 rfl) ?_
  refine cg_10 G X 0 0 rfl rfl 5 (by decide) (G.2.2.2.1 _ ck_372) rfl rfl dX10_askOnce_28 ?_
  refine gn_ldc (v := 1103515245) (k := 1103515245) hx hb G.2.2.1 (G.2.2.2.1 _ ck_373) (by decide) dX10_askOnce_31 ?_
  refine gn_imul hx hb dX10_askOnce_33  ?_
  refine lv_sipush (v := nI 12345) hx hb dX10_askOnce_34 (by decide) ?_
  refine gn_iadd hx hb dX10_askOnce_37  ?_
  refine gi_eq (a := (znx yz)) (rfl) ?_
  refine cp_10 (ps' := [wkP Z (wo, La.1, ta.1, vq) ru yw (znx yz) yp yl (ym + (τ.1 13)) yr (ya + 1) yg v, landP Z La τ, thP Z ta F K, ruP ru k f]) G X 0 0 rfl rfl 5 (by decide) (G.2.2.2.1 _ ck_372) rfl rfl (ty := .int) (by decide +kernel) rfl rfl (Nat.le_of_ble_eq_true rfl) rfl dX10_askOnce_38 (fun H locs X => ?_)
  refine lv_aload_n hx hb dX10_askOnce_41 rfl (lv_at hl 0 rfl) ?_
  refine cg_10 G X 0 0 rfl rfl 7 (by decide) (G.2.2.2.1 _ ck_356) rfl rfl dX10_askOnce_42 ?_
  refine lv_aload_n hx hb dX10_askOnce_45 rfl (lv_at hl 0 rfl) ?_
  refine cg_10 G X 0 0 rfl rfl 6 (by decide) (G.2.2.2.1 _ ck_349) rfl rfl dX10_askOnce_46 ?_
  refine gn_icmp_ne (tgt := 57) hx hb dX10_askOnce_49 (by decide) (by omega) (by have := hpo.2; omega) (fun c_49 => ?_) (fun c_49 => ?_)
  ·
    refine lv_aload_n hx hb dX10_askOnce_57 rfl (lv_at hl 0 rfl) ?_
    refine cg_10 G X 0 0 rfl rfl 0 (by decide) (G.2.2.2.1 _ ck_341) rfl rfl dX10_askOnce_58 ?_
    refine lv_aload_n hx hb dX10_askOnce_61 rfl (lv_at hl 0 rfl) ?_
    refine cg_10 G X 0 0 rfl rfl 7 (by decide) (G.2.2.2.1 _ ck_356) rfl rfl dX10_askOnce_62 ?_
    refine lv_aload_n hx hb dX10_askOnce_65 rfl (lv_at hl 0 rfl) ?_
    refine cg_10 G X 0 0 rfl rfl 5 (by decide) (G.2.2.2.1 _ ck_372) rfl rfl dX10_askOnce_66 ?_
    refine gn_ldc (v := 2147483647) (k := 2147483647) hx hb G.2.2.1 (G.2.2.2.1 _ ck_374) (by decide) dX10_askOnce_69 ?_
    refine lv_iand hx hb dX10_askOnce_71 ?_
    refine gi_to (a := (znx yz) % 2147483648) (zand _ 31 (by decide) (by decide)) ?_
    refine gn_ldc (v := 65536) (k := 65536) hx hb G.2.2.1 (G.2.2.2.1 _ ck_375) (by decide) dX10_askOnce_72 ?_
    refine gn_idiv hx hb dX10_askOnce_74 (by omega) (by omega) (by omega) ?_
    refine lv_bipush (v := nI 100) hx hb dX10_askOnce_75 (by decide) ?_
    refine gn_irem hx hb dX10_askOnce_77 (by omega) (by omega) (by omega) ?_
    refine gi_eq (a := (zdrawn (znx yz))) (rfl) ?_
    refine dtI_go (w := wcat [landP Z La τ]) (wf := wcat [wkP Z (wo, La.1, ta.1, vq) ru yw (znx yz) yp yl (ym + (τ.1 13)) yr (ya + 1) yg v, thP Z ta F K, ruP ru k f]) (W1 := fun _ => wcat [wkP Z (wo, La.1, ta.1, vq) ru yw (znx yz) yp yl (ym + (τ.1 13)) yr (ya + 1) yg v, landP Z La τ, thP Z ta F K, ruP ru k f]) G X (wsel [1, 0, 2, 3] rfl rfl) (run_V (As := [.int (nI yl), .int (nI (zdrawn (znx yz)))]) (rest := []) (n := 2) G hml hts hl.1 (p_recv G X 1 0 rfl rfl rfl) (k2_metWith hE yl (zdrawn (znx yz)) hok (by omega) (Nat.mod_lt _ (by decide)) _) (cwV 2 hts (cg_V ck_108 ck_376 ck_377 ck_378 ck_79) rfl rfl rfl (by decide +kernel) ⟨Nat.le_of_ble_eq_true rfl, Nat.le_of_ble_eq_true rfl⟩) rfl (Nat.le_of_ble_eq_true rfl) dX10_askOnce_78 ⟨Nat.le_refl _, Nat.le_refl _⟩) (fun _ => wback [1, 0, 2, 3] rfl rfl) (fun H locs _ _ X => ?_)
    refine lv_istore_n (lv' := [(1, .int (nI (zmetW τ yl (zdrawn (znx yz))))), (0, .ref wo)]) hx hb dX10_askOnce_81 rfl hl (by decide) rfl (fun ls hl => ?_)
    have hmw := zmetW_lt (τ := τ) (c := yl) (d := zdrawn (znx yz)) k8
    have hpn := hpo.2
    refine lv_iload_n hx hb dX10_askOnce_82 rfl (lv_at hl 0 rfl) ?_
    refine lv_iconst (v := nI 4294967295) hx hb dX10_askOnce_83 (by decide) ?_
    refine gn_icmp_ne (tgt := 91) hx hb dX10_askOnce_84 (by decide) (by omega) (by omega) (fun c_84 => ?_) (fun c_84 => ?_)
    ·
      refine lv_aload_n hx hb dX10_askOnce_91 rfl (lv_at hl 1 rfl) ?_
      refine cg_10 G X 0 0 rfl rfl 0 (by decide) (G.2.2.2.1 _ ck_341) rfl rfl dX10_askOnce_92 ?_
      refine lv_iload_n hx hb dX10_askOnce_95 rfl (lv_at hl 0 rfl) ?_
      refine lv_aload_n hx hb dX10_askOnce_96 rfl (lv_at hl 1 rfl) ?_
      refine cg_10 G X 0 0 rfl rfl 7 (by decide) (G.2.2.2.1 _ ck_356) rfl rfl dX10_askOnce_97 ?_
      refine lv_aload_n hx hb dX10_askOnce_100 rfl (lv_at hl 1 rfl) ?_
      refine cg_10 G X 0 0 rfl rfl 4 (by decide) (G.2.2.2.1 _ ck_355) rfl rfl dX10_askOnce_101 ?_
      refine dtI_go (w := wcat [landP Z La τ]) (wf := wcat [wkP Z (wo, La.1, ta.1, vq) ru yw (znx yz) yp yl (ym + (τ.1 13)) yr (ya + 1) yg v, thP Z ta F K, ruP ru k f]) (W1 := fun _ => wcat [wkP Z (wo, La.1, ta.1, vq) ru yw (znx yz) yp yl (ym + (τ.1 13)) yr (ya + 1) yg v, landP Z La τ, thP Z ta F K, ruP ru k f]) G X (wsel [1, 0, 2, 3] rfl rfl) (run_V (As := [.int (nI (zmetW τ yl (zdrawn (znx yz)))), .int (nI yl), .int (nI yw)]) (rest := []) (n := 3) G hml hts hl.1 (p_recv G X 1 0 rfl rfl rfl) (k2_saidBy hE (zmetW τ yl (zdrawn (znx yz))) yl yw hok hpl (zmetW_in c_84) (by omega) (by omega) _) (cwV 3 hts (cg_V ck_107 ck_379 ck_127 ck_128 ck_79) rfl rfl rfl (by decide +kernel) ⟨Nat.le_of_ble_eq_true rfl, Nat.le_of_ble_eq_true rfl⟩) rfl (Nat.le_of_ble_eq_true rfl) dX10_askOnce_104 ⟨Nat.le_refl _, Nat.le_refl _⟩) (fun _ => wback [1, 0, 2, 3] rfl rfl) (fun H locs _ _ X => ?_)
      exact cfin_I (()) (trivial) (rfl) (by rw [zans_m k8 (show yl ≠ τ.1 28 by omega)]; first | rw [if_pos c_84] | rw [if_neg c_84]) X dX10_askOnce_107 fin
    ·
      refine lv_iconst (v := nI 4294967295) hx hb dX10_askOnce_87 (by decide) ?_
      refine lv_goto (tgt := 107) hx hb dX10_askOnce_88 (by decide) ?_
      exact cfin_I (()) (trivial) (rfl) (by rw [zans_m k8 (show yl ≠ τ.1 28 by omega)]; first | rw [if_pos c_84] | rw [if_neg c_84]) X dX10_askOnce_107 fin
  ·
    refine lv_aload_n hx hb dX10_askOnce_52 rfl (lv_at hl 0 rfl) ?_
    refine cg_10 G X 0 0 rfl rfl 4 (by decide) (G.2.2.2.1 _ ck_355) rfl rfl dX10_askOnce_53 ?_
    exact cfin_I (()) (trivial) (rfl) (by rw [zans_p (show yl = τ.1 28 by omega)]) X dX10_askOnce_56 fin
set_option maxHeartbeats 4000000 in
set_option maxRecDepth 100000 in
theorem k10_comeHere {E : (Nat → Prop) → State → Heap → Prop} (hE : cEok E) {l : Launch} {D : va_G} {Z : Nat → ClassId} {wo vq ru k f yw yz yp yl ym yr ya yg : Nat} {La : LA} {τ : MS} {ta : Nat × Nat × Nat} {F K v : Nat → Nat} (hT : tOk τ) (hw : yw < τ.1 4) (hl8 : yl < 8) (hpo : yp = τ.1 28 ∧ yp < 4294967296) (hM : zM (τ.1 4) F) (hk6 : k < 6) (hf9 : f < 100) : dtV E l D Z yX10_comeHere (Cond.code yX10_comeHere cX10_comeHere 2 none :: cW) { frames := 2, cells := 0, slots := 0, locals := 65 } [.ref wo] (wcat [wkP Z (wo, La.1, ta.1, vq) ru yw yz yp yl ym yr ya yg v, landP Z La τ, thP Z ta F K, ruP ru k f]) (S := (Nat → Nat) × (Nat → Nat) × Nat × Nat × Nat) (fun u => wcat [wkP Z (wo, La.1, ta.1, vq) ru yw u.2.2.1 yp yl u.2.2.2.1 yr u.2.2.2.2 yg v, landP Z La τ, thP Z ta u.1 u.2.1, ruP ru k f]) (fun u => kcome τ yw yl k f F yz ym ya u) := by
  refine dtV_of hE (cc := cX10_comeHere) (maxL := 2) (by decide +kernel) (fun w h => List.mem_cons_of_mem _ h) (Nat.le_of_ble_eq_true rfl) ?_
  intro p e s m args below meth c A Q ls hx hb hml hown hts G X hl fin
  replace hl : lv_has ls 2 [(0, .ref wo)] := hl
  obtain ⟨hok, hpl, hod, hrows, hnx, hsh6, hgl8⟩ := id hT
  obtain ⟨k0, k4, k8, kr, kw, ks, kmet, kmt, k12, k13⟩ := id hok
  have ha5 := zans_lt (σ := τ) (z := znx yz) (c := yl) hw
  refine lv_aload_n hx hb dX10_comeHere_0 rfl (lv_at hl 0 rfl) ?_
  refine dtI_go (w := wcat [wkP Z (wo, La.1, ta.1, vq) ru yw yz yp yl ym yr ya yg v, landP Z La τ, thP Z ta F K, ruP ru k f]) (wf := wcat []) (W1 := fun _ => wcat [wkP Z (wo, La.1, ta.1, vq) ru yw yz yp yl ym yr ya yg v, landP Z La τ, thP Z ta F K, ruP ru k f]) G X (wsel [0, 1, 2, 3] rfl rfl) (run_V (As := []) (rest := []) (n := 0) G hml hts hl.1 (p_recv G X 0 0 rfl rfl rfl) (k10_isThere hE hT (by omega) (by omega) _) (cwV 0 hts (cg_V ck_369 ck_427 ck_428 ck_429 ck_365) rfl rfl rfl (by decide +kernel) ⟨Nat.le_of_ble_eq_true rfl, Nat.le_of_ble_eq_true rfl⟩) rfl (Nat.le_of_ble_eq_true rfl) dX10_comeHere_1 ⟨Nat.le_refl _, Nat.le_refl _⟩) (fun _ => wback [0, 1, 2, 3] rfl rfl) (fun H locs _ _ X => ?_)
  refine gb_if_ne (tgt := 21) hx hb dX10_comeHere_4 (by decide) (fun c_4 => ?_) (fun c_4 => ?_)
  ·
    exact cfin_V ((F, K, yz, ym, ya)) (by first | exact kcome_n k4 hM (Or.inl c_4) | exact kcome_n k4 hM (Or.inr c_18)) (rfl) X dX10_comeHere_21 fin
  ·
    refine lv_aload_n hx hb dX10_comeHere_7 rfl (lv_at hl 0 rfl) ?_
    refine cg_10 G X 0 0 rfl rfl 3 (by decide) (G.2.2.2.1 _ ck_348) rfl rfl dX10_comeHere_8 ?_
    refine lv_aload_n hx hb dX10_comeHere_11 rfl (lv_at hl 0 rfl) ?_
    refine cg_10 G X 0 0 rfl rfl 1 (by decide) (G.2.2.2.1 _ ck_344) rfl rfl dX10_comeHere_12 ?_
    refine dtI_go (w := wcat [ruP ru k f, thP Z ta F K]) (wf := wcat [wkP Z (wo, La.1, ta.1, vq) ru yw yz yp yl ym yr ya yg v, landP Z La τ]) (W1 := fun _ => wcat [wkP Z (wo, La.1, ta.1, vq) ru yw yz yp yl ym yr ya yg v, landP Z La τ, thP Z ta F K, ruP ru k f]) G X (wsel [3, 2, 0, 1] rfl rfl) (fun X => vr_10_asksOnComing hE G hml hts hl.1 hk6 hM.1 hf9 (Nat.le_of_ble_eq_true rfl) dX10_comeHere_15 ⟨Nat.le_refl _, Nat.le_refl _⟩ ⟨Nat.le_of_ble_eq_true rfl, Nat.le_of_ble_eq_true rfl⟩ X) (fun _ => wback [3, 2, 0, 1] rfl rfl) (fun H locs _ _ X => ?_)
    refine gb_if_ne (tgt := 22) hx hb dX10_comeHere_18 (by decide) (fun c_18 => ?_) (fun c_18 => ?_)
    ·
      refine lv_aload_n hx hb dX10_comeHere_22 rfl (lv_at hl 0 rfl) ?_
      refine dtI_go (w := wcat [wkP Z (wo, La.1, ta.1, vq) ru yw yz yp yl ym yr ya yg v, landP Z La τ, thP Z ta F K, ruP ru k f]) (wf := wcat []) (W1 := fun _ => wcat [wkP Z (wo, La.1, ta.1, vq) ru yw (znx yz) yp yl (ym + (τ.1 13)) yr (ya + 1) yg v, landP Z La τ, thP Z ta F K, ruP ru k f]) G X (wsel [0, 1, 2, 3] rfl rfl) (run_V (As := []) (rest := []) (n := 0) G hml hts hl.1 (p_recv G X 0 0 rfl rfl rfl) (k10_askOnce hE hT (by omega) (by omega) hpo _) (cwV 0 hts (cg_V ck_380 ck_381 ck_382 ck_383 ck_365) rfl rfl rfl (by decide +kernel) ⟨Nat.le_of_ble_eq_true rfl, Nat.le_of_ble_eq_true rfl⟩) rfl (Nat.le_of_ble_eq_true rfl) dX10_comeHere_23 ⟨Nat.le_refl _, Nat.le_refl _⟩) (fun _ => wback [0, 1, 2, 3] rfl rfl) (fun H locs _ _ X => ?_)
      refine lv_istore_n (lv' := [(1, .int (nI (zans τ (znx yz) yl yw))), (0, .ref wo)]) hx hb dX10_comeHere_26 rfl hl (by decide) rfl (fun ls hl => ?_)
      refine lv_aload_n hx hb dX10_comeHere_27 rfl (lv_at hl 1 rfl) ?_
      refine cg_10 G X 0 0 rfl rfl 7 (by decide) (G.2.2.2.1 _ ck_356) rfl rfl dX10_comeHere_28 ?_
      refine lv_aload_n hx hb dX10_comeHere_31 rfl (lv_at hl 1 rfl) ?_
      refine cg_10 G X 0 0 rfl rfl 6 (by decide) (G.2.2.2.1 _ ck_349) rfl rfl dX10_comeHere_32 ?_
      refine gn_icmp_ne (tgt := 49) hx hb dX10_comeHere_35 (by decide) (by omega) (by have := hpo.2; omega) (fun c_35 => ?_) (fun c_35 => ?_)
      ·
        refine lv_aload_n hx hb dX10_comeHere_49 rfl (lv_at hl 1 rfl) ?_
        refine cg_10 G X 0 0 rfl rfl 1 (by decide) (G.2.2.2.1 _ ck_344) rfl rfl dX10_comeHere_50 ?_
        refine lv_aload_n hx hb dX10_comeHere_53 rfl (lv_at hl 1 rfl) ?_
        refine cg_10 G X 0 0 rfl rfl 0 (by decide) (G.2.2.2.1 _ ck_341) rfl rfl dX10_comeHere_54 ?_
        refine lv_aload_n hx hb dX10_comeHere_57 rfl (lv_at hl 1 rfl) ?_
        refine cg_10 G X 0 0 rfl rfl 7 (by decide) (G.2.2.2.1 _ ck_356) rfl rfl dX10_comeHere_58 ?_
        refine lv_iload_n hx hb dX10_comeHere_61 rfl (lv_at hl 0 rfl) ?_
        refine dtV_go (w := wcat [thP Z ta F K, landP Z La τ]) (wf := wcat [wkP Z (wo, La.1, ta.1, vq) ru yw (znx yz) yp yl (ym + (τ.1 13)) yr (ya + 1) yg v, ruP ru k f]) (W1 := fun _ => wcat [wkP Z (wo, La.1, ta.1, vq) ru yw (znx yz) yp yl (ym + (τ.1 13)) yr (ya + 1) yg v, landP Z La τ, thP Z ta F (zhe5 τ F (zplc yl (zans τ (znx yz) yl yw))), ruP ru k f]) G X (wsel [2, 1, 0, 3] rfl rfl) (run_V (As := [.ref La.1, .int (nI yl), .int (nI (zans τ (znx yz) yl yw))]) (rest := []) (n := 3) G hml hts hl.1 (p_recv G X 2 0 rfl rfl rfl) (k8_hear hE yl (zans τ (znx yz) yl yw) hod (by omega) (by omega) _) (cwV 3 hts (cg_V ck_304 ck_448 ck_449 ck_450 ck_35) rfl rfl rfl (by decide +kernel) ⟨Nat.le_of_ble_eq_true rfl, Nat.le_of_ble_eq_true rfl⟩) rfl (Nat.le_of_ble_eq_true rfl) dX10_comeHere_62 ⟨Nat.le_refl _, Nat.le_refl _⟩) (fun _ => wback [2, 1, 0, 3] rfl rfl) (fun H locs _ _ X => ?_)
        refine lv_aload_n hx hb dX10_comeHere_65 rfl (lv_at hl 1 rfl) ?_
        refine cg_10 G X 0 0 rfl rfl 1 (by decide) (G.2.2.2.1 _ ck_344) rfl rfl dX10_comeHere_66 ?_
        refine dtI_go (w := wcat [thP Z ta F (zhe5 τ F (zplc yl (zans τ (znx yz) yl yw)))]) (wf := wcat [wkP Z (wo, La.1, ta.1, vq) ru yw (znx yz) yp yl (ym + (τ.1 13)) yr (ya + 1) yg v, landP Z La τ, ruP ru k f]) (W1 := fun _ => wcat [wkP Z (wo, La.1, ta.1, vq) ru yw (znx yz) yp yl (ym + (τ.1 13)) yr (ya + 1) yg v, landP Z La τ, thP Z ta (if zgall (zhe5 τ F (zplc yl (zans τ (znx yz) yl yw))) 5 = 0 then F else zset 5 (zhe5 τ F (zplc yl (zans τ (znx yz) yl yw)))) (zhe5 τ F (zplc yl (zans τ (znx yz) yl yw))), ruP ru k f]) G X (wsel [2, 0, 1, 3] rfl rfl) (run_V (As := []) (rest := []) (n := 0) G hml hts hl.1 (p_recv G X 2 0 rfl rfl rfl) (k8_settles hE (fun w9 hw9 => by have q1 := hM.1 w9 hw9; first | (have q2 := zplc_lt (a := zans τ (znx yz) yl yw) hl8 (by omega); have q3 := Nat.mul_le_mul q1 (hod (5 * zplc yl (zans τ (znx yz) yl yw) + w9) (by omega)); show F w9 * τ.2 62 _ < _; omega) | (show (if _ then _ else _) < _; split <;> omega)) _) (cwV 0 hts (cg_V ck_317 ck_419 ck_420 ck_421 ck_35) rfl rfl rfl (by decide +kernel) ⟨Nat.le_of_ble_eq_true rfl, Nat.le_of_ble_eq_true rfl⟩) rfl (Nat.le_of_ble_eq_true rfl) dX10_comeHere_69 ⟨Nat.le_refl _, Nat.le_refl _⟩) (fun _ => wback [2, 0, 1, 3] rfl rfl) (fun H locs _ _ X => ?_)
        refine lv_pop hx hb dX10_comeHere_72 rfl ?_
        exact cfin_V ((if zgall (zhe5 τ F (zplc yl (zans τ (znx yz) yl yw))) 5 = 0 then F else zset 5 (zhe5 τ F (zplc yl (zans τ (znx yz) yl yw))), zhe5 τ F (zplc yl (zans τ (znx yz) yl yw)), znx yz, ym + (τ.1 13), ya + 1)) (by first | exact kcome_y k4 (by omega) hM c_4 c_18 (khear hT hM hl8 (by omega) (by omega)).1 (khear hT hM hl8 (by omega) (by omega)).2 | exact kcome_y k4 (by omega) hM c_4 c_18 (kbel k4 hM (show yl = τ.1 28 by omega)).1 (kbel k4 hM (show yl = τ.1 28 by omega)).2) (rfl) X dX10_comeHere_73 fin
      ·
        refine lv_aload_n hx hb dX10_comeHere_38 rfl (lv_at hl 1 rfl) ?_
        refine cg_10 G X 0 0 rfl rfl 1 (by decide) (G.2.2.2.1 _ ck_344) rfl rfl dX10_comeHere_39 ?_
        refine lv_iload_n hx hb dX10_comeHere_42 rfl (lv_at hl 0 rfl) ?_
        refine dtV_go (w := wcat [thP Z ta F K]) (wf := wcat [wkP Z (wo, La.1, ta.1, vq) ru yw (znx yz) yp yl (ym + (τ.1 13)) yr (ya + 1) yg v, landP Z La τ, ruP ru k f]) (W1 := fun _ => wcat [wkP Z (wo, La.1, ta.1, vq) ru yw (znx yz) yp yl (ym + (τ.1 13)) yr (ya + 1) yg v, landP Z La τ, thP Z ta F (zbelM F (zans τ (znx yz) yl yw)), ruP ru k f]) G X (wsel [2, 0, 1, 3] rfl rfl) (run_V (As := [.int (nI (zans τ (znx yz) yl yw))]) (rest := []) (n := 1) G hml hts hl.1 (p_recv G X 2 0 rfl rfl rfl) (k8_believe hE (zans τ (znx yz) yl yw) (by omega) _) (cwV 1 hts (cg_V ck_313 ck_416 ck_417 ck_418 ck_35) rfl rfl rfl (by decide +kernel) ⟨Nat.le_of_ble_eq_true rfl, Nat.le_of_ble_eq_true rfl⟩) rfl (Nat.le_of_ble_eq_true rfl) dX10_comeHere_43 ⟨Nat.le_refl _, Nat.le_refl _⟩) (fun _ => wback [2, 0, 1, 3] rfl rfl) (fun H locs _ _ X => ?_)
        refine lv_goto (tgt := 65) hx hb dX10_comeHere_46 (by decide) ?_
        refine lv_aload_n hx hb dX10_comeHere_65 rfl (lv_at hl 1 rfl) ?_
        refine cg_10 G X 0 0 rfl rfl 1 (by decide) (G.2.2.2.1 _ ck_344) rfl rfl dX10_comeHere_66 ?_
        refine dtI_go (w := wcat [thP Z ta F (zbelM F (zans τ (znx yz) yl yw))]) (wf := wcat [wkP Z (wo, La.1, ta.1, vq) ru yw (znx yz) yp yl (ym + (τ.1 13)) yr (ya + 1) yg v, landP Z La τ, ruP ru k f]) (W1 := fun _ => wcat [wkP Z (wo, La.1, ta.1, vq) ru yw (znx yz) yp yl (ym + (τ.1 13)) yr (ya + 1) yg v, landP Z La τ, thP Z ta (if zgall (zbelM F (zans τ (znx yz) yl yw)) 5 = 0 then F else zset 5 (zbelM F (zans τ (znx yz) yl yw))) (zbelM F (zans τ (znx yz) yl yw)), ruP ru k f]) G X (wsel [2, 0, 1, 3] rfl rfl) (run_V (As := []) (rest := []) (n := 0) G hml hts hl.1 (p_recv G X 2 0 rfl rfl rfl) (k8_settles hE (fun w9 hw9 => by have q1 := hM.1 w9 hw9; first | (have q2 := zplc_lt (a := zans τ (znx yz) yl yw) hl8 (by omega); have q3 := Nat.mul_le_mul q1 (hod (5 * zplc yl (zans τ (znx yz) yl yw) + w9) (by omega)); show F w9 * τ.2 62 _ < _; omega) | (show (if _ then _ else _) < _; split <;> omega)) _) (cwV 0 hts (cg_V ck_317 ck_419 ck_420 ck_421 ck_35) rfl rfl rfl (by decide +kernel) ⟨Nat.le_of_ble_eq_true rfl, Nat.le_of_ble_eq_true rfl⟩) rfl (Nat.le_of_ble_eq_true rfl) dX10_comeHere_69 ⟨Nat.le_refl _, Nat.le_refl _⟩) (fun _ => wback [2, 0, 1, 3] rfl rfl) (fun H locs _ _ X => ?_)
        refine lv_pop hx hb dX10_comeHere_72 rfl ?_
        exact cfin_V ((if zgall (zbelM F (zans τ (znx yz) yl yw)) 5 = 0 then F else zset 5 (zbelM F (zans τ (znx yz) yl yw)), zbelM F (zans τ (znx yz) yl yw), znx yz, ym + (τ.1 13), ya + 1)) (by first | exact kcome_y k4 (by omega) hM c_4 c_18 (khear hT hM hl8 (by omega) (by omega)).1 (khear hT hM hl8 (by omega) (by omega)).2 | exact kcome_y k4 (by omega) hM c_4 c_18 (kbel k4 hM (show yl = τ.1 28 by omega)).1 (kbel k4 hM (show yl = τ.1 28 by omega)).2) (rfl) X dX10_comeHere_73 fin
    ·
      exact cfin_V ((F, K, yz, ym, ya)) (by first | exact kcome_n k4 hM (Or.inl c_4) | exact kcome_n k4 hM (Or.inr c_18)) (rfl) X dX10_comeHere_21 fin
set_option maxHeartbeats 4000000 in
set_option maxRecDepth 100000 in
theorem k10_stepOn {E : (Nat → Prop) → State → Heap → Prop} (hE : cEok E) {l : Launch} {D : va_G} {Z : Nat → ClassId} {wo vq ru k f yw yz yp yl ym yr ya yg : Nat} {La : LA} {τ : MS} {ta : Nat × Nat × Nat} {F K v : Nat → Nat} (hT : tOk τ) (hw : yw < τ.1 4) (hl8 : yl < 8) (hM : zM (τ.1 4) F) : dtV E l D Z yX10_stepOn (Cond.code yX10_stepOn cX10_stepOn 3 none :: cW) { frames := 2, cells := 0, slots := 0, locals := 46 } [.ref wo] (wcat [wkP Z (wo, La.1, ta.1, vq) ru yw yz yp yl ym yr ya yg v, landP Z La τ, thP Z ta F K, ruP ru k f]) (S := (Nat → Nat) × Nat × Nat × Nat) (fun u => wcat [wkP Z (wo, La.1, ta.1, vq) ru yw yz yp u.2.1 u.2.2.1 yr ya u.2.2.2 v, landP Z La τ, thP Z ta F u.1, ruP ru k f]) (fun u => kstep τ yw yl F ym yg u) := by
  refine dtV_of hE (cc := cX10_stepOn) (maxL := 3) (by decide +kernel) (fun w h => List.mem_cons_of_mem _ h) (Nat.le_of_ble_eq_true rfl) ?_
  intro p e s m args below meth c A Q ls hx hb hml hown hts G X hl fin
  replace hl : lv_has ls 3 [(0, .ref wo)] := hl
  obtain ⟨hok, hpl, hod, hrows, hnx, hsh6, hgl8⟩ := id hT
  obtain ⟨k0, k4, k8, kr, kw, ks, kmet, kmt, k12, k13⟩ := id hok
  have hbe := zbest_ext (g := F) k4 hM.2
  have hbl := zbest_lt F (τ.1 4) (by omega)
  have hwb := kw _ hbl
  have hF63 : ∀ w, w < 5 → F w < 9223372036854775808 := fun w hw => Nat.lt_of_le_of_lt (hM.1 w hw) (by decide)
  have hsh31 : ∀ w, w < 5 → τ.2 7 w < 2147483648 := fun w hw => Nat.lt_trans (hsh6 w hw) (by decide)
  have hgl32 : ∀ w, w < 5 → τ.2 6 w < 4294967296 := fun w hw => Nat.lt_trans (hgl8 w hw) (by decide)
  have hzr := znr_lt (w := zbest F (τ.1 4)) (c := yl) hok
  have hnx9 := hnx (zbest F (τ.1 4)) yl hbl hl8
  refine lv_aload_n hx hb dX10_stepOn_0 rfl (lv_at hl 0 rfl) ?_
  refine cg_10 G X 0 0 rfl rfl 1 (by decide) (G.2.2.2.1 _ ck_344) rfl rfl dX10_stepOn_1 ?_
  refine dtI_go (w := wcat [thP Z ta F K]) (wf := wcat [wkP Z (wo, La.1, ta.1, vq) ru yw yz yp yl ym yr ya yg v, landP Z La τ, ruP ru k f]) (W1 := fun _ => wcat [wkP Z (wo, La.1, ta.1, vq) ru yw yz yp yl ym yr ya yg v, landP Z La τ, thP Z ta F K, ruP ru k f]) G X (wsel [2, 0, 1, 3] rfl rfl) (run_V (As := []) (rest := []) (n := 0) G hml hts hl.1 (p_recv G X 2 0 rfl rfl rfl) (k8_likeliest hE hF63 _) (cwV 0 hts (cg_V ck_26 ck_454 ck_33 ck_34 ck_35) rfl rfl rfl (by decide +kernel) ⟨Nat.le_of_ble_eq_true rfl, Nat.le_of_ble_eq_true rfl⟩) rfl (Nat.le_of_ble_eq_true rfl) dX10_stepOn_4 ⟨Nat.le_refl _, Nat.le_refl _⟩) (fun _ => wback [2, 0, 1, 3] rfl rfl) (fun H locs _ _ X => ?_)
  refine gi_eq (a := zbest F (τ.1 4)) hbe ?_
  refine lv_istore_n (lv' := [(1, .int (nI (zbest F (τ.1 4)))), (0, .ref wo)]) hx hb dX10_stepOn_7 rfl hl (by decide) rfl (fun ls hl => ?_)
  refine lv_aload_n hx hb dX10_stepOn_8 rfl (lv_at hl 1 rfl) ?_
  refine cg_10 G X 0 0 rfl rfl 0 (by decide) (G.2.2.2.1 _ ck_341) rfl rfl dX10_stepOn_9 ?_
  refine cg_2 G X 1 0 rfl rfl 15 (by decide) (G.2.2.2.1 _ ck_452) rfl rfl dX10_stepOn_12 ?_
  refine lv_iload_n hx hb dX10_stepOn_15 rfl (lv_at hl 0 rfl) ?_
  refine cr_aald G X 1 12 rfl rfl (by omega) (by decide) (if_pos (by omega)) dX10_stepOn_16 ?_
  refine lv_aload_n hx hb dX10_stepOn_17 rfl (lv_at hl 1 rfl) ?_
  refine cg_10 G X 0 0 rfl rfl 7 (by decide) (G.2.2.2.1 _ ck_356) rfl rfl dX10_stepOn_18 ?_
  refine cr_iald G X 1 (zbest F (τ.1 4) + 27) rfl (landP_r15 (by omega)) (by omega) (by decide) dX10_stepOn_21 ?_
  refine gi_eq (a := (τ.2 60 (8 * (zbest F (τ.1 4)) + yl))) (zrow_in (by omega)) ?_
  refine gi_eq (a := (znr τ (zbest F (τ.1 4)) yl)) (hnx9) ?_
  refine lv_istore_n (lv' := [(2, .int (nI (znr τ (zbest F (τ.1 4)) yl))), (1, .int (nI (zbest F (τ.1 4)))), (0, .ref wo)]) hx hb dX10_stepOn_22 rfl hl (by decide) rfl (fun ls hl => ?_)
  refine lv_aload_n hx hb dX10_stepOn_23 rfl (lv_at hl 2 rfl) ?_
  refine cg_10 G X 0 0 rfl rfl 0 (by decide) (G.2.2.2.1 _ ck_341) rfl rfl dX10_stepOn_24 ?_
  refine cg_2 G X 1 0 rfl rfl 6 (by decide) (G.2.2.2.1 _ ck_370) rfl rfl dX10_stepOn_27 ?_
  refine lv_iload_n hx hb dX10_stepOn_30 rfl (lv_at hl 1 rfl) ?_
  refine cr_iald G X 1 5 rfl rfl (by omega) (by decide) dX10_stepOn_31 ?_
  refine gi_eq (a := (τ.2 6 (zbest F (τ.1 4)))) (zcl_in (by omega)) ?_
  refine lv_aload_n hx hb dX10_stepOn_32 rfl (lv_at hl 2 rfl) ?_
  refine cg_10 G X 0 0 rfl rfl 7 (by decide) (G.2.2.2.1 _ ck_356) rfl rfl dX10_stepOn_33 ?_
  refine gn_icmp_ne (tgt := 57) hx hb dX10_stepOn_36 (by decide) (by omega) (by omega) (fun c_36 => ?_) (fun c_36 => ?_)
  ·
    refine lv_aload_n hx hb dX10_stepOn_57 rfl (lv_at hl 2 rfl) ?_
    refine cg_10 G X 0 0 rfl rfl 0 (by decide) (G.2.2.2.1 _ ck_341) rfl rfl dX10_stepOn_58 ?_
    refine lv_iload_n hx hb dX10_stepOn_61 rfl (lv_at hl 0 rfl) ?_
    refine dtI_go (w := wcat [landP Z La τ]) (wf := wcat [wkP Z (wo, La.1, ta.1, vq) ru yw yz yp yl ym yr ya yg v, thP Z ta F K, ruP ru k f]) (W1 := fun _ => wcat [wkP Z (wo, La.1, ta.1, vq) ru yw yz yp yl ym yr ya yg v, landP Z La τ, thP Z ta F K, ruP ru k f]) G X (wsel [1, 0, 2, 3] rfl rfl) (run_V (As := [.int (nI (znr τ (zbest F (τ.1 4)) yl))]) (rest := []) (n := 1) G hml hts hl.1 (p_recv G X 1 0 rfl rfl rfl) (k2_hasRoad hE (nI (znr τ (zbest F (τ.1 4)) yl)) hok _) (cwV 1 hts (cg_V ck_71 ck_458 ck_459 ck_460 ck_79) rfl rfl rfl (by decide +kernel) ⟨Nat.le_of_ble_eq_true rfl, Nat.le_of_ble_eq_true rfl⟩) rfl (Nat.le_of_ble_eq_true rfl) dX10_stepOn_62 ⟨Nat.le_refl _, Nat.le_refl _⟩) (fun _ => wback [1, 0, 2, 3] rfl rfl) (fun H locs _ _ X => ?_)
    have hir : zir (nI (znr τ (zbest F (τ.1 4)) yl)) (τ.1 0) ↔ znr τ (zbest F (τ.1 4)) yl < τ.1 0 := by rcases hzr with h9 | h9; exact zir_n (by omega); rw [h9]; exact ⟨fun h => absurd h zir_m1, fun h => by omega⟩
    refine gb_if_ne (tgt := 79) hx hb dX10_stepOn_65 (by decide) (fun c_65 => ?_) (fun c_65 => ?_)
    ·
      have hrd := hir.mp c_65
      obtain ⟨hy1, hy2, hy3⟩ := znr_yes hok c_36 hrd
      refine lv_aload_n hx hb dX10_stepOn_79 rfl (lv_at hl 2 rfl) ?_
      refine cg_10 G X 0 0 rfl rfl 0 (by decide) (G.2.2.2.1 _ ck_341) rfl rfl dX10_stepOn_80 ?_
      refine lv_aload_n hx hb dX10_stepOn_83 rfl (lv_at hl 2 rfl) ?_
      refine cg_10 G X 0 0 rfl rfl 4 (by decide) (G.2.2.2.1 _ ck_355) rfl rfl dX10_stepOn_84 ?_
      refine lv_iload_n hx hb dX10_stepOn_87 rfl (lv_at hl 0 rfl) ?_
      refine dtI_go (w := wcat [landP Z La τ]) (wf := wcat [wkP Z (wo, La.1, ta.1, vq) ru yw yz yp yl ym yr ya yg v, thP Z ta F K, ruP ru k f]) (W1 := fun _ => wcat [wkP Z (wo, La.1, ta.1, vq) ru yw yz yp yl ym yr ya yg v, landP Z La τ, thP Z ta F K, ruP ru k f]) G X (wsel [1, 0, 2, 3] rfl rfl) (run_V (As := [.int (nI yw), .int (nI (znr τ (zbest F (τ.1 4)) yl))]) (rest := []) (n := 2) G hml hts hl.1 (p_recv G X 1 0 rfl rfl rfl) (k2_isShut hE yw (znr τ (zbest F (τ.1 4)) yl) (by omega) (by omega) (hsh31 _ (by omega)) _) (cwV 2 hts (cg_V ck_105 ck_464 ck_114 ck_115 ck_79) rfl rfl rfl (by decide +kernel) ⟨Nat.le_of_ble_eq_true rfl, Nat.le_of_ble_eq_true rfl⟩) rfl (Nat.le_of_ble_eq_true rfl) dX10_stepOn_88 ⟨Nat.le_refl _, Nat.le_refl _⟩) (fun _ => wback [1, 0, 2, 3] rfl rfl) (fun H locs _ _ X => ?_)
      refine gb_if_eq (tgt := 110) hx hb dX10_stepOn_91 (by decide) (fun c_91 => ?_) (fun c_91 => ?_)
      ·
        refine lv_aload_n hx hb dX10_stepOn_110 rfl (lv_at hl 2 rfl) ?_
        refine lv_dup hx hb dX10_stepOn_111 rfl ?_
        refine cg_10 G X 0 0 rfl rfl 8 (by decide) (G.2.2.2.1 _ ck_357) rfl rfl dX10_stepOn_112 ?_
        refine lv_aload_n hx hb dX10_stepOn_115 rfl (lv_at hl 2 rfl) ?_
        refine cg_10 G X 0 0 rfl rfl 0 (by decide) (G.2.2.2.1 _ ck_341) rfl rfl dX10_stepOn_116 ?_
        refine cg_2 G X 1 0 rfl rfl 3 (by decide) (G.2.2.2.1 _ ck_453) rfl rfl dX10_stepOn_119 ?_
        refine lv_iload_n hx hb dX10_stepOn_122 rfl (lv_at hl 0 rfl) ?_
        refine cr_iald G X 1 3 rfl rfl (by omega) (by decide) dX10_stepOn_123 ?_
        refine gi_eq (a := (τ.2 3 (znr τ (zbest F (τ.1 4)) yl))) (zcl_in (by omega)) ?_
        refine gn_iadd hx hb dX10_stepOn_124  ?_
        refine cp_10 (ps' := [wkP Z (wo, La.1, ta.1, vq) ru yw yz yp yl (ym + (τ.2 3 (znr τ (zbest F (τ.1 4)) yl))) yr ya yg v, landP Z La τ, thP Z ta F K, ruP ru k f]) G X 0 0 rfl rfl 8 (by decide) (G.2.2.2.1 _ ck_357) rfl rfl (ty := .int) (by decide +kernel) rfl rfl (Nat.le_of_ble_eq_true rfl) rfl dX10_stepOn_125 (fun H locs X => ?_)
        refine lv_aload_n hx hb dX10_stepOn_128 rfl (lv_at hl 2 rfl) ?_
        refine lv_dup hx hb dX10_stepOn_129 rfl ?_
        refine cg_10 G X 0 0 rfl rfl 11 (by decide) (G.2.2.2.1 _ ck_359) rfl rfl dX10_stepOn_130 ?_
        refine lv_iconst (v := nI 1) hx hb dX10_stepOn_133 (by decide) ?_
        refine gn_iadd hx hb dX10_stepOn_134  ?_
        refine cp_10 (ps' := [wkP Z (wo, La.1, ta.1, vq) ru yw yz yp yl (ym + (τ.2 3 (znr τ (zbest F (τ.1 4)) yl))) yr ya (yg + 1) v, landP Z La τ, thP Z ta F K, ruP ru k f]) G X 0 0 rfl rfl 11 (by decide) (G.2.2.2.1 _ ck_359) rfl rfl (ty := .int) (by decide +kernel) rfl rfl (Nat.le_of_ble_eq_true rfl) rfl dX10_stepOn_135 (fun H locs X => ?_)
        refine lv_aload_n hx hb dX10_stepOn_138 rfl (lv_at hl 2 rfl) ?_
        refine lv_aload_n hx hb dX10_stepOn_139 rfl (lv_at hl 2 rfl) ?_
        refine cg_10 G X 0 0 rfl rfl 0 (by decide) (G.2.2.2.1 _ ck_341) rfl rfl dX10_stepOn_140 ?_
        refine lv_iload_n hx hb dX10_stepOn_143 rfl (lv_at hl 0 rfl) ?_
        refine lv_aload_n hx hb dX10_stepOn_144 rfl (lv_at hl 2 rfl) ?_
        refine cg_10 G X 0 0 rfl rfl 7 (by decide) (G.2.2.2.1 _ ck_356) rfl rfl dX10_stepOn_145 ?_
        refine dtI_go (w := wcat [landP Z La τ]) (wf := wcat [wkP Z (wo, La.1, ta.1, vq) ru yw yz yp yl (ym + (τ.2 3 (znr τ (zbest F (τ.1 4)) yl))) yr ya (yg + 1) v, thP Z ta F K, ruP ru k f]) (W1 := fun _ => wcat [wkP Z (wo, La.1, ta.1, vq) ru yw yz yp yl (ym + (τ.2 3 (znr τ (zbest F (τ.1 4)) yl))) yr ya (yg + 1) v, landP Z La τ, thP Z ta F K, ruP ru k f]) G X (wsel [1, 0, 2, 3] rfl rfl) (run_V (As := [.int (nI (znr τ (zbest F (τ.1 4)) yl)), .int (nI yl)]) (rest := [.ref wo]) (n := 2) G hml hts hl.1 (p_recv G X 1 0 rfl rfl rfl) (k2_otherEnd hE (znr τ (zbest F (τ.1 4)) yl) yl (by omega) (by have := (kr _ hrd).1; omega) (by omega) _) (cwV 2 hts (cg_V ck_106 ck_468 ck_120 ck_121 ck_79) rfl rfl rfl (by decide +kernel) ⟨Nat.le_of_ble_eq_true rfl, Nat.le_of_ble_eq_true rfl⟩) rfl (Nat.le_of_ble_eq_true rfl) dX10_stepOn_148 ⟨Nat.le_refl _, Nat.le_refl _⟩) (fun _ => wback [1, 0, 2, 3] rfl rfl) (fun H locs _ _ X => ?_)
        refine cp_10 (ps' := [wkP Z (wo, La.1, ta.1, vq) ru yw yz yp (if τ.2 1 (znr τ (zbest F (τ.1 4)) yl) = yl then τ.2 2 (znr τ (zbest F (τ.1 4)) yl) else τ.2 1 (znr τ (zbest F (τ.1 4)) yl)) (ym + (τ.2 3 (znr τ (zbest F (τ.1 4)) yl))) yr ya (yg + 1) v, landP Z La τ, thP Z ta F K, ruP ru k f]) G X 0 0 rfl rfl 7 (by decide) (G.2.2.2.1 _ ck_356) rfl rfl (ty := .int) (by decide +kernel) rfl rfl (Nat.le_of_ble_eq_true rfl) rfl dX10_stepOn_151 (fun H locs X => ?_)
        refine lv_aload_n hx hb dX10_stepOn_154 rfl (lv_at hl 2 rfl) ?_
        refine cg_10 G X 0 0 rfl rfl 1 (by decide) (G.2.2.2.1 _ ck_344) rfl rfl dX10_stepOn_155 ?_
        refine lv_aload_n hx hb dX10_stepOn_158 rfl (lv_at hl 2 rfl) ?_
        refine cg_10 G X 0 0 rfl rfl 0 (by decide) (G.2.2.2.1 _ ck_341) rfl rfl dX10_stepOn_159 ?_
        refine lv_iload_n hx hb dX10_stepOn_162 rfl (lv_at hl 0 rfl) ?_
        refine lv_iconst (v := nI 1) hx hb dX10_stepOn_163 (by decide) ?_
        refine dtV_go (w := wcat [thP Z ta F K, landP Z La τ]) (wf := wcat [wkP Z (wo, La.1, ta.1, vq) ru yw yz yp (if τ.2 1 (znr τ (zbest F (τ.1 4)) yl) = yl then τ.2 2 (znr τ (zbest F (τ.1 4)) yl) else τ.2 1 (znr τ (zbest F (τ.1 4)) yl)) (ym + (τ.2 3 (znr τ (zbest F (τ.1 4)) yl))) yr ya (yg + 1) v, ruP ru k f]) (W1 := fun _ => wcat [wkP Z (wo, La.1, ta.1, vq) ru yw yz yp (if τ.2 1 (znr τ (zbest F (τ.1 4)) yl) = yl then τ.2 2 (znr τ (zbest F (τ.1 4)) yl) else τ.2 1 (znr τ (zbest F (τ.1 4)) yl)) (ym + (τ.2 3 (znr τ (zbest F (τ.1 4)) yl))) yr ya (yg + 1) v, landP Z La τ, thP Z ta F (zseeM τ F (znr τ (zbest F (τ.1 4)) yl) 1), ruP ru k f]) G X (wsel [2, 1, 0, 3] rfl rfl) (run_V (As := [.ref La.1, .int (nI (znr τ (zbest F (τ.1 4)) yl)), .int (nI 1)]) (rest := []) (n := 3) G hml hts hl.1 (p_recv G X 2 0 rfl rfl rfl) (k8_findRoad hE (znr τ (zbest F (τ.1 4)) yl) 1 hsh31 (by omega) (by omega) _) (cwV 3 hts (cg_V ck_308 ck_465 ck_466 ck_467 ck_35) rfl rfl rfl (by decide +kernel) ⟨Nat.le_of_ble_eq_true rfl, Nat.le_of_ble_eq_true rfl⟩) rfl (Nat.le_of_ble_eq_true rfl) dX10_stepOn_164 ⟨Nat.le_refl _, Nat.le_refl _⟩) (fun _ => wback [2, 1, 0, 3] rfl rfl) (fun H locs _ _ X => ?_)
        exact cfin_V ((zseeM τ F (znr τ (zbest F (τ.1 4)) yl) 1, if τ.2 1 (znr τ (zbest F (τ.1 4)) yl) = yl then τ.2 2 (znr τ (zbest F (τ.1 4)) yl) else τ.2 1 (znr τ (zbest F (τ.1 4)) yl), ym + (τ.2 3 (znr τ (zbest F (τ.1 4)) yl)), yg + 1)) (by first | exact kstep_1 hM rfl c_36 | exact kstep_2 hM rfl c_36 hno | exact kstep_3 hM rfl c_36 hy1 hy2 c_91 | exact kstep_4 hM rfl c_36 hy1 hy2 c_91) (rfl) X dX10_stepOn_167 fin
      ·
        refine lv_aload_n hx hb dX10_stepOn_94 rfl (lv_at hl 2 rfl) ?_
        refine cg_10 G X 0 0 rfl rfl 1 (by decide) (G.2.2.2.1 _ ck_344) rfl rfl dX10_stepOn_95 ?_
        refine lv_aload_n hx hb dX10_stepOn_98 rfl (lv_at hl 2 rfl) ?_
        refine cg_10 G X 0 0 rfl rfl 0 (by decide) (G.2.2.2.1 _ ck_341) rfl rfl dX10_stepOn_99 ?_
        refine lv_iload_n hx hb dX10_stepOn_102 rfl (lv_at hl 0 rfl) ?_
        refine lv_iconst (v := nI 0) hx hb dX10_stepOn_103 (by decide) ?_
        refine dtV_go (w := wcat [thP Z ta F K, landP Z La τ]) (wf := wcat [wkP Z (wo, La.1, ta.1, vq) ru yw yz yp yl ym yr ya yg v, ruP ru k f]) (W1 := fun _ => wcat [wkP Z (wo, La.1, ta.1, vq) ru yw yz yp yl ym yr ya yg v, landP Z La τ, thP Z ta F (zseeM τ F (znr τ (zbest F (τ.1 4)) yl) 0), ruP ru k f]) G X (wsel [2, 1, 0, 3] rfl rfl) (run_V (As := [.ref La.1, .int (nI (znr τ (zbest F (τ.1 4)) yl)), .int (nI 0)]) (rest := []) (n := 3) G hml hts hl.1 (p_recv G X 2 0 rfl rfl rfl) (k8_findRoad hE (znr τ (zbest F (τ.1 4)) yl) 0 hsh31 (by omega) (by omega) _) (cwV 3 hts (cg_V ck_308 ck_465 ck_466 ck_467 ck_35) rfl rfl rfl (by decide +kernel) ⟨Nat.le_of_ble_eq_true rfl, Nat.le_of_ble_eq_true rfl⟩) rfl (Nat.le_of_ble_eq_true rfl) dX10_stepOn_104 ⟨Nat.le_refl _, Nat.le_refl _⟩) (fun _ => wback [2, 1, 0, 3] rfl rfl) (fun H locs _ _ X => ?_)
        refine lv_goto (tgt := 167) hx hb dX10_stepOn_107 (by decide) ?_
        exact cfin_V ((zseeM τ F (znr τ (zbest F (τ.1 4)) yl) 0, yl, ym, yg)) (by first | exact kstep_1 hM rfl c_36 | exact kstep_2 hM rfl c_36 hno | exact kstep_3 hM rfl c_36 hy1 hy2 c_91 | exact kstep_4 hM rfl c_36 hy1 hy2 c_91) (rfl) X dX10_stepOn_167 fin
    ·
      have hno := znr_no hok c_36 (fun h => c_65 (hir.mpr h))
      refine lv_aload_n hx hb dX10_stepOn_68 rfl (lv_at hl 2 rfl) ?_
      refine cg_10 G X 0 0 rfl rfl 1 (by decide) (G.2.2.2.1 _ ck_344) rfl rfl dX10_stepOn_69 ?_
      refine lv_iload_n hx hb dX10_stepOn_72 rfl (lv_at hl 1 rfl) ?_
      refine dtV_go (w := wcat [thP Z ta F K]) (wf := wcat [wkP Z (wo, La.1, ta.1, vq) ru yw yz yp yl ym yr ya yg v, landP Z La τ, ruP ru k f]) (W1 := fun _ => wcat [wkP Z (wo, La.1, ta.1, vq) ru yw yz yp yl ym yr ya yg v, landP Z La τ, thP Z ta F (zgiv F (zbest F (τ.1 4))), ruP ru k f]) G X (wsel [2, 0, 1, 3] rfl rfl) (run_V (As := [.int (nI (zbest F (τ.1 4)))]) (rest := []) (n := 1) G hml hts hl.1 (p_recv G X 2 0 rfl rfl rfl) (k8_giveUp hE (zbest F (τ.1 4)) (by omega) _) (cwV 1 hts (cg_V ck_312 ck_461 ck_462 ck_463 ck_35) rfl rfl rfl (by decide +kernel) ⟨Nat.le_of_ble_eq_true rfl, Nat.le_of_ble_eq_true rfl⟩) rfl (Nat.le_of_ble_eq_true rfl) dX10_stepOn_73 ⟨Nat.le_refl _, Nat.le_refl _⟩) (fun _ => wback [2, 0, 1, 3] rfl rfl) (fun H locs _ _ X => ?_)
      refine lv_goto (tgt := 167) hx hb dX10_stepOn_76 (by decide) ?_
      exact cfin_V ((zgiv F (zbest F (τ.1 4)), yl, ym, yg)) (by first | exact kstep_1 hM rfl c_36 | exact kstep_2 hM rfl c_36 hno | exact kstep_3 hM rfl c_36 hy1 hy2 c_91 | exact kstep_4 hM rfl c_36 hy1 hy2 c_91) (rfl) X dX10_stepOn_167 fin
  ·
    refine lv_aload_n hx hb dX10_stepOn_39 rfl (lv_at hl 2 rfl) ?_
    refine cg_10 G X 0 0 rfl rfl 1 (by decide) (G.2.2.2.1 _ ck_344) rfl rfl dX10_stepOn_40 ?_
    refine lv_aload_n hx hb dX10_stepOn_43 rfl (lv_at hl 2 rfl) ?_
    refine cg_10 G X 0 0 rfl rfl 0 (by decide) (G.2.2.2.1 _ ck_341) rfl rfl dX10_stepOn_44 ?_
    refine lv_aload_n hx hb dX10_stepOn_47 rfl (lv_at hl 2 rfl) ?_
    refine cg_10 G X 0 0 rfl rfl 7 (by decide) (G.2.2.2.1 _ ck_356) rfl rfl dX10_stepOn_48 ?_
    refine dtV_go (w := wcat [thP Z ta F K, landP Z La τ]) (wf := wcat [wkP Z (wo, La.1, ta.1, vq) ru yw yz yp yl ym yr ya yg v, ruP ru k f]) (W1 := fun _ => wcat [wkP Z (wo, La.1, ta.1, vq) ru yw yz yp yl ym yr ya yg v, landP Z La τ, thP Z ta F (znog τ F yl), ruP ru k f]) G X (wsel [2, 1, 0, 3] rfl rfl) (run_V (As := [.ref La.1, .int (nI yl)]) (rest := []) (n := 2) G hml hts hl.1 (p_recv G X 2 0 rfl rfl rfl) (k8_findNoGoal hE yl hgl32 (by omega) _) (cwV 2 hts (cg_V ck_310 ck_455 ck_456 ck_457 ck_35) rfl rfl rfl (by decide +kernel) ⟨Nat.le_of_ble_eq_true rfl, Nat.le_of_ble_eq_true rfl⟩) rfl (Nat.le_of_ble_eq_true rfl) dX10_stepOn_51 ⟨Nat.le_refl _, Nat.le_refl _⟩) (fun _ => wback [2, 1, 0, 3] rfl rfl) (fun H locs _ _ X => ?_)
    refine lv_goto (tgt := 167) hx hb dX10_stepOn_54 (by decide) ?_
    exact cfin_V ((znog τ F yl, yl, ym, yg)) (by first | exact kstep_1 hM rfl c_36 | exact kstep_2 hM rfl c_36 hno | exact kstep_3 hM rfl c_36 hy1 hy2 c_91 | exact kstep_4 hM rfl c_36 hy1 hy2 c_91) (rfl) X dX10_stepOn_167 fin
set_option maxHeartbeats 4000000 in
set_option maxRecDepth 100000 in
theorem k10_beginsAgain {E : (Nat → Prop) → State → Heap → Prop} (hE : cEok E) {l : Launch} {D : va_G} {Z : Nat → ClassId} {wo vq ru k f yw yz yp yl ym yr ya yg : Nat} {La : LA} {τ : MS} {ta : Nat × Nat × Nat} {F K v : Nat → Nat} (hok : mOk τ) (hk6 : k < 6) (hr2 : yr < 2) : dtI E l D Z yX10_beginsAgain (Cond.code yX10_beginsAgain cX10_beginsAgain 1 (some .boolean) :: cW) { frames := 2, cells := 0, slots := 0, locals := 43 } [.ref wo] (wcat [wkP Z (wo, La.1, ta.1, vq) ru yw yz yp yl ym yr ya yg v, landP Z La τ, thP Z ta F K, ruP ru k f]) (S := Unit) (fun _ => wcat [wkP Z (wo, La.1, ta.1, vq) ru yw yz yp yl ym (if yr = 0 ∧ zsec k then 1 else yr) ya yg v, landP Z La τ, thP Z ta (if yr = 0 ∧ zsec k then zch5 τ else F) K, ruP ru k f]) (fun _ => if yr = 0 ∧ zsec k then 1 else 0) (fun _ => True) := by
  refine dtZ_of hE (cc := cX10_beginsAgain) (maxL := 1) (hnar := fun _ _ => zb_ite) (by decide +kernel) (fun w h => List.mem_cons_of_mem _ h) (Nat.le_of_ble_eq_true rfl) ?_
  intro p e s m args below meth c A Q ls hx hb hml hown hts G X hl fin
  replace hl : lv_has ls 1 [(0, .ref wo)] := hl
  refine lv_aload_n hx hb dX10_beginsAgain_0 rfl (lv_at hl 0 rfl) ?_
  refine cg_10 G X 0 0 rfl rfl 9 (by decide) (G.2.2.2.1 _ ck_360) rfl rfl dX10_beginsAgain_1 ?_
  refine gn_if_ne (tgt := 17) hx hb dX10_beginsAgain_4 (by decide) (by omega) (fun c_4 => ?_) (fun c_4 => ?_)
  ·
    refine lv_iconst (v := nI 0) hx hb dX10_beginsAgain_17 (by decide) ?_
    exact cfin_I (()) (trivial) (by rw [if_neg (by first | (intro h; omega) | exact fun h => c_14 h.2), if_neg (by first | (intro h; omega) | exact fun h => c_14 h.2)]) (zb_f (by first | (intro h; omega) | exact fun h => c_14 h.2)) X dX10_beginsAgain_18 fin
  ·
    refine lv_aload_n hx hb dX10_beginsAgain_7 rfl (lv_at hl 0 rfl) ?_
    refine cg_10 G X 0 0 rfl rfl 3 (by decide) (G.2.2.2.1 _ ck_348) rfl rfl dX10_beginsAgain_8 ?_
    refine dtI_go (w := wcat [ruP ru k f]) (wf := wcat [wkP Z (wo, La.1, ta.1, vq) ru yw yz yp yl ym yr ya yg v, landP Z La τ, thP Z ta F K]) (W1 := fun _ => wcat [wkP Z (wo, La.1, ta.1, vq) ru yw yz yp yl ym yr ya yg v, landP Z La τ, thP Z ta F K, ruP ru k f]) G X (wsel [3, 0, 1, 2] rfl rfl) (fun X => vr_10_hasSecondThoughts hE G hml hts hl.1 hk6  (Nat.le_of_ble_eq_true rfl) dX10_beginsAgain_11 ⟨Nat.le_refl _, Nat.le_refl _⟩ ⟨Nat.le_of_ble_eq_true rfl, Nat.le_of_ble_eq_true rfl⟩ X) (fun _ => wback [3, 0, 1, 2] rfl rfl) (fun H locs _ _ X => ?_)
    refine gb_if_ne (tgt := 19) hx hb dX10_beginsAgain_14 (by decide) (fun c_14 => ?_) (fun c_14 => ?_)
    ·
      refine lv_aload_n hx hb dX10_beginsAgain_19 rfl (lv_at hl 0 rfl) ?_
      refine lv_iconst (v := nI 1) hx hb dX10_beginsAgain_20 (by decide) ?_
      refine cp_10 (ps' := [wkP Z (wo, La.1, ta.1, vq) ru yw yz yp yl ym 1 ya yg v, landP Z La τ, thP Z ta F K, ruP ru k f]) G X 0 0 rfl rfl 9 (by decide) (G.2.2.2.1 _ ck_360) rfl rfl (ty := .boolean) (by decide +kernel) (zb_nar (by omega)) (zb_fit (by omega)) (Nat.le_of_ble_eq_true rfl) rfl dX10_beginsAgain_21 (fun H locs X => ?_)
      refine lv_aload_n hx hb dX10_beginsAgain_24 rfl (lv_at hl 0 rfl) ?_
      refine cg_10 G X 0 0 rfl rfl 1 (by decide) (G.2.2.2.1 _ ck_344) rfl rfl dX10_beginsAgain_25 ?_
      refine lv_aload_n hx hb dX10_beginsAgain_28 rfl (lv_at hl 0 rfl) ?_
      refine cg_10 G X 0 0 rfl rfl 0 (by decide) (G.2.2.2.1 _ ck_341) rfl rfl dX10_beginsAgain_29 ?_
      refine dtV_go (w := wcat [thP Z ta F K, landP Z La τ]) (wf := wcat [wkP Z (wo, La.1, ta.1, vq) ru yw yz yp yl ym 1 ya yg v, ruP ru k f]) (W1 := fun _ => wcat [wkP Z (wo, La.1, ta.1, vq) ru yw yz yp yl ym 1 ya yg v, landP Z La τ, thP Z ta (zch5 τ) K, ruP ru k f]) G X (wsel [2, 1, 0, 3] rfl rfl) (run_V (As := [.ref La.1]) (rest := []) (n := 1) G hml hts hl.1 (p_recv G X 2 0 rfl rfl rfl) (k8_becomeChances hE hok _) (cwV 1 hts (cg_V ck_294 ck_424 ck_425 ck_426 ck_35) rfl rfl rfl (by decide +kernel) ⟨Nat.le_of_ble_eq_true rfl, Nat.le_of_ble_eq_true rfl⟩) rfl (Nat.le_of_ble_eq_true rfl) dX10_beginsAgain_32 ⟨Nat.le_refl _, Nat.le_refl _⟩) (fun _ => wback [2, 1, 0, 3] rfl rfl) (fun H locs _ _ X => ?_)
      refine lv_iconst (v := nI 1) hx hb dX10_beginsAgain_35 (by decide) ?_
      exact cfin_I (()) (trivial) (by rw [if_pos (show yr = 0 ∧ zsec k from ⟨by omega, c_14⟩), if_pos (show yr = 0 ∧ zsec k from ⟨by omega, c_14⟩)]) (zb_t ⟨by omega, c_14⟩) X dX10_beginsAgain_36 fin
    ·
      refine lv_iconst (v := nI 0) hx hb dX10_beginsAgain_17 (by decide) ?_
      exact cfin_I (()) (trivial) (by rw [if_neg (by first | (intro h; omega) | exact fun h => c_14 h.2), if_neg (by first | (intro h; omega) | exact fun h => c_14 h.2)]) (zb_f (by first | (intro h; omega) | exact fun h => c_14 h.2)) X dX10_beginsAgain_18 fin
