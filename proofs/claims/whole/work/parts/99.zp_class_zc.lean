set_option maxHeartbeats 4000000 in
theorem vrx_11_fail {p : Program} {l : Launch} {e : Env} {R : Room} {s : State} {m : MethodId} {args : Array Value} {below : List Frame} {meth : Method} {c : Code} {H : Heap} {locs : List Loc} {cells slots : Nat} {cc : ByteArray} {pc : Nat} {ls : Array Slot} {rest : List Value} {D : va_G} {A : Nat → Prop} {E : (Nat → Prop) → State → Heap → Prop} {Z : Nat → ClassId} {nL : Nat} {wf : va_W} {y0 : MethodName} {c0 : ByteArray} {m0 : Nat} {r0 : Option FieldType} {ru k f : Nat} (hE : cEok E) (G : cG E p c cc s m args D Z RX11 A) (hml : c.maxLocals = nL) (hts : ∀ w ∈ (Cond.code y0 c0 m0 r0 :: cW), w.before args s = true) (hl : ls.size = nL) (hk : k < 6) (hf9 : f < 100) (hC9 : cThr E) (hst9 : l.stackTraces = false) (hrs : (rest.map fun v => v.category).sum ≤ 8) (hdg : decode cc pc = .ok (.invokevirtual 342, 3)) (hf : cells + 1 ≤ R.cells ∧ slots + 6 ≤ R.slots) (hR : 7 ≤ R.frames ∧ 110 ≤ R.locals) (X : wH D vwCl A s.heap H locs ((wcat [ruP ru k f]) ++ wf)) :
    vx_Run p l e R s m args below meth c H locs cells slots 1 6 (F0 m pc ls (.ref ru :: rest)) rest (va_Qv (S := Unit) (fun _ => zfok k f) (fun _ t => dtB D (wcat [ruP ru k f]) H.size (wcat [ruP ru k f]) t) (va_A (wcat [ruP ru k f]) H.size) (Value.ref ru :: ([] : List Value)).toArray) (vx_X (S := Unit) (fun _ => ¬ zfok k f) (fun C _ t => C = zxn k ∧ dtB D (wcat [ruP ru k f]) H.size (wcat [ruP ru k f]) t) (va_A (wcat [ruP ru k f]) H.size)) (va_A (wcat [ruP ru k f]) H.size) := by
  have hR1 := hR.1
  have hR2 := hR.2
  have hrec : ∀ (n : Nat) (r : vw_C), ciR k = n → vwCl[n]? = some r → ∃ cell : Cell, H[ru]? = some cell ∧ cell.vm.isStatics = false ∧ s.vm.findClass r.1 = some cell.cls := fun n r h h2 => va_recv G.2.2.2.2.1 (fr_left X.1) h2 (q0 := wpos [ruP ru k f] 0 + 0) (wcat_at rfl (ru_one h))
  rcases (show k = 0 ∨ k = 1 ∨ k = 2 ∨ k = 3 ∨ k = 4 ∨ k = 5 by omega) with rfl | rfl | rfl | rfl | rfl | rfl
  · exact xun_V (As := []) (n := 0) (rm := _) G hml hts hl (hrec 6 _ rfl rfl) (k6_fail hE (by decide) hf9 hC9 hst9 _) (cwV 0 hts (cg_V ck_286 ck_749 ck_746 ck_750 ck_8) rfl rfl rfl (by decide +kernel) ⟨Nat.le_trans (by decide) hR1, Nat.le_trans (by decide) hR2⟩) rfl hrs hdg hf X
  · exact xun_U (As := []) (n := 0) (C := RX1) (owner := "AskNext$Rule") (x := ⟨"AskNext$Rule", "fail", "()V"⟩) G hml hts hl (hrec 1 _ rfl rfl) (k6_fail hE (by decide) hf9 hC9 hst9 _) (va_cwU 0 hts (cg_U ck_286 ck_740 ck_741 ck_745 ck_746 ck_8) rfl rfl rfl rfl (by decide +kernel) ⟨Nat.le_trans (by decide) hR1, Nat.le_trans (by decide) hR2⟩) rfl hrs hdg hf X
  · exact xun_U (As := []) (n := 0) (C := RX3) (owner := "AskNext$Rule") (x := ⟨"AskNext$Rule", "fail", "()V"⟩) G hml hts hl (hrec 3 _ rfl rfl) (k3_fail hE (by decide) hf9 hC9 hst9 _) (va_cwO 0 hts (cg_O ck_154 ck_740 ck_741 ck_742 ck_747 ck_748 ck_395) rfl rfl rfl (List.mem_cons_of_mem _ ck_286) (by decide +kernel) ⟨Nat.le_trans (by decide) hR1, Nat.le_trans (by decide) hR2⟩) rfl hrs hdg hf X
  · exact xun_U (As := []) (n := 0) (C := RX7) (owner := "AskNext$Rule") (x := ⟨"AskNext$Rule", "fail", "()V"⟩) G hml hts hl (hrec 7 _ rfl rfl) (k6_fail hE (by decide) hf9 hC9 hst9 _) (va_cwU 0 hts (cg_U ck_286 ck_740 ck_741 ck_751 ck_746 ck_8) rfl rfl rfl rfl (by decide +kernel) ⟨Nat.le_trans (by decide) hR1, Nat.le_trans (by decide) hR2⟩) rfl hrs hdg hf X
  · exact xun_U (As := []) (n := 0) (C := RX0) (owner := "AskNext$Rule") (x := ⟨"AskNext$Rule", "fail", "()V"⟩) G hml hts hl (hrec 0 _ rfl rfl) (k0_fail hE (by decide) hf9 hC9 hst9 _) (va_cwO 0 hts (cg_O ck_39 ck_740 ck_741 ck_742 ck_743 ck_744 ck_439) rfl rfl rfl (List.mem_cons_of_mem _ ck_286) (by decide +kernel) ⟨Nat.le_trans (by decide) hR1, Nat.le_trans (by decide) hR2⟩) rfl hrs hdg hf X
  · exact xun_U (As := []) (n := 0) (C := RX9) (owner := "AskNext$Rule") (x := ⟨"AskNext$Rule", "fail", "()V"⟩) G hml hts hl (hrec 9 _ rfl rfl) (k9_fail hE (by decide) hf9 hC9 hst9 _) (va_cwO 0 hts (cg_O ck_337 ck_740 ck_741 ck_742 ck_752 ck_753 ck_415) rfl rfl rfl (List.mem_cons_of_mem _ ck_286) (by decide +kernel) ⟨Nat.le_trans (by decide) hR1, Nat.le_trans (by decide) hR2⟩) rfl hrs hdg hf X
set_option maxHeartbeats 4000000 in
set_option maxRecDepth 100000 in
theorem k11_toss {E : (Nat → Prop) → State → Heap → Prop} (hE : cEok E) {l : Launch} {D : va_G} {Z : Nat → ClassId} {an : Nat × Nat × Nat} {x0 x1 x2 x3 x4 x5 x6 x7 x8 x9 hi : Nat} {sb sc : Nat → Nat} {ρ : MS} (xd : Int32) (hzs : zSh ρ) (hC9 : cThr E) (hst9 : l.stackTraces = false) : dtI E l D Z yX11_toss (Cond.codeWith yX11_toss cX11_toss 4 (some .int) [(16, 20, 23, 345), (16, 20, 32, 350), (16, 20, 42, 321)] :: cW) { frames := 7, cells := 1, slots := 6, locals := 110 } [.ref an.1, .int xd] (wcat [anP Z an x0 x1 x2 x3 x4 x5 x6 x7 x8 x9 hi sb (ρ.2 41), shOn (shF Z sb sc ρ) 8]) (S := Unit) (fun _ => wcat [anP Z an x0 x1 x2 x3 x4 x5 x6 x7 x8 x9 hi sb (ρ.2 41), shOn (shF Z sb sc ρ) 8]) (fun _ => ztossS ρ xd) (fun _ => True) := by
  refine dtW_of hE (cc := cX11_toss) (maxL := 4) (by decide +kernel) (fun w h => List.mem_cons_of_mem _ h) (Nat.le_of_ble_eq_true rfl) ?_
  intro p e s m args below meth c A Q ls htab hx hb hml hown hts G X hl fin
  replace hl : lv_has ls 4 [(0, .ref an.1), (1, .int xd)] := hl
  obtain ⟨zU9, zN9, ⟨w6, w3, w0, w318, w325⟩, ⟨⟨a6, hs6⟩, ⟨a3, hs3⟩, ⟨a0, hs0⟩, ⟨a316, hs316⟩, ⟨a323, hs323⟩⟩, hcc⟩ := hC9 _ _ _ G.2.2.2.2.2.2.1
  replace hts : ∀ w ∈ (Cond.code yX6_heaviness cX6_heaviness 1 (some .int) :: cW), w.before args s = true := fun w hw => (List.mem_cons.mp hw).elim (fun e9 => by rw [e9]; exact G.2.2.2.1 _ ck_13) (fun h9 => G.2.2.2.1 w h9)
  refine lv_aload_n hx hb dX11_toss_0 rfl (lv_at hl 0 rfl) ?_
  refine lv_iload_n hx hb dX11_toss_1 rfl (lv_at hl 1 rfl) ?_
  refine dtQ_go (w := wcat [anP Z an x0 x1 x2 x3 x4 x5 x6 x7 x8 x9 hi sb (ρ.2 41)]) (wf := wcat [shOn (shF Z sb sc ρ) 8]) (W1 := fun _ => wcat [anP Z an x0 x1 x2 x3 x4 x5 x6 x7 x8 x9 hi sb (ρ.2 41), shOn (shF Z sb sc ρ) 8]) G X (wsel [0, 1] rfl rfl) (run_V (As := [.int xd]) (rest := []) (n := 1) G hml hts hl.1 (p_recv G X 0 0 rfl rfl rfl) (k11_ruleOn hE xd _) (cwV 1 hts (cg_V ck_529 ck_531 ck_532 ck_533 ck_89) rfl rfl rfl (by decide +kernel) ⟨Nat.le_of_ble_eq_true rfl, Nat.le_of_ble_eq_true rfl⟩) rfl (Nat.le_of_ble_eq_true rfl) dX11_toss_2 ⟨Nat.le_of_ble_eq_true rfl, Nat.le_of_ble_eq_true rfl⟩) (fun _ => wback [0, 1] rfl rfl) (fun H locs _ _ X => ?_)
  by_cases q_2 : zir xd 8 ∧ (ρ.2 41) xd.toInt.toNat = 1
  · obtain ⟨jd, hjd, rfl⟩ := zir_of (by decide) q_2.1
    rw [nI_N (by omega)] at q_2
    refine gq_s (shQ_s hjd q_2.2) ?_
    replace q_2 := q_2.2
    replace X := sh_out (qs := [anP Z an x0 x1 x2 x3 x4 x5 x6 x7 x8 x9 hi sb (ρ.2 41)]) hjd (shF_1 (show ρ.2 41 jd = 1 from q_2)) X
    refine lv_astore_n (lv' := [(2, .ref (sb jd)), (0, .ref an.1), (1, .int (nI jd))]) hx hb dX11_toss_5 rfl hl (by decide) rfl (fun ls hl => ?_)
    refine lv_aload_n hx hb dX11_toss_6 rfl (lv_at hl 0 rfl) ?_
    refine lv_ifnonnull (tgt := 16) hx hb dX11_toss_7 (by decide) ?_
    refine lv_aload_n hx hb dX11_toss_16 rfl (lv_at hl 0 rfl) ?_
    refine dxV_go (mc := 1) (ms := 6) (W0 := wcat [anP Z an x0 x1 x2 x3 x4 x5 x6 x7 x8 x9 hi sb (ρ.2 41), ruP (sb jd) (ρ.2 42 jd) (ρ.2 43 jd), shOn (shNo (shF Z sb sc ρ) jd) 8]) (w := wcat [ruP (sb jd) (ρ.2 42 jd) (ρ.2 43 jd)]) (wf := wcat [anP Z an x0 x1 x2 x3 x4 x5 x6 x7 x8 x9 hi sb (ρ.2 41), shOn (shNo (shF Z sb sc ρ) jd) 8]) (ok := zfok (ρ.2 42 jd) (ρ.2 43 jd)) (xc := zxn (ρ.2 42 jd)) G X (wsel [1, 0, 2] rfl rfl) (vrx_11_fail (rest := []) (wf := wcat [anP Z an x0 x1 x2 x3 x4 x5 x6 x7 x8 x9 hi sb (ρ.2 41), shOn (shNo (shF Z sb sc ρ) jd) 8]) hE G hml hts hl.1 (hzs.2.1 jd hjd q_2).1 (hzs.2.1 jd hjd q_2).2 hC9 hst9 (Nat.le_of_ble_eq_true rfl) dX11_toss_17 ⟨Nat.le_of_ble_eq_true rfl, Nat.le_of_ble_eq_true rfl⟩ ⟨Nat.le_of_ble_eq_true rfl, Nat.le_of_ble_eq_true rfl⟩) (fun H locs ce q9 hno9 X hc9 hv9 hcl9 => ?_) (fun H locs hok9 X => ?_)
    · by_cases e2 : ρ.2 42 jd = 2
      · rw [zxn_2 e2] at hcl9
        refine vx_catch (own := RX11) G.2.2.1 [] ⟨16, 20, 23, 345⟩ [⟨16, 20, 32, 350⟩, ⟨16, 20, 42, 321⟩] htab (fun z hz => by cases hz) (by decide) (by decide) (G.2.2.2.1 _ ck_737) (va_Nw.use rfl hcc.1) hc9 hv9 hcl9 ?_
        refine lv_astore_n (lv' := [(3, .ref q9), (2, .ref (sb jd)), (0, .ref an.1), (1, .int (nI jd))]) hx hb dX11_toss_23 rfl hl (by decide) rfl (fun ls hl => ?_)
        refine lv_aload_n hx hb dX11_toss_24 rfl (lv_at hl 1 rfl) ?_
        refine cf_any G ((hzs.2.1 jd hjd q_2).1) X 1 rfl (G.2.2.2.1 _ ck_739) (fun x h => h) dX11_toss_25 ?_
        refine lv_bipush (v := nI 100) hx hb dX11_toss_28 (by decide) ?_
        refine gn_iadd hx hb dX11_toss_30  ?_
        replace X := sh_in (qs := [anP Z an x0 x1 x2 x3 x4 x5 x6 x7 x8 x9 hi sb (ρ.2 41)]) hjd (shF_1 (show ρ.2 41 jd = 1 from q_2)) X
        refine W.widen (k := 1) (n := 6) (Nat.le_of_ble_eq_true rfl) (Nat.le_of_ble_eq_true rfl) ?_
        exact cfin_I (()) (trivial) (rfl) (ztoss_2 hjd q_2 hno9 e2) X dX11_toss_31 fin
      · skip
        by_cases e4 : ρ.2 42 jd = 4
        · rw [zxn_4 e2 e4] at hcl9
          refine vx_catch (own := RX11) G.2.2.1 [⟨16, 20, 23, 345⟩] ⟨16, 20, 32, 350⟩ [⟨16, 20, 42, 321⟩] htab (fun z hz => by rcases List.mem_cons.mp hz with rfl | hz; exact Or.inr ⟨by decide, _, (G.2.2.2.1 _ ck_737), hcc.2.2.2.1⟩; cases hz) (by decide) (by decide) (G.2.2.2.1 _ ck_738) (va_Nw.use rfl hcc.2.1) hc9 hv9 hcl9 ?_
          refine lv_astore_n (lv' := [(3, .ref q9), (2, .ref (sb jd)), (0, .ref an.1), (1, .int (nI jd))]) hx hb dX11_toss_32 rfl hl (by decide) rfl (fun ls hl => ?_)
          refine lv_aload_n hx hb dX11_toss_33 rfl (lv_at hl 1 rfl) ?_
          refine dtI_go (mc := 0) (ms := 0) (w := wcat [ruP (sb jd) (ρ.2 42 jd) (ρ.2 43 jd)]) (wf := wcat [anP Z an x0 x1 x2 x3 x4 x5 x6 x7 x8 x9 hi sb (ρ.2 41), shOn (shNo (shF Z sb sc ρ) jd) 8]) (W1 := fun _ => wcat [anP Z an x0 x1 x2 x3 x4 x5 x6 x7 x8 x9 hi sb (ρ.2 41), ruP (sb jd) (ρ.2 42 jd) (ρ.2 43 jd), shOn (shNo (shF Z sb sc ρ) jd) 8]) G X (wsel [1, 0, 2] rfl rfl) (vr_11_heaviness (rest := []) (wf := wcat [anP Z an x0 x1 x2 x3 x4 x5 x6 x7 x8 x9 hi sb (ρ.2 41), shOn (shNo (shF Z sb sc ρ) jd) 8]) hE G hml hts hl.1 (hzs.2.1 jd hjd q_2).1 (Nat.le_of_ble_eq_true rfl) dX11_toss_34 ⟨Nat.le_refl _, Nat.le_refl _⟩ ⟨Nat.le_of_ble_eq_true rfl, Nat.le_of_ble_eq_true rfl⟩) (fun _ => wback [1, 0, 2] rfl rfl) (fun H locs _ _ X => ?_)
          refine lv_sipush (v := nI 200) hx hb dX11_toss_37 (by decide) ?_
          refine gn_iadd hx hb dX11_toss_40  ?_
          replace X := sh_in (qs := [anP Z an x0 x1 x2 x3 x4 x5 x6 x7 x8 x9 hi sb (ρ.2 41)]) hjd (shF_1 (show ρ.2 41 jd = 1 from q_2)) X
          refine W.widen (k := 1) (n := 6) (Nat.le_of_ble_eq_true rfl) (Nat.le_of_ble_eq_true rfl) ?_
          exact cfin_I (()) (trivial) (rfl) (ztoss_4 hjd q_2 hno9 e2 e4) X dX11_toss_41 fin
        · rw [zxn_o e2 e4] at hcl9
          refine vx_catch (own := RX11) G.2.2.1 [⟨16, 20, 23, 345⟩, ⟨16, 20, 32, 350⟩] ⟨16, 20, 42, 321⟩ [] htab (fun z hz => by rcases List.mem_cons.mp hz with rfl | hz; exact Or.inr ⟨by decide, _, (G.2.2.2.1 _ ck_737), hcc.2.2.2.2.1⟩; rcases List.mem_cons.mp hz with rfl | hz; exact Or.inr ⟨by decide, _, (G.2.2.2.1 _ ck_738), hcc.2.2.2.2.2⟩; cases hz) (by decide) (by decide) (G.2.2.2.1 _ ck_718) (va_Nw.use rfl hcc.2.2.1) hc9 hv9 hcl9 ?_
          refine lv_astore_n (lv' := [(3, .ref q9), (2, .ref (sb jd)), (0, .ref an.1), (1, .int (nI jd))]) hx hb dX11_toss_42 rfl hl (by decide) rfl (fun ls hl => ?_)
          refine lv_aload_n hx hb dX11_toss_43 rfl (lv_at hl 1 rfl) ?_
          refine cf_any G ((hzs.2.1 jd hjd q_2).1) X 1 rfl (G.2.2.2.1 _ ck_739) (fun x h => h) dX11_toss_44 ?_
          replace X := sh_in (qs := [anP Z an x0 x1 x2 x3 x4 x5 x6 x7 x8 x9 hi sb (ρ.2 41)]) hjd (shF_1 (show ρ.2 41 jd = 1 from q_2)) X
          refine W.widen (k := 1) (n := 6) (Nat.le_of_ble_eq_true rfl) (Nat.le_of_ble_eq_true rfl) ?_
          exact cfin_I (()) (trivial) (rfl) (ztoss_o hjd q_2 hno9 e2 e4) X dX11_toss_47 fin
    · skip
      refine lv_goto (tgt := 48) hx hb dX11_toss_20 (by decide) ?_
      refine lv_bipush (v := (-15)) hx hb dX11_toss_48 (by decide) ?_
      replace X := sh_in (qs := [anP Z an x0 x1 x2 x3 x4 x5 x6 x7 x8 x9 hi sb (ρ.2 41)]) hjd (shF_1 (show ρ.2 41 jd = 1 from q_2)) X
      refine W.widen (k := 1) (n := 6) (Nat.le_of_ble_eq_true rfl) (Nat.le_of_ble_eq_true rfl) ?_
      exact cfin_I (()) (trivial) (rfl) (ztoss_0 hjd q_2 hok9) X dX11_toss_50 fin
  · refine gq_n (shQ_n q_2) ?_
    refine lv_astore_nN (lv' := [(2, .null), (0, .ref an.1), (1, .int xd)]) hx hb dX11_toss_5 rfl hl (by decide) rfl (fun ls hl => ?_)
    refine lv_aload_nN hx hb dX11_toss_6 rfl (lv_at hl 0 rfl) ?_
    refine lv_ifnonnullN hx hb dX11_toss_7 ?_
    refine lv_aload_n hx hb dX11_toss_10 rfl (lv_at hl 1 rfl) ?_
    refine lv_iload_n hx hb dX11_toss_11 rfl (lv_at hl 2 rfl) ?_
    refine dtI_go (w := wcat [anP Z an x0 x1 x2 x3 x4 x5 x6 x7 x8 x9 hi sb (ρ.2 41)]) (wf := wcat [shOn (shF Z sb sc ρ) 8]) (W1 := fun _ => wcat [anP Z an x0 x1 x2 x3 x4 x5 x6 x7 x8 x9 hi sb (ρ.2 41), shOn (shF Z sb sc ρ) 8]) G X (wsel [0, 1] rfl rfl) (run_V (As := [.int xd]) (rest := []) (n := 1) G hml hts hl.1 (p_recv G X 0 0 rfl rfl rfl) (k11_lackOn hE xd _) (cwV 1 hts (cg_V ck_537 ck_542 ck_543 ck_544 ck_89) rfl rfl rfl (by decide +kernel) ⟨Nat.le_of_ble_eq_true rfl, Nat.le_of_ble_eq_true rfl⟩) rfl (Nat.le_of_ble_eq_true rfl) dX11_toss_12 ⟨Nat.le_of_ble_eq_true rfl, Nat.le_of_ble_eq_true rfl⟩) (fun _ => wback [0, 1] rfl rfl) (fun H locs _ _ X => ?_)
    refine W.widen (k := 1) (n := 6) (Nat.le_of_ble_eq_true rfl) (Nat.le_of_ble_eq_true rfl) ?_
    exact cfin_I (()) (trivial) (rfl) (ztoss_l hzs q_2) X dX11_toss_15 fin
