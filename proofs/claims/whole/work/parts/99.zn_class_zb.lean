set_option maxHeartbeats 4000000 in
set_option maxRecDepth 100000 in
theorem k6_fail {E : (Nat → Prop) → State → Heap → Prop} (hE : cEok E) {l : Launch} {D : va_G} {Z : Nat → ClassId} {ru k f : Nat} (hk : k = 0 ∨ k = 1 ∨ k = 3) (hf : f < 100) (hC9 : cThr E) (hst9 : l.stackTraces = false) : dxV E l D Z yX6_fail (Cond.code yX6_fail cX6_fail 1 none :: cW) { frames := 6, cells := 1, slots := 6, locals := 90 } [.ref ru] (wcat [ruP ru k f]) (zfok k f) (zxn k) := by
  refine dxV_of hE (cc := cX6_fail) (maxL := 1) (by decide +kernel) (fun w h => List.mem_cons_of_mem _ h) (Nat.le_of_ble_eq_true rfl) ?_
  intro p e s m args below meth c A Q ls hq hx hb hml hown hts G X hl fin
  replace hl : lv_has ls 1 [(0, .ref ru)] := hl
  obtain ⟨zU9, zN9, ⟨w6, w3, w0, w318, w325⟩, ⟨⟨a6, hs6⟩, ⟨a3, hs3⟩, ⟨a0, hs0⟩, ⟨a316, hs316⟩, ⟨a323, hs323⟩⟩, hcc⟩ := hC9 _ _ _ G.2.2.2.2.2.2.1
  refine lv_aload_n hx hb dX6_fail_0 rfl (lv_at hl 0 rfl) ?_
  refine cf_any G (by omega) X 0 rfl (G.2.2.2.1 _ ck_4) (fun x h => h) dX6_fail_1 ?_
  refine gn_if_le (tgt := 17) hx hb dX6_fail_4 (by decide) (by omega) (fun c_4 => ?_) (fun c_4 => ?_)
  ·
    refine W.widen (k := 1) (n := 6) (Nat.le_of_ble_eq_true rfl) (Nat.le_of_ble_eq_true rfl) ?_
    exact cfin_V (()) (Or.inr (by omega)) (rfl) X dX6_fail_17 fin
  ·
    exact cx_thrS hC9 hst9 hq G X (by unfold zfok; omega) (by unfold zxn; rw [if_neg (by omega), if_neg (by omega)]) (by decide +kernel) (G.2.2.2.1 _ ck_287) (G.2.2.2.1 _ ck_288) hs6 w6 (by decide +kernel) (hl.1.trans hml.symm) dX6_fail_7 dX6_fail_10 dX6_fail_11 dX6_fail_13 dX6_fail_16 (Nat.le_of_ble_eq_true rfl) (Nat.le_of_ble_eq_true rfl) (Nat.le_of_ble_eq_true rfl) (Nat.le_of_ble_eq_true rfl) (Nat.le_of_ble_eq_true rfl) (Nat.le_of_ble_eq_true rfl)
set_option maxHeartbeats 4000000 in
set_option maxRecDepth 100000 in
theorem k3_fail {E : (Nat → Prop) → State → Heap → Prop} (hE : cEok E) {l : Launch} {D : va_G} {Z : Nat → ClassId} {ru k f : Nat} (hk : k = 2) (hf : f < 100) (hC9 : cThr E) (hst9 : l.stackTraces = false) : dxV E l D Z yX3_fail (Cond.code yX3_fail cX3_fail 1 none :: cW) { frames := 6, cells := 1, slots := 6, locals := 90 } [.ref ru] (wcat [ruP ru k f]) (zfok k f) (zxn k) := by
  refine dxV_of hE (cc := cX3_fail) (maxL := 1) (by decide +kernel) (fun w h => List.mem_cons_of_mem _ h) (Nat.le_of_ble_eq_true rfl) ?_
  intro p e s m args below meth c A Q ls hq hx hb hml hown hts G X hl fin
  replace hl : lv_has ls 1 [(0, .ref ru)] := hl
  obtain ⟨zU9, zN9, ⟨w6, w3, w0, w318, w325⟩, ⟨⟨a6, hs6⟩, ⟨a3, hs3⟩, ⟨a0, hs0⟩, ⟨a316, hs316⟩, ⟨a323, hs323⟩⟩, hcc⟩ := hC9 _ _ _ G.2.2.2.2.2.2.1
  refine lv_aload_n hx hb dX3_fail_0 rfl (lv_at hl 0 rfl) ?_
  refine cf_any G (by omega) X 0 rfl (G.2.2.2.1 _ ck_147) (fun x h => u_same (G.2.2.2.1 _ ck_148) x h) dX3_fail_1 ?_
  refine gn_if_le (tgt := 17) hx hb dX3_fail_4 (by decide) (by omega) (fun c_4 => ?_) (fun c_4 => ?_)
  ·
    refine W.widen (k := 1) (n := 6) (Nat.le_of_ble_eq_true rfl) (Nat.le_of_ble_eq_true rfl) ?_
    exact cfin_V (()) (Or.inr (by omega)) (rfl) X dX3_fail_17 fin
  ·
    exact cx_thrS hC9 hst9 hq G X (by unfold zfok; omega) (by unfold zxn; rw [if_pos hk]) (by decide +kernel) (G.2.2.2.1 _ ck_155) (G.2.2.2.1 _ ck_156) hs3 w3 (by decide +kernel) (hl.1.trans hml.symm) dX3_fail_7 dX3_fail_10 dX3_fail_11 dX3_fail_13 dX3_fail_16 (Nat.le_of_ble_eq_true rfl) (Nat.le_of_ble_eq_true rfl) (Nat.le_of_ble_eq_true rfl) (Nat.le_of_ble_eq_true rfl) (Nat.le_of_ble_eq_true rfl) (Nat.le_of_ble_eq_true rfl)
set_option maxHeartbeats 4000000 in
set_option maxRecDepth 100000 in
theorem k0_fail {E : (Nat → Prop) → State → Heap → Prop} (hE : cEok E) {l : Launch} {D : va_G} {Z : Nat → ClassId} {ru k f : Nat} (hk : k = 4) (hf : f < 100) (hC9 : cThr E) (hst9 : l.stackTraces = false) : dxV E l D Z yX0_fail (Cond.code yX0_fail cX0_fail 1 none :: cW) { frames := 6, cells := 1, slots := 6, locals := 90 } [.ref ru] (wcat [ruP ru k f]) (zfok k f) (zxn k) := by
  refine dxV_of hE (cc := cX0_fail) (maxL := 1) (by decide +kernel) (fun w h => List.mem_cons_of_mem _ h) (Nat.le_of_ble_eq_true rfl) ?_
  intro p e s m args below meth c A Q ls hq hx hb hml hown hts G X hl fin
  replace hl : lv_has ls 1 [(0, .ref ru)] := hl
  obtain ⟨zU9, zN9, ⟨w6, w3, w0, w318, w325⟩, ⟨⟨a6, hs6⟩, ⟨a3, hs3⟩, ⟨a0, hs0⟩, ⟨a316, hs316⟩, ⟨a323, hs323⟩⟩, hcc⟩ := hC9 _ _ _ G.2.2.2.2.2.2.1
  refine lv_aload_n hx hb dX0_fail_0 rfl (lv_at hl 0 rfl) ?_
  refine cf_any G (by omega) X 0 rfl (G.2.2.2.1 _ ck_20) (fun x h => u_same (G.2.2.2.1 _ ck_21) x h) dX0_fail_1 ?_
  refine gn_if_le (tgt := 17) hx hb dX0_fail_4 (by decide) (by omega) (fun c_4 => ?_) (fun c_4 => ?_)
  ·
    refine W.widen (k := 1) (n := 6) (Nat.le_of_ble_eq_true rfl) (Nat.le_of_ble_eq_true rfl) ?_
    exact cfin_V (()) (Or.inr (by omega)) (rfl) X dX0_fail_17 fin
  ·
    exact cx_thrSX hC9 hst9 hq G X (by unfold zfok; omega) (by unfold zxn; rw [if_neg (by omega), if_pos hk]) (by decide +kernel) (G.2.2.2.1 _ ck_40) (G.2.2.2.1 _ ck_41) hs0 w0 (by decide +kernel) (hl.1.trans hml.symm) dX0_fail_7 dX0_fail_10 dX0_fail_11 dX0_fail_13 dX0_fail_16 (Nat.le_of_ble_eq_true rfl) (Nat.le_of_ble_eq_true rfl) (Nat.le_of_ble_eq_true rfl) (Nat.le_of_ble_eq_true rfl) (Nat.le_of_ble_eq_true rfl) (Nat.le_of_ble_eq_true rfl)
set_option maxHeartbeats 4000000 in
set_option maxRecDepth 100000 in
theorem k9_fail {E : (Nat → Prop) → State → Heap → Prop} (hE : cEok E) {l : Launch} {D : va_G} {Z : Nat → ClassId} {ru k f : Nat} (hk : k = 5) (hf : f < 100) (hC9 : cThr E) (hst9 : l.stackTraces = false) : dxV E l D Z yX9_fail (Cond.code yX9_fail cX9_fail 1 none :: cW) { frames := 0, cells := 1, slots := 6, locals := 0 } [.ref ru] (wcat [ruP ru k f]) (zfok k f) (zxn k) := by
  refine dxV_of hE (cc := cX9_fail) (maxL := 1) (by decide +kernel) (fun w h => List.mem_cons_of_mem _ h) (Nat.le_of_ble_eq_true rfl) ?_
  intro p e s m args below meth c A Q ls hq hx hb hml hown hts G X hl fin
  replace hl : lv_has ls 1 [(0, .ref ru)] := hl
  obtain ⟨zU9, zN9, ⟨w6, w3, w0, w318, w325⟩, ⟨⟨a6, hs6⟩, ⟨a3, hs3⟩, ⟨a0, hs0⟩, ⟨a316, hs316⟩, ⟨a323, hs323⟩⟩, hcc⟩ := hC9 _ _ _ G.2.2.2.2.2.2.1
  refine W.widen (k := 1) (n := 6) (Nat.le_of_ble_eq_true rfl) (Nat.le_of_ble_eq_true rfl) ?_
  exact cfin_V (()) (Or.inl hk) (rfl) X dX9_fail_0 fin
set_option maxHeartbeats 4000000 in
set_option maxRecDepth 100000 in
theorem k11_element {E : (Nat → Prop) → State → Heap → Prop} (hE : cEok E) {l : Launch} {D : va_G} {Z : Nat → ClassId} {an : Nat × Nat × Nat} {x0 x1 x2 x3 x4 x5 x6 x7 x8 x9 hi : Nat} {sb sc : Nat → Nat} {ρ : MS} (xd : Int32) (xi : Int32) (hzs : zSh ρ) (hC9 : cThr E) (hst9 : l.stackTraces = false) : dxL E l D Z yX11_element (Cond.code yX11_element cX11_element 4 (some .long) :: cW) { frames := 6, cells := 1, slots := 6, locals := 90 } [.ref an.1, .int xd, .int xi] (wcat [anP Z an x0 x1 x2 x3 x4 x5 x6 x7 x8 x9 hi sb (ρ.2 41), shOn (shF Z sb sc ρ) 8]) (zelC ρ xd xi) (zelT ρ xd xi = 0) (zelX ρ xd xi) := by
  refine dxL_of hE (cc := cX11_element) (maxL := 4) (by decide +kernel) (fun w h => List.mem_cons_of_mem _ h) (Nat.le_of_ble_eq_true rfl) ?_
  intro p e s m args below meth c A Q ls hq hx hb hml hown hts G X hl fin
  replace hl : lv_has ls 4 [(0, .ref an.1), (1, .int xd), (2, .int xi)] := hl
  obtain ⟨zU9, zN9, ⟨w6, w3, w0, w318, w325⟩, ⟨⟨a6, hs6⟩, ⟨a3, hs3⟩, ⟨a0, hs0⟩, ⟨a316, hs316⟩, ⟨a323, hs323⟩⟩, hcc⟩ := hC9 _ _ _ G.2.2.2.2.2.2.1
  refine lv_iload_n hx hb dX11_element_0 rfl (lv_at hl 1 rfl) ?_
  refine dtI_go (w := wcat []) (wf := wcat [anP Z an x0 x1 x2 x3 x4 x5 x6 x7 x8 x9 hi sb (ρ.2 41), shOn (shF Z sb sc ρ) 8]) (W1 := fun _ => wcat [anP Z an x0 x1 x2 x3 x4 x5 x6 x7 x8 x9 hi sb (ρ.2 41), shOn (shF Z sb sc ρ) 8]) G X (wsel [0, 1] rfl rfl) (run_S (As := [.int xd]) (rest := []) (n := 1) G hml hts hl.1 (k11_isShelf hE xd _) (va_cwS 1 hts (cg_S ck_525 ck_527 ck_528 ck_89) rfl rfl rfl (by decide +kernel) ⟨Nat.le_of_ble_eq_true rfl, Nat.le_of_ble_eq_true rfl⟩) rfl (Nat.le_of_ble_eq_true rfl) dX11_element_1 ⟨Nat.le_of_ble_eq_true rfl, Nat.le_of_ble_eq_true rfl⟩) (fun _ => wback [0, 1] rfl rfl) (fun H locs _ _ X => ?_)
  refine gb_if_ne (tgt := 18) hx hb dX11_element_4 (by decide) (fun c_4 => ?_) (fun c_4 => ?_)
  ·
    obtain ⟨jd, hjd, rfl⟩ := zir_of (by decide) c_4
    refine lv_aload_n hx hb dX11_element_18 rfl (lv_at hl 0 rfl) ?_
    refine lv_iload_n hx hb dX11_element_19 rfl (lv_at hl 1 rfl) ?_
    refine dtQ_go (w := wcat [anP Z an x0 x1 x2 x3 x4 x5 x6 x7 x8 x9 hi sb (ρ.2 41)]) (wf := wcat [shOn (shF Z sb sc ρ) 8]) (W1 := fun _ => wcat [anP Z an x0 x1 x2 x3 x4 x5 x6 x7 x8 x9 hi sb (ρ.2 41), shOn (shF Z sb sc ρ) 8]) G X (wsel [0, 1] rfl rfl) (run_V (As := [.int (nI jd)]) (rest := []) (n := 1) G hml hts hl.1 (p_recv G X 0 0 rfl rfl rfl) (k11_rowOn hE (nI jd) _) (cwV 1 hts (cg_V ck_526 ck_534 ck_535 ck_536 ck_89) rfl rfl rfl (by decide +kernel) ⟨Nat.le_of_ble_eq_true rfl, Nat.le_of_ble_eq_true rfl⟩) rfl (Nat.le_of_ble_eq_true rfl) dX11_element_20 ⟨Nat.le_of_ble_eq_true rfl, Nat.le_of_ble_eq_true rfl⟩) (fun _ => wback [0, 1] rfl rfl) (fun H locs _ _ X => ?_)
    by_cases q_20 : (ρ.2 41) jd = 2
    · refine gq_s (shQ_s (by omega) q_20) ?_
      replace X := sh_out (qs := [anP Z an x0 x1 x2 x3 x4 x5 x6 x7 x8 x9 hi sb (ρ.2 41)]) hjd (shF_2 (show ρ.2 41 jd = 2 from q_20)) X
      have hz4 := hzs.2.2 jd hjd q_20
      refine lv_astore_n (lv' := [(3, .ref (sb jd)), (0, .ref an.1), (1, .int (nI jd)), (2, .int xi)]) hx hb dX11_element_23 rfl hl (by decide) rfl (fun ls hl => ?_)
      refine lv_aload_n hx hb dX11_element_24 rfl (lv_at hl 0 rfl) ?_
      refine lv_ifnull hx hb dX11_element_25 ?_
      refine lv_aload_n hx hb dX11_element_28 rfl (lv_at hl 0 rfl) ?_
      refine lv_iload_n hx hb dX11_element_29 rfl (lv_at hl 3 rfl) ?_
      refine dtI_go (w := wcat [roP Z (sb jd, sc jd) (ρ.2 44 jd) (ρ.2 45 jd) (sel ρ jd)]) (wf := wcat [anP Z an x0 x1 x2 x3 x4 x5 x6 x7 x8 x9 hi sb (ρ.2 41), shOn (shNo (shF Z sb sc ρ) jd) 8]) (W1 := fun _ => wcat [anP Z an x0 x1 x2 x3 x4 x5 x6 x7 x8 x9 hi sb (ρ.2 41), roP Z (sb jd, sc jd) (ρ.2 44 jd) (ρ.2 45 jd) (sel ρ jd), shOn (shNo (shF Z sb sc ρ) jd) 8]) G X (wsel [1, 0, 2] rfl rfl) (run_V (As := [.int xi]) (rest := []) (n := 1) G hml hts hl.1 (p_recv G X 1 0 rfl rfl rfl) (k5_hasPlace hE (ro := (sb jd, sc jd)) xi hz4.2 _) (cwV 1 hts (cg_V ck_277 ck_708 ck_709 ck_710 ck_616) rfl rfl rfl (by decide +kernel) ⟨Nat.le_of_ble_eq_true rfl, Nat.le_of_ble_eq_true rfl⟩) rfl (Nat.le_of_ble_eq_true rfl) dX11_element_30 ⟨Nat.le_of_ble_eq_true rfl, Nat.le_of_ble_eq_true rfl⟩) (fun _ => wback [1, 0, 2] rfl rfl) (fun H locs _ _ X => ?_)
      refine gb_if_ne (tgt := 47) hx hb dX11_element_33 (by decide) (fun c_33 => ?_) (fun c_33 => ?_)
      ·
        obtain ⟨ji, hji, rfl⟩ := zir_of (by omega) c_33
        refine lv_aload_n hx hb dX11_element_47 rfl (lv_at hl 0 rfl) ?_
        refine cg_5 G X 1 0 rfl rfl 1 (by decide) (G.2.2.2.1 _ ck_611) rfl rfl dX11_element_48 ?_
        refine lv_iload_n hx hb dX11_element_51 rfl (lv_at hl 3 rfl) ?_
        refine cr_ialdr G X 1 1 rfl rfl (hji) (by omega) dX11_element_52 ?_
        refine lv_i2l (v := ((sel ρ jd) ji).toInt64) hx hb dX11_element_53 rfl ?_
        replace X := sh_in (qs := [anP Z an x0 x1 x2 x3 x4 x5 x6 x7 x8 x9 hi sb (ρ.2 41)]) hjd (shF_2 (show ρ.2 41 jd = 2 from q_20)) X
        refine W.widen (k := 1) (n := 6) (Nat.le_of_ble_eq_true rfl) (Nat.le_of_ble_eq_true rfl) ?_
        exact cfin_L (()) (zel_0 hjd q_20 hji hz4.2) (rfl) (zel_v hjd q_20 hji hz4.2) X dX11_element_54 fin
      ·
        replace X := sh_in (qs := [anP Z an x0 x1 x2 x3 x4 x5 x6 x7 x8 x9 hi sb (ρ.2 41)]) hjd (shF_2 (show ρ.2 41 jd = 2 from q_20)) X
        exact cx_thrSW hC9 hst9 hq G X (by first | (rw [zel_2a hzs hjd q_20]; decide) | (rw [zel_2b hjd q_20 c_33]; decide)) (by first | exact zelX_1 (zel_1 c_4) | exact zelX_2 (zel_2a hzs hjd q_20) | exact zelX_2 (zel_2b hjd q_20 c_33)) (by decide +kernel) (G.2.2.2.1 _ ck_718) (G.2.2.2.1 _ ck_288) hs323 w325 (by decide +kernel) (hl.1.trans hml.symm) dX11_element_36 dX11_element_39 dX11_element_40 dX11_element_43 dX11_element_46 (Nat.le_of_ble_eq_true rfl) (Nat.le_of_ble_eq_true rfl) (Nat.le_of_ble_eq_true rfl) (Nat.le_of_ble_eq_true rfl) (Nat.le_of_ble_eq_true rfl) (Nat.le_of_ble_eq_true rfl)
    · refine gq_n (by rw [shQ_j (by omega)]; exact shR_n q_20) ?_
      refine lv_astore_nN (lv' := [(3, .null), (0, .ref an.1), (1, .int (nI jd)), (2, .int xi)]) hx hb dX11_element_23 rfl hl (by decide) rfl (fun ls hl => ?_)
      refine lv_aload_nN hx hb dX11_element_24 rfl (lv_at hl 0 rfl) ?_
      refine lv_ifnullN (tgt := 36) hx hb dX11_element_25 (by decide) ?_
      exact cx_thrSW hC9 hst9 hq G X (by first | (rw [zel_2a hzs hjd q_20]; decide) | (rw [zel_2b hjd q_20 c_33]; decide)) (by first | exact zelX_1 (zel_1 c_4) | exact zelX_2 (zel_2a hzs hjd q_20) | exact zelX_2 (zel_2b hjd q_20 c_33)) (by decide +kernel) (G.2.2.2.1 _ ck_718) (G.2.2.2.1 _ ck_288) hs323 w325 (by decide +kernel) (hl.1.trans hml.symm) dX11_element_36 dX11_element_39 dX11_element_40 dX11_element_43 dX11_element_46 (Nat.le_of_ble_eq_true rfl) (Nat.le_of_ble_eq_true rfl) (Nat.le_of_ble_eq_true rfl) (Nat.le_of_ble_eq_true rfl) (Nat.le_of_ble_eq_true rfl) (Nat.le_of_ble_eq_true rfl)
  ·
    exact cx_thrSW hC9 hst9 hq G X (by rw [zel_1 c_4]; decide) (by first | exact zelX_1 (zel_1 c_4) | exact zelX_2 (zel_2a hzs hjd q_20) | exact zelX_2 (zel_2b hjd q_20 c_33)) (by decide +kernel) (G.2.2.2.1 _ ck_716) (G.2.2.2.1 _ ck_717) hs316 w318 (by decide +kernel) (hl.1.trans hml.symm) dX11_element_7 dX11_element_10 dX11_element_11 dX11_element_14 dX11_element_17 (Nat.le_of_ble_eq_true rfl) (Nat.le_of_ble_eq_true rfl) (Nat.le_of_ble_eq_true rfl) (Nat.le_of_ble_eq_true rfl) (Nat.le_of_ble_eq_true rfl) (Nat.le_of_ble_eq_true rfl)
