set_option maxHeartbeats 4000000 in
set_option maxRecDepth 100000 in
theorem c_anew {l : Launch} {D : va_G} {cl : List vw_C} {tys : List (ClassId × FieldType)} {o : Nat} {q : Nat → Nat} {ci : Nat} {cI cJ : ClassId} (hcl : cl[ci]? = some (RX12, TX12, 48)) (ht0 : tys[0]? = some (cI, .int)) (ht1 : tys[1]? = some (cJ, .long)) {σ : MS} {σ0 : MS} (h15 : σ = sF σ0 15 0) (hok : mOk σ) (hsh : mSh σ) : ctIP l D cl tys yX12_anew (Cond.code yX12_anew cX12_anew 1 (some .int) :: mW) { frames := 2, cells := 0, slots := 0, locals := 42 } [.ref o] (mw o q ci cI cJ σ0) (mw o q ci cI cJ) (zanewS σ) (fun u => mEq (zanewT σ) u) := by
  refine ctIP_of (cc := cX12_anew) (maxL := 1) (by decide +kernel) rfl (Nat.le_of_ble_eq_true rfl) ?_
  intro p e s m args below meth c A Q ls hx hb hml hown hts hK hA X hl fin
  replace hown : s.vm.findClass RX12 = some m.cls := hown
  have hwd : ∀ w ∈ mW, w.before args s = true := fun w h => hts w (List.mem_cons_of_mem _ h)
  have G : mG p c cX12_anew s m args D cl tys ci cI cJ := ⟨hx, hb, hown, hwd, hK, hcl, ht0, ht1⟩
  replace hl : lv_has ls 1 [(0, .ref o)] := hl
  obtain ⟨kr, kw, ks, kroad, kworld, ksort, kmet, ksum, kst, kco⟩ := id hok
  obtain ⟨hh, hru, hro, htb, hW, hp28, hth⟩ := id hsh
  have hp : σ.1 28 < 8 ∨ σ.1 28 = 4294967295 := Or.inr hp28
  refine lv_aload_n hx hb dX12_anew_0 rfl (lv_at hl 0 rfl) ?_
  refine lv_iconst (v := nI 0) hx hb dX12_anew_1 (by decide) ?_
  refine m_puti G X 15 rfl (hwd _ mk_35) rfl (ty := .int) (by decide +kernel) rfl rfl dX12_anew_2 (fun H locs X => ?_)
  rw [← h15] at X
  refine lv_aload_n hx hb dX12_anew_5 rfl (lv_at hl 0 rfl) ?_
  refine ctI_V (wf := []) (As := []) (rest := []) (n := 0) hx hb hml hown hts hK hA (ap_nil X) hl.1 (m_recv G X) (c_isReady hcl ht0 ht1 (σ := σ)  (kw) (fun w9 hw9 => (kworld w9 hw9).2.1)) (cwV 0 hts (mg_V mk_47 mk_165 mk_166 mk_167 mk_43) rfl rfl rfl (by decide +kernel) ⟨Nat.le_of_ble_eq_true rfl, Nat.le_of_ble_eq_true rfl⟩) rfl (Nat.le_of_ble_eq_true rfl) dX12_anew_6 ⟨Nat.le_refl _, Nat.le_refl _⟩ (fun H locs X => ?_)
  replace X := ap_nil' X
  refine gb_if_ne (tgt := 15) hx hb dX12_anew_9 (by decide) (fun c_9 => ?_) (fun c_9 => ?_)
  ·
    refine lv_aload_n hx hb dX12_anew_15 rfl (lv_at hl 0 rfl) ?_
    refine ctV_V (wf := []) (As := []) (rest := []) (n := 0) hx hb hml hown hts hK hA (ap_nil X) hl.1 (m_recv G X) (c_thinkAnew hcl ht0 ht1 (σ := σ)  (hok)) (cwV 0 hts (mg_V mk_87 mk_97 mk_98 mk_99 mk_43) rfl rfl rfl (by decide +kernel) ⟨Nat.le_of_ble_eq_true rfl, Nat.le_of_ble_eq_true rfl⟩) rfl (Nat.le_of_ble_eq_true rfl) dX12_anew_16 ⟨Nat.le_refl _, Nat.le_refl _⟩ (fun H locs X => ?_)
    replace X := ap_nil' X
    refine lv_aload_n hx hb dX12_anew_19 rfl (lv_at hl 0 rfl) ?_
    refine ctV_V (wf := []) (As := []) (rest := []) (n := 0) hx hb hml hown hts hK hA (ap_nil X) hl.1 (m_recv G X) (c_setMind hcl ht0 ht1 (σ := (sA σ 14 (zcp ((σ.2 5)) (σ.2 14) ((σ.1 4)))))  (hok)) (cwV 0 hts (mg_V mk_156 mk_168 mk_169 mk_170 mk_43) rfl rfl rfl (by decide +kernel) ⟨Nat.le_of_ble_eq_true rfl, Nat.le_of_ble_eq_true rfl⟩) rfl (Nat.le_of_ble_eq_true rfl) dX12_anew_20 ⟨Nat.le_refl _, Nat.le_refl _⟩ (fun H locs X => ?_)
    replace X := ap_nil' X
    refine lv_aload_n hx hb dX12_anew_23 rfl (lv_at hl 0 rfl) ?_
    refine ctI_V (wf := []) (As := []) (rest := []) (n := 0) hx hb hml hown hts hK hA (ap_nil X) hl.1 (m_recv G X) (c_likeliest hcl ht0 ht1 (σ := (sA (sA σ 14 (zcp ((σ.2 5)) (σ.2 14) ((σ.1 4)))) 29 (zcp ((zcp ((σ.2 5)) (σ.2 14) ((σ.1 4)))) (σ.2 29) ((σ.1 4)))))  (hok) (fun w9 hw9 => by (show zcp (zcp (σ.2 5) (σ.2 14) (σ.1 4)) (σ.2 29) (σ.1 4) w9 < _); rw [zcp_in (show w9 < σ.1 4 from hw9), zcp_in (show w9 < σ.1 4 from hw9)]; have := kworld w9 hw9; omega)) (cwV 0 hts (mg_V mk_157 mk_162 mk_163 mk_164 mk_43) rfl rfl rfl (by decide +kernel) ⟨Nat.le_of_ble_eq_true rfl, Nat.le_of_ble_eq_true rfl⟩) rfl (Nat.le_of_ble_eq_true rfl) dX12_anew_24 ⟨Nat.le_refl _, Nat.le_refl _⟩ (fun H locs X => ?_)
    replace X := ap_nil' X
    refine gi_raw (y := (nI (zbest ((zcp ((zcp ((σ.2 5)) (σ.2 14) ((σ.1 4)))) (σ.2 29) ((σ.1 4)))) ((σ.1 4))))) rfl ?_
    exact finIP_of (by unfold zanewS; rw [if_pos c_9]; exact congrArg nI (zbest_cong (fun w9 hw9 => by rw [zcp_in hw9, zcp_in hw9]))) (u := (sA (sA σ 14 (zcp ((σ.2 5)) (σ.2 14) ((σ.1 4)))) 29 (zcp ((zcp ((σ.2 5)) (σ.2 14) ((σ.1 4)))) (σ.2 29) ((σ.1 4))))) (by unfold zanewT; rw [if_pos c_9]; exact mEq_A29 (mEq_refl hW)) X dX12_anew_27 fin
  ·
    refine lv_bipush (v := (-3)) hx hb dX12_anew_12 (by decide) ?_
    exact finIP_of (by unfold zanewS; rw [if_neg c_9]) (u := σ) (by unfold zanewT; rw [if_neg c_9]; exact mEq_refl hW) X dX12_anew_14 fin
set_option maxHeartbeats 4000000 in
set_option maxRecDepth 100000 in
theorem c_answer {l : Launch} {D : va_G} {cl : List vw_C} {tys : List (ClassId × FieldType)} {o : Nat} {q : Nat → Nat} {ci : Nat} {cI cJ : ClassId} (hcl : cl[ci]? = some (RX12, TX12, 48)) (ht0 : tys[0]? = some (cI, .int)) (ht1 : tys[1]? = some (cJ, .long)) {σ : MS} {σ0 : MS} (h15 : σ = sF σ0 15 0) (x : Int32) (v : Int32) (hok : mOk σ) (hsh : mSh σ) : ctIP l D cl tys yX12_answer (Cond.code yX12_answer cX12_answer 3 (some .int) :: mW) { frames := 3, cells := 0, slots := 0, locals := 74 } [.ref o, .int x, .int v] (mw o q ci cI cJ σ0) (mw o q ci cI cJ) (zanswerS σ x v) (fun u => mEq (zanswerT σ x v) u) := by
  refine ctIP_of (cc := cX12_answer) (maxL := 3) (by decide +kernel) rfl (Nat.le_of_ble_eq_true rfl) ?_
  intro p e s m args below meth c A Q ls hx hb hml hown hts hK hA X hl fin
  replace hown : s.vm.findClass RX12 = some m.cls := hown
  have hwd : ∀ w ∈ mW, w.before args s = true := fun w h => hts w (List.mem_cons_of_mem _ h)
  have G : mG p c cX12_answer s m args D cl tys ci cI cJ := ⟨hx, hb, hown, hwd, hK, hcl, ht0, ht1⟩
  replace hl : lv_has ls 3 [(0, .ref o), (1, .int x), (2, .int v)] := hl
  obtain ⟨kr, kw, ks, kroad, kworld, ksort, kmet, ksum, kst, kco⟩ := id hok
  obtain ⟨hh, hru, hro, htb, hW, hp28, hth⟩ := id hsh
  have hp : σ.1 28 < 8 ∨ σ.1 28 = 4294967295 := Or.inr hp28
  refine lv_aload_n hx hb dX12_answer_0 rfl (lv_at hl 0 rfl) ?_
  refine lv_iconst (v := nI 0) hx hb dX12_answer_1 (by decide) ?_
  refine m_puti G X 15 rfl (hwd _ mk_35) rfl (ty := .int) (by decide +kernel) rfl rfl dX12_answer_2 (fun H locs X => ?_)
  rw [← h15] at X
  refine lv_aload_n hx hb dX12_answer_5 rfl (lv_at hl 0 rfl) ?_
  refine lv_iload_n hx hb dX12_answer_6 rfl (lv_at hl 1 rfl) ?_
  refine ctI_V (wf := []) (As := [.int x]) (rest := []) (n := 1) hx hb hml hown hts hK hA (ap_nil X) hl.1 (m_recv G X) (c_isCrossing hcl ht0 ht1 (σ := σ) x ) (cwV 1 hts (mg_V mk_39 mk_108 mk_109 mk_110 mk_43) rfl rfl rfl (by decide +kernel) ⟨Nat.le_of_ble_eq_true rfl, Nat.le_of_ble_eq_true rfl⟩) rfl (Nat.le_of_ble_eq_true rfl) dX12_answer_7 ⟨Nat.le_refl _, Nat.le_refl _⟩ (fun H locs X => ?_)
  replace X := ap_nil' X
  refine gb_if_eq (tgt := 21) hx hb dX12_answer_10 (by decide) (fun c_10 => ?_) (fun c_10 => ?_)
  ·
    refine lv_iconst (v := (-1)) hx hb dX12_answer_21 (by decide) ?_
    exact finIP_of (by unfold zanswerS; first | (rw [if_pos (fun h9 => c_10 h9.1)]) | (rw [if_pos (fun h9 => c_18 h9.2)])) (u := σ) (by unfold zanswerT; first | (rw [if_pos (fun h9 => c_10 h9.1)]; exact mEq_refl hW) | (rw [if_pos (fun h9 => c_18 h9.2)]; exact mEq_refl hW)) X dX12_answer_22 fin
  ·
    obtain ⟨xc, hxc, rfl⟩ := zi_in (n := 8) (by omega) c_10
    refine lv_aload_n hx hb dX12_answer_13 rfl (lv_at hl 0 rfl) ?_
    refine lv_iload_n hx hb dX12_answer_14 rfl (lv_at hl 2 rfl) ?_
    refine ctI_V (wf := []) (As := [.int v]) (rest := []) (n := 1) hx hb hml hown hts hK hA (ap_nil X) hl.1 (m_recv G X) (c_isAnswer hcl ht0 ht1 (σ := σ) v (hok)) (cwV 1 hts (mg_V mk_142 mk_144 mk_145 mk_146 mk_43) rfl rfl rfl (by decide +kernel) ⟨Nat.le_of_ble_eq_true rfl, Nat.le_of_ble_eq_true rfl⟩) rfl (Nat.le_of_ble_eq_true rfl) dX12_answer_15 ⟨Nat.le_refl _, Nat.le_refl _⟩ (fun H locs X => ?_)
    replace X := ap_nil' X
    refine gb_if_ne (tgt := 23) hx hb dX12_answer_18 (by decide) (fun c_18 => ?_) (fun c_18 => ?_)
    ·
      refine lv_aload_n hx hb dX12_answer_23 rfl (lv_at hl 0 rfl) ?_
      refine ctI_V (wf := []) (As := []) (rest := []) (n := 0) hx hb hml hown hts hK hA (ap_nil X) hl.1 (m_recv G X) (c_isReady hcl ht0 ht1 (σ := σ)  (kw) (fun w9 hw9 => (kworld w9 hw9).2.1)) (cwV 0 hts (mg_V mk_47 mk_165 mk_166 mk_167 mk_43) rfl rfl rfl (by decide +kernel) ⟨Nat.le_of_ble_eq_true rfl, Nat.le_of_ble_eq_true rfl⟩) rfl (Nat.le_of_ble_eq_true rfl) dX12_answer_24 ⟨Nat.le_refl _, Nat.le_refl _⟩ (fun H locs X => ?_)
      replace X := ap_nil' X
      refine gb_if_ne (tgt := 33) hx hb dX12_answer_27 (by decide) (fun c_27 => ?_) (fun c_27 => ?_)
      ·
        refine lv_aload_n hx hb dX12_answer_33 rfl (lv_at hl 0 rfl) ?_
        refine ctV_V (wf := []) (As := []) (rest := []) (n := 0) hx hb hml hown hts hK hA (ap_nil X) hl.1 (m_recv G X) (c_findWays hcl ht0 ht1 (σ := σ)  (hok) (hW)) (cwV 0 hts (mg_V mk_116 mk_128 mk_129 mk_130 mk_43) rfl rfl rfl (by decide +kernel) ⟨Nat.le_of_ble_eq_true rfl, Nat.le_of_ble_eq_true rfl⟩) rfl (Nat.le_of_ble_eq_true rfl) dX12_answer_34 ⟨Nat.le_refl _, Nat.le_refl _⟩ (fun H locs X => ?_)
        replace X := ap_nil' X
        replace X := wh_eq (show sA σ 27 (zws σ (σ.2 27) (σ.1 4)) = zf σ from rfl) X
        rw [← nI_iN v] at hl
        refine lv_aload_n hx hb dX12_answer_37 rfl (lv_at hl 0 rfl) ?_
        refine ctV_V (wf := []) (As := []) (rest := []) (n := 0) hx hb hml hown hts hK hA (ap_nil X) hl.1 (m_recv G X) (c_setMind hcl ht0 ht1 (σ := (zf σ))  (hok)) (cwV 0 hts (mg_V mk_156 mk_168 mk_169 mk_170 mk_43) rfl rfl rfl (by decide +kernel) ⟨Nat.le_of_ble_eq_true rfl, Nat.le_of_ble_eq_true rfl⟩) rfl (Nat.le_of_ble_eq_true rfl) dX12_answer_38 ⟨Nat.le_refl _, Nat.le_refl _⟩ (fun H locs X => ?_)
        replace X := ap_nil' X
        refine lv_aload_n hx hb dX12_answer_41 rfl (lv_at hl 0 rfl) ?_
        refine lv_iload_n hx hb dX12_answer_42 rfl (lv_at hl 1 rfl) ?_
        refine lv_iload_n hx hb dX12_answer_43 rfl (lv_at hl 2 rfl) ?_
        refine ctV_V (wf := []) (As := [.int (nI xc), .int (nI (iN v))]) (rest := []) (n := 2) hx hb hml hown hts hK hA (ap_nil X) hl.1 (m_recv G X) (c_hear hcl ht0 ht1 (σ := (sA (zf σ) 29 (zcp ((σ.2 14)) (σ.2 29) ((σ.1 4))))) xc (iN v) (hok) (by omega) (zians (n := σ.1 4) c_18 (by omega)) (zWok_ws hW _) (hp)) (cwV 2 hts (mg_V mk_172 mk_173 mk_174 mk_175 mk_43) rfl rfl rfl (by decide +kernel) ⟨Nat.le_of_ble_eq_true rfl, Nat.le_of_ble_eq_true rfl⟩) rfl (Nat.le_of_ble_eq_true rfl) dX12_answer_44 ⟨Nat.le_refl _, Nat.le_refl _⟩ (fun H locs X => ?_)
        replace X := ap_nil' X
        refine lv_aload_n hx hb dX12_answer_47 rfl (lv_at hl 0 rfl) ?_
        refine ctI_V (wf := []) (As := []) (rest := []) (n := 0) hx hb hml hown hts hK hA (ap_nil X) hl.1 (m_recv G X) (c_keepMind hcl ht0 ht1 (σ := (sA (sA (zf σ) 29 (zcp ((σ.2 14)) (σ.2 29) ((σ.1 4)))) 29 (zcp (zhearM (zf σ) ((zcp ((σ.2 14)) (σ.2 29) ((σ.1 4)))) xc (iN v)) (zcp ((σ.2 14)) (σ.2 29) ((σ.1 4))) ((σ.1 4)))))  (hok) (fun w9 hw9 => by (show zcp (zhearM (zf σ) (zcp (σ.2 14) (σ.2 29) (σ.1 4)) xc (iN v)) (zcp (σ.2 14) (σ.2 29) (σ.1 4)) (σ.1 4) w9 < _); rw [zcp_in (show w9 < σ.1 4 from hw9)]; (show (zcp (σ.2 14) (σ.2 29) (σ.1 4)) w9 * zhund (zf σ) xc (iN v) w9 < _); rw [zcp_in (show w9 < σ.1 4 from hw9)]; have h1 := htb w9 hw9; have h2 := zhund_le (σ := zf σ) (a := iN v) (w := w9) hok hxc; have h3 := Nat.mul_le_mul h1 h2; omega)) (cwV 0 hts (mg_V mk_158 mk_176 mk_177 mk_178 mk_43) rfl rfl rfl (by decide +kernel) ⟨Nat.le_of_ble_eq_true rfl, Nat.le_of_ble_eq_true rfl⟩) rfl (Nat.le_of_ble_eq_true rfl) dX12_answer_48 ⟨Nat.le_refl _, Nat.le_refl _⟩ (fun H locs X => ?_)
        replace X := ap_nil' X
        refine gi_raw (y := (if zgall ((zcp (zhearM (zf σ) ((zcp ((σ.2 14)) (σ.2 29) ((σ.1 4)))) xc (iN v)) (zcp ((σ.2 14)) (σ.2 29) ((σ.1 4))) ((σ.1 4)))) ((σ.1 4)) = 0 then -3 else nI (zbest (zset ((σ.1 4)) ((zcp (zhearM (zf σ) ((zcp ((σ.2 14)) (σ.2 29) ((σ.1 4)))) xc (iN v)) (zcp ((σ.2 14)) (σ.2 29) ((σ.1 4))) ((σ.1 4))))) ((σ.1 4))))) rfl ?_
        exact finIP_of ((zkeepR_cong (σ := σ) (H' := zansH σ (nI xc) v) (fun w9 hw9 => by unfold zansH; rw [zcp_in hw9, ztoNat (show xc < 2147483648 by omega)]; (show zcp (σ.2 14) (σ.2 29) (σ.1 4) w9 * _ = _); rw [zcp_in hw9])).trans (by unfold zanswerS; rw [if_neg (fun h9 => h9 ⟨c_10, c_18⟩), if_neg (fun h9 => h9 c_27)])) (u := (sA (sA (sA (sA (zf σ) 29 (zcp ((σ.2 14)) (σ.2 29) ((σ.1 4)))) 29 (zcp (zhearM (zf σ) ((zcp ((σ.2 14)) (σ.2 29) ((σ.1 4)))) xc (iN v)) (zcp ((σ.2 14)) (σ.2 29) ((σ.1 4))) ((σ.1 4)))) 29 (zset ((σ.1 4)) ((zcp (zhearM (zf σ) ((zcp ((σ.2 14)) (σ.2 29) ((σ.1 4)))) xc (iN v)) (zcp ((σ.2 14)) (σ.2 29) ((σ.1 4))) ((σ.1 4)))))) 14 (if zgall ((zcp (zhearM (zf σ) ((zcp ((σ.2 14)) (σ.2 29) ((σ.1 4)))) xc (iN v)) (zcp ((σ.2 14)) (σ.2 29) ((σ.1 4))) ((σ.1 4)))) ((σ.1 4)) = 0 then (σ.2 14) else zcp (zset ((σ.1 4)) ((zcp (zhearM (zf σ) ((zcp ((σ.2 14)) (σ.2 29) ((σ.1 4)))) xc (iN v)) (zcp ((σ.2 14)) (σ.2 29) ((σ.1 4))) ((σ.1 4))))) ((σ.2 14)) ((σ.1 4))))) (by unfold zanswerT; rw [if_neg (fun h9 => h9 ⟨c_10, c_18⟩), if_neg (fun h9 => h9 c_27)]; exact zkeep_mEq (mEq_A29 (mEq_A29 (mEq_zf hW))) (fun w9 hw9 => by unfold zansH; rw [zcp_in hw9, ztoNat (show xc < 2147483648 by omega)]; (show zcp (σ.2 14) (σ.2 29) (σ.1 4) w9 * _ = _); rw [zcp_in hw9])) X dX12_answer_51 fin
      ·
        refine lv_bipush (v := (-3)) hx hb dX12_answer_30 (by decide) ?_
        exact finIP_of (by unfold zanswerS; rw [if_neg (fun h9 => h9 ⟨c_10, c_18⟩), if_pos c_27]) (u := σ) (by unfold zanswerT; rw [if_neg (fun h9 => h9 ⟨c_10, c_18⟩), if_pos c_27]; exact mEq_refl hW) X dX12_answer_32 fin
    ·
      refine lv_iconst (v := (-1)) hx hb dX12_answer_21 (by decide) ?_
      exact finIP_of (by unfold zanswerS; first | (rw [if_pos (fun h9 => c_10 h9.1)]) | (rw [if_pos (fun h9 => c_18 h9.2)])) (u := σ) (by unfold zanswerT; first | (rw [if_pos (fun h9 => c_10 h9.1)]; exact mEq_refl hW) | (rw [if_pos (fun h9 => c_18 h9.2)]; exact mEq_refl hW)) X dX12_answer_22 fin
set_option maxHeartbeats 4000000 in
set_option maxRecDepth 100000 in
theorem c_found {l : Launch} {D : va_G} {cl : List vw_C} {tys : List (ClassId × FieldType)} {o : Nat} {q : Nat → Nat} {ci : Nat} {cI cJ : ClassId} (hcl : cl[ci]? = some (RX12, TX12, 48)) (ht0 : tys[0]? = some (cI, .int)) (ht1 : tys[1]? = some (cJ, .long)) {σ : MS} {σ0 : MS} (h15 : σ = sF σ0 15 0) (x : Int32) (xo : Nat) (hok : mOk σ) (hsh : mSh σ) (ho : xo < 2) : ctIP l D cl tys yX12_found (Cond.code yX12_found cX12_found 3 (some .int) :: mW) { frames := 3, cells := 0, slots := 0, locals := 74 } [.ref o, .int x, .int (nI xo)] (mw o q ci cI cJ σ0) (mw o q ci cI cJ) (zfoundS σ x xo) (fun u => mEq (zfoundT σ x xo) u) := by
  refine ctIP_of (cc := cX12_found) (maxL := 3) (by decide +kernel) rfl (Nat.le_of_ble_eq_true rfl) ?_
  intro p e s m args below meth c A Q ls hx hb hml hown hts hK hA X hl fin
  replace hown : s.vm.findClass RX12 = some m.cls := hown
  have hwd : ∀ w ∈ mW, w.before args s = true := fun w h => hts w (List.mem_cons_of_mem _ h)
  have G : mG p c cX12_found s m args D cl tys ci cI cJ := ⟨hx, hb, hown, hwd, hK, hcl, ht0, ht1⟩
  replace hl : lv_has ls 3 [(0, .ref o), (1, .int x), (2, .int (nI xo))] := hl
  obtain ⟨kr, kw, ks, kroad, kworld, ksort, kmet, ksum, kst, kco⟩ := id hok
  obtain ⟨hh, hru, hro, htb, hW, hp28, hth⟩ := id hsh
  have hp : σ.1 28 < 8 ∨ σ.1 28 = 4294967295 := Or.inr hp28
  refine lv_aload_n hx hb dX12_found_0 rfl (lv_at hl 0 rfl) ?_
  refine lv_iconst (v := nI 0) hx hb dX12_found_1 (by decide) ?_
  refine m_puti G X 15 rfl (hwd _ mk_35) rfl (ty := .int) (by decide +kernel) rfl rfl dX12_found_2 (fun H locs X => ?_)
  rw [← h15] at X
  refine lv_iload_n hx hb dX12_found_5 rfl (lv_at hl 1 rfl) ?_
  refine lv_i2l (v := x.toInt64) hx hb dX12_found_6 rfl ?_
  refine lv_lconst (v := lN 0) hx hb dX12_found_7 (by decide) ?_
  refine lv_aload_n hx hb dX12_found_8 rfl (lv_at hl 0 rfl) ?_
  refine m_geti G X 0 rfl (hwd _ mk_77) rfl dX12_found_9 ?_
  refine lv_iconst (v := nI 1) hx hb dX12_found_12 (by decide) ?_
  refine lv_isub hx hb dX12_found_13 ?_
  refine lv_i2l (v := (nI (σ.1 0) - nI 1).toInt64) hx hb dX12_found_14 rfl ?_
  refine ctI_S (w := []) (wf := mw o q ci cI cJ σ) (As := [.long x.toInt64, .long (lN 0), .long ((nI (σ.1 0) - nI 1).toInt64)]) (rest := []) (n := 3) hx hb hml hown hts hK hA X hl.1 (c_in x.toInt64 (lN 0) ((nI (σ.1 0) - nI 1).toInt64) ) (va_cwS 3 hts (mg_S mk_38 mk_41 mk_42 mk_43) rfl rfl rfl (by decide +kernel) ⟨Nat.le_of_ble_eq_true rfl, Nat.le_of_ble_eq_true rfl⟩) rfl (Nat.le_of_ble_eq_true rfl) dX12_found_15 ⟨Nat.le_refl _, Nat.le_refl _⟩ (fun H locs X => ?_)
  refine gb_if_ne (tgt := 23) hx hb dX12_found_18 (by decide) (fun c_18 => ?_) (fun c_18 => ?_)
  ·
    rw [zi_m1 x (by omega)] at c_18
    obtain ⟨xr, hxr, rfl⟩ := zi_in (n := σ.1 0) (by omega) c_18
    refine lv_aload_n hx hb dX12_found_23 rfl (lv_at hl 0 rfl) ?_
    refine ctI_V (wf := []) (As := []) (rest := []) (n := 0) hx hb hml hown hts hK hA (ap_nil X) hl.1 (m_recv G X) (c_isReady hcl ht0 ht1 (σ := σ)  (kw) (fun w9 hw9 => (kworld w9 hw9).2.1)) (cwV 0 hts (mg_V mk_47 mk_165 mk_166 mk_167 mk_43) rfl rfl rfl (by decide +kernel) ⟨Nat.le_of_ble_eq_true rfl, Nat.le_of_ble_eq_true rfl⟩) rfl (Nat.le_of_ble_eq_true rfl) dX12_found_24 ⟨Nat.le_refl _, Nat.le_refl _⟩ (fun H locs X => ?_)
    replace X := ap_nil' X
    refine gb_if_ne (tgt := 33) hx hb dX12_found_27 (by decide) (fun c_27 => ?_) (fun c_27 => ?_)
    ·
      refine lv_aload_n hx hb dX12_found_33 rfl (lv_at hl 0 rfl) ?_
      refine ctV_V (wf := []) (As := []) (rest := []) (n := 0) hx hb hml hown hts hK hA (ap_nil X) hl.1 (m_recv G X) (c_setMind hcl ht0 ht1 (σ := σ)  (hok)) (cwV 0 hts (mg_V mk_156 mk_168 mk_169 mk_170 mk_43) rfl rfl rfl (by decide +kernel) ⟨Nat.le_of_ble_eq_true rfl, Nat.le_of_ble_eq_true rfl⟩) rfl (Nat.le_of_ble_eq_true rfl) dX12_found_34 ⟨Nat.le_refl _, Nat.le_refl _⟩ (fun H locs X => ?_)
      replace X := ap_nil' X
      refine lv_aload_n hx hb dX12_found_37 rfl (lv_at hl 0 rfl) ?_
      refine lv_iload_n hx hb dX12_found_38 rfl (lv_at hl 1 rfl) ?_
      refine lv_iload_n hx hb dX12_found_39 rfl (lv_at hl 2 rfl) ?_
      refine ctV_V (wf := []) (As := [.int (nI xr), .int (nI xo)]) (rest := []) (n := 2) hx hb hml hown hts hK hA (ap_nil X) hl.1 (m_recv G X) (c_see hcl ht0 ht1 (σ := (sA σ 29 (zcp ((σ.2 14)) (σ.2 29) ((σ.1 4))))) xr xo (hok) (by omega) (by omega)) (cwV 2 hts (mg_V mk_180 mk_181 mk_182 mk_183 mk_43) rfl rfl rfl (by decide +kernel) ⟨Nat.le_of_ble_eq_true rfl, Nat.le_of_ble_eq_true rfl⟩) rfl (Nat.le_of_ble_eq_true rfl) dX12_found_40 ⟨Nat.le_refl _, Nat.le_refl _⟩ (fun H locs X => ?_)
      replace X := ap_nil' X
      refine lv_aload_n hx hb dX12_found_43 rfl (lv_at hl 0 rfl) ?_
      refine ctI_V (wf := []) (As := []) (rest := []) (n := 0) hx hb hml hown hts hK hA (ap_nil X) hl.1 (m_recv G X) (c_keepMind hcl ht0 ht1 (σ := (sA (sA σ 29 (zcp ((σ.2 14)) (σ.2 29) ((σ.1 4)))) 29 (zcp (zseeM σ ((zcp ((σ.2 14)) (σ.2 29) ((σ.1 4)))) xr xo) (zcp ((σ.2 14)) (σ.2 29) ((σ.1 4))) ((σ.1 4)))))  (hok) (fun w9 hw9 => by (show zcp (zseeM σ (zcp (σ.2 14) (σ.2 29) (σ.1 4)) xr xo) (zcp (σ.2 14) (σ.2 29) (σ.1 4)) (σ.1 4) w9 < _); rw [zcp_in (show w9 < σ.1 4 from hw9)]; refine Nat.lt_of_le_of_lt (zite_le (B := 100000000000) ?_) (by decide); rw [zcp_in (show w9 < σ.1 4 from hw9)]; exact htb w9 hw9)) (cwV 0 hts (mg_V mk_158 mk_176 mk_177 mk_178 mk_43) rfl rfl rfl (by decide +kernel) ⟨Nat.le_of_ble_eq_true rfl, Nat.le_of_ble_eq_true rfl⟩) rfl (Nat.le_of_ble_eq_true rfl) dX12_found_44 ⟨Nat.le_refl _, Nat.le_refl _⟩ (fun H locs X => ?_)
      replace X := ap_nil' X
      refine gi_raw (y := (if zgall ((zcp (zseeM σ ((zcp ((σ.2 14)) (σ.2 29) ((σ.1 4)))) xr xo) (zcp ((σ.2 14)) (σ.2 29) ((σ.1 4))) ((σ.1 4)))) ((σ.1 4)) = 0 then -3 else nI (zbest (zset ((σ.1 4)) ((zcp (zseeM σ ((zcp ((σ.2 14)) (σ.2 29) ((σ.1 4)))) xr xo) (zcp ((σ.2 14)) (σ.2 29) ((σ.1 4))) ((σ.1 4))))) ((σ.1 4))))) rfl ?_
      exact finIP_of ((zkeepR_cong (σ := σ) (H' := zfndH σ (nI xr) xo) (fun w9 hw9 => by unfold zfndH; rw [zcp_in hw9, ztoNat (show xr < 2147483648 by omega)]; (show (if _ then 0 else zcp (σ.2 14) (σ.2 29) (σ.1 4) w9) = _); rw [zcp_in hw9])).trans (by unfold zfoundS; rw [if_neg (fun h9 => h9 c_18), if_neg (fun h9 => h9 c_27)])) (u := (sA (sA (sA (sA σ 29 (zcp ((σ.2 14)) (σ.2 29) ((σ.1 4)))) 29 (zcp (zseeM σ ((zcp ((σ.2 14)) (σ.2 29) ((σ.1 4)))) xr xo) (zcp ((σ.2 14)) (σ.2 29) ((σ.1 4))) ((σ.1 4)))) 29 (zset ((σ.1 4)) ((zcp (zseeM σ ((zcp ((σ.2 14)) (σ.2 29) ((σ.1 4)))) xr xo) (zcp ((σ.2 14)) (σ.2 29) ((σ.1 4))) ((σ.1 4)))))) 14 (if zgall ((zcp (zseeM σ ((zcp ((σ.2 14)) (σ.2 29) ((σ.1 4)))) xr xo) (zcp ((σ.2 14)) (σ.2 29) ((σ.1 4))) ((σ.1 4)))) ((σ.1 4)) = 0 then (σ.2 14) else zcp (zset ((σ.1 4)) ((zcp (zseeM σ ((zcp ((σ.2 14)) (σ.2 29) ((σ.1 4)))) xr xo) (zcp ((σ.2 14)) (σ.2 29) ((σ.1 4))) ((σ.1 4))))) ((σ.2 14)) ((σ.1 4))))) (by unfold zfoundT; rw [if_neg (fun h9 => h9 c_18), if_neg (fun h9 => h9 c_27)]; exact zkeep_mEq (mEq_A29 (mEq_A29 (mEq_refl hW))) (fun w9 hw9 => by unfold zfndH; rw [zcp_in hw9, ztoNat (show xr < 2147483648 by omega)]; (show (if _ then 0 else zcp (σ.2 14) (σ.2 29) (σ.1 4) w9) = _); rw [zcp_in hw9])) X dX12_found_47 fin
    ·
      refine lv_bipush (v := (-3)) hx hb dX12_found_30 (by decide) ?_
      exact finIP_of (by unfold zfoundS; rw [if_neg (fun h9 => h9 c_18), if_pos c_27]) (u := σ) (by unfold zfoundT; rw [if_neg (fun h9 => h9 c_18), if_pos c_27]; exact mEq_refl hW) X dX12_found_32 fin
  ·
    rw [zi_m1 x (by omega)] at c_18
    refine lv_iconst (v := (-1)) hx hb dX12_found_21 (by decide) ?_
    exact finIP_of (by unfold zfoundS; rw [if_pos c_18]) (u := σ) (by unfold zfoundT; rw [if_pos c_18]; exact mEq_refl hW) X dX12_found_22 fin
set_option maxHeartbeats 4000000 in
set_option maxRecDepth 100000 in
theorem c_same {l : Launch} {D : va_G} {cl : List vw_C} {tys : List (ClassId × FieldType)} {o : Nat} {q : Nat → Nat} {ci : Nat} {cI cJ : ClassId} (hcl : cl[ci]? = some (RX12, TX12, 48)) (ht0 : tys[0]? = some (cI, .int)) (ht1 : tys[1]? = some (cJ, .long)) {σ : MS} {σ0 : MS} (h15 : σ = sF σ0 15 0) (x : Int32) (v : Int32) (y : Int32) (hok : mOk σ) (hsh : mSh σ) : ctIP l D cl tys yX12_same (Cond.code yX12_same cX12_same 7 (some .int) :: mW) { frames := 3, cells := 0, slots := 0, locals := 74 } [.ref o, .int x, .int v, .int y] (mw o q ci cI cJ σ0) (mw o q ci cI cJ) (zsameS σ x v y) (fun u => mEq (zsameT σ x v y) u) := by
  refine ctIP_of (cc := cX12_same) (maxL := 7) (by decide +kernel) rfl (Nat.le_of_ble_eq_true rfl) ?_
  intro p e s m args below meth c A Q ls hx hb hml hown hts hK hA X hl fin
  replace hown : s.vm.findClass RX12 = some m.cls := hown
  have hwd : ∀ w ∈ mW, w.before args s = true := fun w h => hts w (List.mem_cons_of_mem _ h)
  have G : mG p c cX12_same s m args D cl tys ci cI cJ := ⟨hx, hb, hown, hwd, hK, hcl, ht0, ht1⟩
  replace hl : lv_has ls 7 [(0, .ref o), (1, .int x), (2, .int v), (3, .int y)] := hl
  obtain ⟨kr, kw, ks, kroad, kworld, ksort, kmet, ksum, kst, kco⟩ := id hok
  obtain ⟨hh, hru, hro, htb, hW, hp28, hth⟩ := id hsh
  have hp : σ.1 28 < 8 ∨ σ.1 28 = 4294967295 := Or.inr hp28
  refine lv_aload_n hx hb dX12_same_0 rfl (lv_at hl 0 rfl) ?_
  refine lv_iconst (v := nI 0) hx hb dX12_same_1 (by decide) ?_
  refine m_puti G X 15 rfl (hwd _ mk_35) rfl (ty := .int) (by decide +kernel) rfl rfl dX12_same_2 (fun H locs X => ?_)
  rw [← h15] at X
  refine lv_aload_n hx hb dX12_same_5 rfl (lv_at hl 0 rfl) ?_
  refine lv_iload_n hx hb dX12_same_6 rfl (lv_at hl 1 rfl) ?_
  refine ctI_V (wf := []) (As := [.int x]) (rest := []) (n := 1) hx hb hml hown hts hK hA (ap_nil X) hl.1 (m_recv G X) (c_isCrossing hcl ht0 ht1 (σ := σ) x ) (cwV 1 hts (mg_V mk_39 mk_108 mk_109 mk_110 mk_43) rfl rfl rfl (by decide +kernel) ⟨Nat.le_of_ble_eq_true rfl, Nat.le_of_ble_eq_true rfl⟩) rfl (Nat.le_of_ble_eq_true rfl) dX12_same_7 ⟨Nat.le_refl _, Nat.le_refl _⟩ (fun H locs X => ?_)
  replace X := ap_nil' X
  refine gb_if_eq (tgt := 33) hx hb dX12_same_10 (by decide) (fun c_10 => ?_) (fun c_10 => ?_)
  ·
    refine lv_iconst (v := (-1)) hx hb dX12_same_33 (by decide) ?_
    exact finIP_of (by unfold zsameS; first | (rw [if_pos (fun h9 => c_10 h9.1)]) | (rw [if_pos (fun h9 => c_18 h9.2.1)]) | (rw [if_pos (fun h9 => c_30 h9.2.2)])) (u := σ) (by unfold zsameT; first | (rw [if_pos (fun h9 => c_10 h9.1)]; exact mEq_refl hW) | (rw [if_pos (fun h9 => c_18 h9.2.1)]; exact mEq_refl hW) | (rw [if_pos (fun h9 => c_30 h9.2.2)]; exact mEq_refl hW)) X dX12_same_34 fin
  ·
    obtain ⟨xc, hxc, rfl⟩ := zi_in (n := 8) (by omega) c_10
    refine lv_aload_n hx hb dX12_same_13 rfl (lv_at hl 0 rfl) ?_
    refine lv_iload_n hx hb dX12_same_14 rfl (lv_at hl 2 rfl) ?_
    refine ctI_V (wf := []) (As := [.int v]) (rest := []) (n := 1) hx hb hml hown hts hK hA (ap_nil X) hl.1 (m_recv G X) (c_isAnswer hcl ht0 ht1 (σ := σ) v (hok)) (cwV 1 hts (mg_V mk_142 mk_144 mk_145 mk_146 mk_43) rfl rfl rfl (by decide +kernel) ⟨Nat.le_of_ble_eq_true rfl, Nat.le_of_ble_eq_true rfl⟩) rfl (Nat.le_of_ble_eq_true rfl) dX12_same_15 ⟨Nat.le_refl _, Nat.le_refl _⟩ (fun H locs X => ?_)
    replace X := ap_nil' X
    refine gb_if_eq (tgt := 33) hx hb dX12_same_18 (by decide) (fun c_18 => ?_) (fun c_18 => ?_)
    ·
      refine lv_iconst (v := (-1)) hx hb dX12_same_33 (by decide) ?_
      exact finIP_of (by unfold zsameS; first | (rw [if_pos (fun h9 => c_10 h9.1)]) | (rw [if_pos (fun h9 => c_18 h9.2.1)]) | (rw [if_pos (fun h9 => c_30 h9.2.2)])) (u := σ) (by unfold zsameT; first | (rw [if_pos (fun h9 => c_10 h9.1)]; exact mEq_refl hW) | (rw [if_pos (fun h9 => c_18 h9.2.1)]; exact mEq_refl hW) | (rw [if_pos (fun h9 => c_30 h9.2.2)]; exact mEq_refl hW)) X dX12_same_34 fin
    ·
      refine lv_iload_n hx hb dX12_same_21 rfl (lv_at hl 3 rfl) ?_
      refine lv_i2l (v := y.toInt64) hx hb dX12_same_22 rfl ?_
      refine lv_lconst (v := lN 0) hx hb dX12_same_23 (by decide) ?_
      refine gn_ldc2 (v := 100) (k := 100) hx hb hown (hwd _ mk_78) (by decide) dX12_same_24 ?_
      refine ctI_S (w := []) (wf := mw o q ci cI cJ σ) (As := [.long y.toInt64, .long (lN 0), .long (lN 100)]) (rest := []) (n := 3) hx hb hml hown hts hK hA X hl.1 (c_in y.toInt64 (lN 0) (lN 100) ) (va_cwS 3 hts (mg_S mk_38 mk_41 mk_42 mk_43) rfl rfl rfl (by decide +kernel) ⟨Nat.le_of_ble_eq_true rfl, Nat.le_of_ble_eq_true rfl⟩) rfl (Nat.le_of_ble_eq_true rfl) dX12_same_27 ⟨Nat.le_refl _, Nat.le_refl _⟩ (fun H locs X => ?_)
      refine gb_if_ne (tgt := 35) hx hb dX12_same_30 (by decide) (fun c_30 => ?_) (fun c_30 => ?_)
      ·
        rw [zi_n y (by decide)] at c_30
        obtain ⟨xq, hxq, rfl⟩ := zi_in (n := 101) (by omega) c_30
        refine lv_aload_n hx hb dX12_same_35 rfl (lv_at hl 0 rfl) ?_
        refine ctI_V (wf := []) (As := []) (rest := []) (n := 0) hx hb hml hown hts hK hA (ap_nil X) hl.1 (m_recv G X) (c_isReady hcl ht0 ht1 (σ := σ)  (kw) (fun w9 hw9 => (kworld w9 hw9).2.1)) (cwV 0 hts (mg_V mk_47 mk_165 mk_166 mk_167 mk_43) rfl rfl rfl (by decide +kernel) ⟨Nat.le_of_ble_eq_true rfl, Nat.le_of_ble_eq_true rfl⟩) rfl (Nat.le_of_ble_eq_true rfl) dX12_same_36 ⟨Nat.le_refl _, Nat.le_refl _⟩ (fun H locs X => ?_)
        replace X := ap_nil' X
        refine gb_if_ne (tgt := 45) hx hb dX12_same_39 (by decide) (fun c_39 => ?_) (fun c_39 => ?_)
        ·
          refine lv_aload_n hx hb dX12_same_45 rfl (lv_at hl 0 rfl) ?_
          refine ctV_V (wf := []) (As := []) (rest := []) (n := 0) hx hb hml hown hts hK hA (ap_nil X) hl.1 (m_recv G X) (c_findWays hcl ht0 ht1 (σ := σ)  (hok) (hW)) (cwV 0 hts (mg_V mk_116 mk_128 mk_129 mk_130 mk_43) rfl rfl rfl (by decide +kernel) ⟨Nat.le_of_ble_eq_true rfl, Nat.le_of_ble_eq_true rfl⟩) rfl (Nat.le_of_ble_eq_true rfl) dX12_same_46 ⟨Nat.le_refl _, Nat.le_refl _⟩ (fun H locs X => ?_)
          replace X := ap_nil' X
          replace X := wh_eq (show sA σ 27 (zws σ (σ.2 27) (σ.1 4)) = zf σ from rfl) X
          rw [← nI_iN v] at hl
          refine lv_aload_n hx hb dX12_same_49 rfl (lv_at hl 0 rfl) ?_
          refine ctV_V (wf := []) (As := []) (rest := []) (n := 0) hx hb hml hown hts hK hA (ap_nil X) hl.1 (m_recv G X) (c_setMind hcl ht0 ht1 (σ := (zf σ))  (hok)) (cwV 0 hts (mg_V mk_156 mk_168 mk_169 mk_170 mk_43) rfl rfl rfl (by decide +kernel) ⟨Nat.le_of_ble_eq_true rfl, Nat.le_of_ble_eq_true rfl⟩) rfl (Nat.le_of_ble_eq_true rfl) dX12_same_50 ⟨Nat.le_refl _, Nat.le_refl _⟩ (fun H locs X => ?_)
          replace X := ap_nil' X
          refine lv_iconst (v := nI 0) hx hb dX12_same_53 (by decide) ?_
          refine lv_istore (lv' := [(4, .int (nI 0)), (0, .ref o), (1, .int (nI xc)), (2, .int (nI (iN v))), (3, .int (nI xq))]) hx hb dX12_same_54 hl (by decide) rfl (fun ls hl => ?_)
          have cut_56 : ∀ (NN : Nat) (w1 : Nat) (h1 : w1 ≤ σ.1 4), σ.1 4 - w1 < NN → ∀ (H : Heap) (locs : List Loc) (ls : Array Slot), wH D cl A s.heap H locs (mw o q ci cI cJ (sA (sA (zf σ) 29 (zcp (σ.2 14) (σ.2 29) (σ.1 4))) 29 (zcp (zsamM (zf σ) (zcp (σ.2 14) (σ.2 29) (σ.1 4)) xc (iN v) xq) (zcp (σ.2 14) (σ.2 29) (σ.1 4)) w1))) → lv_has ls 7 [(0, .ref o), (1, .int (nI xc)), (2, .int (nI (iN v))), (3, .int (nI xq)), (4, .int (nI w1))] → W p l e { frames := 3, cells := 0, slots := 0, locals := 74 } s m args below meth c H locs 0 0 Q (F0 m 56 ls []) := by
            intro NN
            induction NN with
            | zero => intro w1 h1 hNN; exact absurd hNN (Nat.not_lt_zero _)
            | succ NN ih_56 =>
              intro w1 h1 hNN H locs ls X hl
              refine lv_iload hx hb dX12_same_56 (lv_at hl 4 rfl) ?_
              refine lv_aload_n hx hb dX12_same_58 rfl (lv_at hl 0 rfl) ?_
              refine m_geti G X 4 rfl (hwd _ mk_45) rfl dX12_same_59 ?_
              refine gi_eq (a := (σ.1 4)) rfl ?_
              refine gn_icmp_ge (tgt := 111) hx hb dX12_same_62 (by decide) (by omega) (by omega) (fun c_62 => ?_) (fun c_62 => ?_)
              ·
                refine lv_aload_n hx hb dX12_same_111 rfl (lv_at hl 0 rfl) ?_
                refine ctI_V (wf := []) (As := []) (rest := []) (n := 0) hx hb hml hown hts hK hA (ap_nil X) hl.1 (m_recv G X) (c_keepMind hcl ht0 ht1 (σ := (sA (sA (zf σ) 29 (zcp (σ.2 14) (σ.2 29) (σ.1 4))) 29 (zcp (zsamM (zf σ) (zcp (σ.2 14) (σ.2 29) (σ.1 4)) xc (iN v) xq) (zcp (σ.2 14) (σ.2 29) (σ.1 4)) w1)))  (hok) (fun w9 hw9 => by (show zcp (zsamM (zf σ) (zcp (σ.2 14) (σ.2 29) (σ.1 4)) xc (iN v) xq) (zcp (σ.2 14) (σ.2 29) (σ.1 4)) w1 w9 < _); rw [zcp_in (by have : w9 < σ.1 4 := hw9; omega)]; exact zsam_lt (σ := zf σ) hok hxc (by omega) (by rw [zcp_in (show w9 < σ.1 4 from hw9)]; exact htb w9 hw9))) (cwV 0 hts (mg_V mk_158 mk_176 mk_177 mk_178 mk_43) rfl rfl rfl (by decide +kernel) ⟨Nat.le_of_ble_eq_true rfl, Nat.le_of_ble_eq_true rfl⟩) rfl (Nat.le_of_ble_eq_true rfl) dX12_same_112 ⟨Nat.le_refl _, Nat.le_refl _⟩ (fun H locs X => ?_)
                replace X := ap_nil' X
                refine gi_raw (y := (if zgall ((zcp (zsamM (zf σ) (zcp (σ.2 14) (σ.2 29) (σ.1 4)) xc (iN v) xq) (zcp (σ.2 14) (σ.2 29) (σ.1 4)) w1)) ((σ.1 4)) = 0 then -3 else nI (zbest (zset ((σ.1 4)) ((zcp (zsamM (zf σ) (zcp (σ.2 14) (σ.2 29) (σ.1 4)) xc (iN v) xq) (zcp (σ.2 14) (σ.2 29) (σ.1 4)) w1))) ((σ.1 4))))) rfl ?_
                exact finIP_of ((zkeepR_cong (σ := σ) (H' := zsamH σ (nI xc) v (nI xq)) (fun w9 hw9 => by unfold zsamH; rw [zcp_in (by omega), ztoNat (show xc < 2147483648 by omega), ztoNat (show xq < 2147483648 by omega)]; (show zcp (σ.2 14) (σ.2 29) (σ.1 4) w9 * _ = _); rw [zcp_in hw9]; rfl)).trans (by unfold zsameS; rw [if_neg (fun h9 => h9 ⟨c_10, c_18, c_30⟩), if_neg (fun h9 => h9 c_39)])) (u := (sA (sA (sA (sA (zf σ) 29 (zcp (σ.2 14) (σ.2 29) (σ.1 4))) 29 (zcp (zsamM (zf σ) (zcp (σ.2 14) (σ.2 29) (σ.1 4)) xc (iN v) xq) (zcp (σ.2 14) (σ.2 29) (σ.1 4)) w1)) 29 (zset ((σ.1 4)) ((zcp (zsamM (zf σ) (zcp (σ.2 14) (σ.2 29) (σ.1 4)) xc (iN v) xq) (zcp (σ.2 14) (σ.2 29) (σ.1 4)) w1)))) 14 (if zgall ((zcp (zsamM (zf σ) (zcp (σ.2 14) (σ.2 29) (σ.1 4)) xc (iN v) xq) (zcp (σ.2 14) (σ.2 29) (σ.1 4)) w1)) ((σ.1 4)) = 0 then (σ.2 14) else zcp (zset ((σ.1 4)) ((zcp (zsamM (zf σ) (zcp (σ.2 14) (σ.2 29) (σ.1 4)) xc (iN v) xq) (zcp (σ.2 14) (σ.2 29) (σ.1 4)) w1))) ((σ.2 14)) ((σ.1 4))))) (by unfold zsameT; rw [if_neg (fun h9 => h9 ⟨c_10, c_18, c_30⟩), if_neg (fun h9 => h9 c_39)]; exact zkeep_mEq (mEq_A29 (mEq_A29 (mEq_zf hW))) (fun w9 hw9 => by unfold zsamH; rw [zcp_in (by omega), ztoNat (show xc < 2147483648 by omega), ztoNat (show xq < 2147483648 by omega)]; (show zcp (σ.2 14) (σ.2 29) (σ.1 4) w9 * _ = _); rw [zcp_in hw9]; rfl)) X dX12_same_115 fin
              ·
                refine lv_aload_n hx hb dX12_same_65 rfl (lv_at hl 0 rfl) ?_
                refine lv_iload_n hx hb dX12_same_66 rfl (lv_at hl 1 rfl) ?_
                refine lv_iload_n hx hb dX12_same_67 rfl (lv_at hl 2 rfl) ?_
                refine lv_iload hx hb dX12_same_68 (lv_at hl 4 rfl) ?_
                refine ctI_V (wf := []) (As := [.int (nI xc), .int (nI (iN v)), .int (nI w1)]) (rest := []) (n := 3) hx hb hml hown hts hK hA (ap_nil X) hl.1 (m_recv G X) (c_hundredths hcl ht0 ht1 (σ := (sA (sA (zf σ) 29 (zcp (σ.2 14) (σ.2 29) (σ.1 4))) 29 (zcp (zsamM (zf σ) (zcp (σ.2 14) (σ.2 29) (σ.1 4)) xc (iN v) xq) (zcp (σ.2 14) (σ.2 29) (σ.1 4)) w1))) xc (iN v) w1 (hok) (by omega) (zians (n := σ.1 4) c_18 (by omega)) (c_62) (zWok_ws hW _) (hp)) (cwV 3 hts (mg_V mk_141 mk_147 mk_148 mk_149 mk_43) rfl rfl rfl (by decide +kernel) ⟨Nat.le_of_ble_eq_true rfl, Nat.le_of_ble_eq_true rfl⟩) rfl (Nat.le_of_ble_eq_true rfl) dX12_same_70 ⟨Nat.le_refl _, Nat.le_refl _⟩ (fun H locs X => ?_)
                replace X := ap_nil' X
                refine gi_raw (y := (nI (zhund (zf σ) xc (iN v) w1))) rfl ?_
                have hhu := zhund_le (σ := zf σ) (a := iN v) (w := w1) hok hxc
                refine gn_i2l hx hb dX12_same_73 (by omega) ?_
                refine lv_lstore (lv' := [(5, .long (lN (zhund (zf σ) xc (iN v) w1))), (0, .ref o), (1, .int (nI xc)), (2, .int (nI (iN v))), (3, .int (nI xq)), (4, .int (nI w1))]) hx hb dX12_same_74 hl (by decide) rfl (fun ls hl => ?_)
                refine lv_aload_n hx hb dX12_same_76 rfl (lv_at hl 1 rfl) ?_
                refine m_geta G X 29 rfl (hwd _ mk_24) rfl dX12_same_77 ?_
                refine lv_iload hx hb dX12_same_80 (lv_at hl 5 rfl) ?_
                refine lv_dup2_11 hx hb dX12_same_82 rfl rfl ?_
                refine m_lald G X 29 rfl (i := w1) (by show _ < 5; omega) (by omega) dX12_same_83 ?_
                refine gl_eq (a := ((zcp (zsamM (zf σ) (zcp (σ.2 14) (σ.2 29) (σ.1 4)) xc (iN v) xq) (zcp (σ.2 14) (σ.2 29) (σ.1 4)) w1) w1)) rfl ?_
                refine gl_eq (a := ((zcp (σ.2 14) (σ.2 29) (σ.1 4)) w1)) (zcp_out (Nat.le_refl _)) ?_
                refine lv_lload hx hb dX12_same_84 (lv_at hl 0 rfl) ?_
                refine gn_ldc2 (v := 100) (k := 100) hx hb hown (hwd _ mk_78) (by decide) dX12_same_86 ?_
                refine lv_iload_n hx hb dX12_same_89 rfl (lv_at hl 4 rfl) ?_
                refine gn_i2l hx hb dX12_same_90 (by omega) ?_
                refine gn_lmul hx hb dX12_same_91  ?_
                refine gn_ldc2 (v := 100) (k := 100) hx hb hown (hwd _ mk_78) (by decide) dX12_same_92 ?_
                refine lv_iload_n hx hb dX12_same_95 rfl (lv_at hl 4 rfl) ?_
                refine gn_i2l hx hb dX12_same_96 (by omega) ?_
                refine gn_lsub hx hb dX12_same_97 (by omega) ?_
                refine lv_lload hx hb dX12_same_98 (lv_at hl 0 rfl) ?_
                refine gn_lmul hx hb dX12_same_100  ?_
                refine gn_ladd hx hb dX12_same_101  ?_
                refine gn_lmul hx hb dX12_same_102  ?_
                refine gn_lmul hx hb dX12_same_103  ?_
                refine m_last G X 29 rfl (i := w1) (v := (((zcp (σ.2 14) (σ.2 29) (σ.1 4)) w1) * ((zhund (zf σ) xc (iN v) w1) * ((100 * xq) + ((100 - xq) * (zhund (zf σ) xc (iN v) w1)))))) (by show _ < 5; omega) (by omega) dX12_same_104 (fun H locs X => ?_)
                refine lv_iinc (v := nI (w1 + 1)) (lv' := [(4, .int (nI (w1 + 1))), (5, .long (lN (zhund (zf σ) xc (iN v) w1))), (0, .ref o), (1, .int (nI xc)), (2, .int (nI (iN v))), (3, .int (nI xq))]) hx hb dX12_same_105 hl (k := 5) rfl (zn_inc _) (by decide) rfl (fun ls hl => ?_)
                refine lv_goto (tgt := 56) hx hb dX12_same_108 (by decide) ?_
                refine ih_56 (w1 + 1) (by omega) (by omega) _ _ _ (by exact wh_eq ((sA_e1 (sA (zf σ) 29 (zcp (σ.2 14) (σ.2 29) (σ.1 4))) 29 _ _ _).trans (congrArg (sA (sA (zf σ) 29 (zcp (σ.2 14) (σ.2 29) (σ.1 4))) 29) (zcp_1 rfl))) X) (by exact lv_sub hl [2, 3, 4, 5, 0] rfl)
          refine cut_56 _ 0 (Nat.zero_le _) (Nat.lt_succ_self _) _ _ _ (by exact wh_eq (zsm_0 (zf σ) (zcp (σ.2 14) (σ.2 29) (σ.1 4)) (zsamM (zf σ) (zcp (σ.2 14) (σ.2 29) (σ.1 4)) xc (iN v) xq)) X) (by exact lv_sub hl [1, 2, 3, 4, 0] rfl)
        ·
          refine lv_bipush (v := (-3)) hx hb dX12_same_42 (by decide) ?_
          exact finIP_of (by unfold zsameS; rw [if_neg (fun h9 => h9 ⟨c_10, c_18, c_30⟩), if_pos c_39]) (u := σ) (by unfold zsameT; rw [if_neg (fun h9 => h9 ⟨c_10, c_18, c_30⟩), if_pos c_39]; exact mEq_refl hW) X dX12_same_44 fin
      ·
        rw [zi_n y (by decide)] at c_30
        refine lv_iconst (v := (-1)) hx hb dX12_same_33 (by decide) ?_
        exact finIP_of (by unfold zsameS; first | (rw [if_pos (fun h9 => c_10 h9.1)]) | (rw [if_pos (fun h9 => c_18 h9.2.1)]) | (rw [if_pos (fun h9 => c_30 h9.2.2)])) (u := σ) (by unfold zsameT; first | (rw [if_pos (fun h9 => c_10 h9.1)]; exact mEq_refl hW) | (rw [if_pos (fun h9 => c_18 h9.2.1)]; exact mEq_refl hW) | (rw [if_pos (fun h9 => c_30 h9.2.2)]; exact mEq_refl hW)) X dX12_same_34 fin
