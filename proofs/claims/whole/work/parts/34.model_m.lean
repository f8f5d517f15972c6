set_option maxHeartbeats 4000000 in
set_option maxRecDepth 100000 in
theorem c_walk {l : Launch} {D : va_G} {cl : List vw_C} {tys : List (ClassId × FieldType)} {o : Nat} {q : Nat → Nat} {ci : Nat} {cI cJ : ClassId} (hcl : cl[ci]? = some (RX12, TX12, 48)) (ht0 : tys[0]? = some (cI, .int)) (ht1 : tys[1]? = some (cJ, .long)) {σ : MS} {σ0 : MS} (h15 : σ = sF σ0 15 0) (w : Int32) (x : Int32) (hok : mOk σ) (hsh : mSh σ) : ctIP l D cl tys yX12_walk (Cond.code yX12_walk cX12_walk 3 (some .int) :: mW) { frames := 5, cells := 0, slots := 0, locals := 128 } [.ref o, .int w, .int x] (mw o q ci cI cJ σ0) (mw o q ci cI cJ) (zwalkS σ w x) (fun u => mEq σ u) := by
  refine ctIP_of (cc := cX12_walk) (maxL := 3) (by decide +kernel) rfl (Nat.le_of_ble_eq_true rfl) ?_
  intro p e s m args below meth c A Q ls hx hb hml hown hts hK hA X hl fin
  replace hown : s.vm.findClass RX12 = some m.cls := hown
  have hwd : ∀ w ∈ mW, w.before args s = true := fun w h => hts w (List.mem_cons_of_mem _ h)
  have G : mG p c cX12_walk s m args D cl tys ci cI cJ := ⟨hx, hb, hown, hwd, hK, hcl, ht0, ht1⟩
  replace hl : lv_has ls 3 [(0, .ref o), (1, .int w), (2, .int x)] := hl
  obtain ⟨kr, kw, ks, kroad, kworld, ksort, kmet, ksum, kst, kco⟩ := id hok
  obtain ⟨hh, hru, hro, htb, hW, hp28, hth⟩ := id hsh
  have hp : σ.1 28 < 8 ∨ σ.1 28 = 4294967295 := Or.inr hp28
  refine lv_aload_n hx hb dX12_walk_0 rfl (lv_at hl 0 rfl) ?_
  refine lv_iconst (v := nI 0) hx hb dX12_walk_1 (by decide) ?_
  refine m_puti G X 15 rfl (hwd _ mk_35) rfl (ty := .int) (by decide +kernel) rfl rfl dX12_walk_2 (fun H locs X => ?_)
  rw [← h15] at X
  refine lv_aload_n hx hb dX12_walk_5 rfl (lv_at hl 0 rfl) ?_
  refine lv_iload_n hx hb dX12_walk_6 rfl (lv_at hl 1 rfl) ?_
  refine ctI_V (wf := []) (As := [.int w]) (rest := []) (n := 1) hx hb hml hown hts hK hA (ap_nil X) hl.1 (m_recv G X) (c_isWorld hcl ht0 ht1 (σ := σ) w (hok)) (cwV 1 hts (mg_V mk_44 mk_104 mk_105 mk_106 mk_43) rfl rfl rfl (by decide +kernel) ⟨Nat.le_of_ble_eq_true rfl, Nat.le_of_ble_eq_true rfl⟩) rfl (Nat.le_of_ble_eq_true rfl) dX12_walk_7 ⟨Nat.le_refl _, Nat.le_refl _⟩ (fun H locs X => ?_)
  replace X := ap_nil' X
  refine gb_if_eq (tgt := 21) hx hb dX12_walk_10 (by decide) (fun c_10 => ?_) (fun c_10 => ?_)
  ·
    refine lv_iconst (v := (-1)) hx hb dX12_walk_21 (by decide) ?_
    exact finIP_of (by unfold zwalkS; first | (rw [if_pos (fun h9 => c_10 h9.1)]) | (rw [if_pos (fun h9 => c_18 h9.2)])) (u := σ) (mEq_refl hW) X dX12_walk_22 fin
  ·
    obtain ⟨xw, hxw, rfl⟩ := zi_in (n := σ.1 4) (by omega) c_10
    refine lv_aload_n hx hb dX12_walk_13 rfl (lv_at hl 0 rfl) ?_
    refine lv_iload_n hx hb dX12_walk_14 rfl (lv_at hl 2 rfl) ?_
    refine ctI_V (wf := []) (As := [.int x]) (rest := []) (n := 1) hx hb hml hown hts hK hA (ap_nil X) hl.1 (m_recv G X) (c_isCrossing hcl ht0 ht1 (σ := σ) x ) (cwV 1 hts (mg_V mk_39 mk_108 mk_109 mk_110 mk_43) rfl rfl rfl (by decide +kernel) ⟨Nat.le_of_ble_eq_true rfl, Nat.le_of_ble_eq_true rfl⟩) rfl (Nat.le_of_ble_eq_true rfl) dX12_walk_15 ⟨Nat.le_refl _, Nat.le_refl _⟩ (fun H locs X => ?_)
    replace X := ap_nil' X
    refine gb_if_ne (tgt := 23) hx hb dX12_walk_18 (by decide) (fun c_18 => ?_) (fun c_18 => ?_)
    ·
      obtain ⟨xc, hxc, rfl⟩ := zi_in (n := 8) (by omega) c_18
      refine lv_aload_n hx hb dX12_walk_23 rfl (lv_at hl 0 rfl) ?_
      refine ctI_V (wf := []) (As := []) (rest := []) (n := 0) hx hb hml hown hts hK hA (ap_nil X) hl.1 (m_recv G X) (c_isReady hcl ht0 ht1 (σ := σ)  (kw) (fun w9 hw9 => (kworld w9 hw9).2.1)) (cwV 0 hts (mg_V mk_47 mk_165 mk_166 mk_167 mk_43) rfl rfl rfl (by decide +kernel) ⟨Nat.le_of_ble_eq_true rfl, Nat.le_of_ble_eq_true rfl⟩) rfl (Nat.le_of_ble_eq_true rfl) dX12_walk_24 ⟨Nat.le_refl _, Nat.le_refl _⟩ (fun H locs X => ?_)
      replace X := ap_nil' X
      refine gb_if_ne (tgt := 33) hx hb dX12_walk_27 (by decide) (fun c_27 => ?_) (fun c_27 => ?_)
      ·
        refine lv_aload_n hx hb dX12_walk_33 rfl (lv_at hl 0 rfl) ?_
        refine ctV_V (wf := []) (As := []) (rest := []) (n := 0) hx hb hml hown hts hK hA (ap_nil X) hl.1 (m_recv G X) (c_findWays hcl ht0 ht1 (σ := σ)  (hok) (hW)) (cwV 0 hts (mg_V mk_116 mk_128 mk_129 mk_130 mk_43) rfl rfl rfl (by decide +kernel) ⟨Nat.le_of_ble_eq_true rfl, Nat.le_of_ble_eq_true rfl⟩) rfl (Nat.le_of_ble_eq_true rfl) dX12_walk_34 ⟨Nat.le_refl _, Nat.le_refl _⟩ (fun H locs X => ?_)
        replace X := ap_nil' X
        replace X := wh_eq (show sA σ 27 (zws σ (σ.2 27) (σ.1 4)) = zf σ from rfl) X
        replace X := wh_eq (zw_self (zf σ)) X
        refine lv_aload_n hx hb dX12_walk_37 rfl (lv_at hl 0 rfl) ?_
        refine ctV_V (wf := []) (As := []) (rest := []) (n := 0) hx hb hml hown hts hK hA (ap_nil X) hl.1 (m_recv G X) (c_setMind hcl ht0 ht1 (σ := (zw (zf σ) (σ.2 29) (σ.2 35) (σ.2 36) (σ.1 30) (σ.1 31) (σ.1 32) (σ.1 33) (σ.1 34)))  (hok)) (cwV 0 hts (mg_V mk_156 mk_168 mk_169 mk_170 mk_43) rfl rfl rfl (by decide +kernel) ⟨Nat.le_of_ble_eq_true rfl, Nat.le_of_ble_eq_true rfl⟩) rfl (Nat.le_of_ble_eq_true rfl) dX12_walk_38 ⟨Nat.le_refl _, Nat.le_refl _⟩ (fun H locs X => ?_)
        replace X := ap_nil' X
        replace X := wh_eq (zw_A29 (g := zcp ((σ.2 14)) (σ.2 29) ((σ.1 4)))) X
        refine lv_aload_n hx hb dX12_walk_41 rfl (lv_at hl 0 rfl) ?_
        refine lv_iload_n hx hb dX12_walk_42 rfl (lv_at hl 1 rfl) ?_
        refine lv_iload_n hx hb dX12_walk_43 rfl (lv_at hl 2 rfl) ?_
        refine lv_iconst (v := (-1)) hx hb dX12_walk_44 (by decide) ?_
        refine gi_to (a := 4294967295) (zm1) ?_
        refine lv_iconst (v := nI 0) hx hb dX12_walk_45 (by decide) ?_
        refine lv_iconst (v := nI 0) hx hb dX12_walk_46 (by decide) ?_
        refine ctVP_V (wf := []) (As := [.int (nI xw), .int (nI xc), .int (nI 4294967295), .int (nI 0), .int (nI 0)]) (rest := []) (n := 5) hx hb hml hown hts hK hA (ap_nil X) hl.1 (m_recv G X) (c_walkBy hcl ht0 ht1 (σ := (zw (zf σ) (zcp ((σ.2 14)) (σ.2 29) ((σ.1 4))) (σ.2 35) (σ.2 36) (σ.1 30) (σ.1 31) (σ.1 32) (σ.1 33) (σ.1 34))) xw xc 4294967295 0 0 (hok) (hxw) (by omega) (by omega) (by omega) (fun w9 hw9 => by (show zcp (σ.2 14) (σ.2 29) (σ.1 4) w9 ≤ _); rw [zcp_in (show w9 < σ.1 4 from hw9)]; exact htb w9 hw9) (zWok_ws hW _) (hp)) (cwV 5 hts (mg_V mk_225 mk_226 mk_227 mk_228 mk_43) rfl rfl rfl (by decide +kernel) ⟨Nat.le_of_ble_eq_true rfl, Nat.le_of_ble_eq_true rfl⟩) rfl (Nat.le_of_ble_eq_true rfl) dX12_walk_47 ⟨Nat.le_refl _, Nat.le_refl _⟩ (fun H locs u_47 hu_47 X => ?_)
        replace X := ap_nil' X
        obtain ⟨m_47, v_47, a_47, se_47, rfl⟩ := hu_47
        simp only [zwalk_zw] at X
        replace X := wh_eq (σ' := (zw (zf σ) m_47 v_47 a_47 ((zwalk (zf σ) xw xc 4294967295 0 (zcp ((σ.2 14)) (σ.2 29) ((σ.1 4))) 0).2.1) ((zwalk (zf σ) xw xc 4294967295 0 (zcp ((σ.2 14)) (σ.2 29) ((σ.1 4))) 0).2.2.1) ((zwalk (zf σ) xw xc 4294967295 0 (zcp ((σ.2 14)) (σ.2 29) ((σ.1 4))) 0).2.2.2) ((zwalk (zf σ) xw xc 4294967295 0 (zcp ((σ.2 14)) (σ.2 29) ((σ.1 4))) 0).1) se_47)) zw_zw X
        have hrc : zwalk (zf σ) xw xc 4294967295 0 (zcp (σ.2 14) (σ.2 29) (σ.1 4)) 0 = zwalk (zf σ) xw xc 4294967295 0 (σ.2 14) 0 := zwalk_cong (show 0 < σ.1 4 by omega) (fun w9 hw9 => zcp_in hw9)
        refine lv_aload_n hx hb dX12_walk_50 rfl (lv_at hl 0 rfl) ?_
        refine m_geti G X 33 rfl (hwd _ mk_215) rfl dX12_walk_51 ?_
        refine gi_eq (a := ((zwalk (zf σ) xw xc 4294967295 0 (zcp ((σ.2 14)) (σ.2 29) ((σ.1 4))) 0).1)) rfl ?_
        refine gn_if_eq (tgt := 62) hx hb dX12_walk_54 (by decide) (zwalk_lost) (fun c_54 => ?_) (fun c_54 => ?_)
        ·
          refine lv_aload_n hx hb dX12_walk_62 rfl (lv_at hl 0 rfl) ?_
          refine m_geti G X 30 rfl (hwd _ mk_198) rfl dX12_walk_63 ?_
          refine gi_eq (a := ((zwalk (zf σ) xw xc 4294967295 0 (zcp ((σ.2 14)) (σ.2 29) ((σ.1 4))) 0).2.1)) rfl ?_
          exact finIP_of (by unfold zwalkS; rw [if_neg (fun h9 => h9 ⟨c_10, c_18⟩), if_neg (fun h9 => h9 c_27), ztoNat (show xw < 2147483648 by omega), ztoNat (show xc < 2147483648 by omega), ← hrc]; unfold zminutes; first | (rw [if_pos c_54]; done) | (rw [if_neg (by omega)]; done)) (u := (zw (zf σ) m_47 v_47 a_47 ((zwalk (zf σ) xw xc 4294967295 0 (zcp ((σ.2 14)) (σ.2 29) ((σ.1 4))) 0).2.1) ((zwalk (zf σ) xw xc 4294967295 0 (zcp ((σ.2 14)) (σ.2 29) ((σ.1 4))) 0).2.2.1) ((zwalk (zf σ) xw xc 4294967295 0 (zcp ((σ.2 14)) (σ.2 29) ((σ.1 4))) 0).2.2.2) ((zwalk (zf σ) xw xc 4294967295 0 (zcp ((σ.2 14)) (σ.2 29) ((σ.1 4))) 0).1) se_47)) (mEq_zw hW) X dX12_walk_66 fin
        ·
          refine gn_ldc (v := 99999) (k := 99999) hx hb hown (hwd _ mk_115) (by decide) dX12_walk_57 ?_
          refine lv_goto (tgt := 66) hx hb dX12_walk_59 (by decide) ?_
          exact finIP_of (by unfold zwalkS; rw [if_neg (fun h9 => h9 ⟨c_10, c_18⟩), if_neg (fun h9 => h9 c_27), ztoNat (show xw < 2147483648 by omega), ztoNat (show xc < 2147483648 by omega), ← hrc]; unfold zminutes; first | (rw [if_pos c_54]; done) | (rw [if_neg (by omega)]; done)) (u := (zw (zf σ) m_47 v_47 a_47 ((zwalk (zf σ) xw xc 4294967295 0 (zcp ((σ.2 14)) (σ.2 29) ((σ.1 4))) 0).2.1) ((zwalk (zf σ) xw xc 4294967295 0 (zcp ((σ.2 14)) (σ.2 29) ((σ.1 4))) 0).2.2.1) ((zwalk (zf σ) xw xc 4294967295 0 (zcp ((σ.2 14)) (σ.2 29) ((σ.1 4))) 0).2.2.2) ((zwalk (zf σ) xw xc 4294967295 0 (zcp ((σ.2 14)) (σ.2 29) ((σ.1 4))) 0).1) se_47)) (mEq_zw hW) X dX12_walk_66 fin
      ·
        refine lv_bipush (v := (-3)) hx hb dX12_walk_30 (by decide) ?_
        exact finIP_of (by unfold zwalkS; rw [if_neg (fun h9 => h9 ⟨c_10, c_18⟩), if_pos c_27]) (u := σ) (mEq_refl hW) X dX12_walk_32 fin
    ·
      refine lv_iconst (v := (-1)) hx hb dX12_walk_21 (by decide) ?_
      exact finIP_of (by unfold zwalkS; first | (rw [if_pos (fun h9 => c_10 h9.1)]) | (rw [if_pos (fun h9 => c_18 h9.2)])) (u := σ) (mEq_refl hW) X dX12_walk_22 fin
set_option maxHeartbeats 4000000 in
set_option maxRecDepth 100000 in
theorem c_chance {l : Launch} {D : va_G} {cl : List vw_C} {tys : List (ClassId × FieldType)} {o : Nat} {q : Nat → Nat} {ci : Nat} {cI cJ : ClassId} (hcl : cl[ci]? = some (RX12, TX12, 48)) (ht0 : tys[0]? = some (cI, .int)) (ht1 : tys[1]? = some (cJ, .long)) {σ : MS} {σ0 : MS} (h15 : σ = sF σ0 15 0) (x : Int32) (v : Int32) (w : Int32) (hok : mOk σ) (hsh : mSh σ) : ctIP l D cl tys yX12_chance (Cond.code yX12_chance cX12_chance 4 (some .int) :: mW) { frames := 2, cells := 0, slots := 0, locals := 50 } [.ref o, .int x, .int v, .int w] (mw o q ci cI cJ σ0) (mw o q ci cI cJ) (zchanceS σ x v w) (fun u => mEq σ u) := by
  refine ctIP_of (cc := cX12_chance) (maxL := 4) (by decide +kernel) rfl (Nat.le_of_ble_eq_true rfl) ?_
  intro p e s m args below meth c A Q ls hx hb hml hown hts hK hA X hl fin
  replace hown : s.vm.findClass RX12 = some m.cls := hown
  have hwd : ∀ w ∈ mW, w.before args s = true := fun w h => hts w (List.mem_cons_of_mem _ h)
  have G : mG p c cX12_chance s m args D cl tys ci cI cJ := ⟨hx, hb, hown, hwd, hK, hcl, ht0, ht1⟩
  replace hl : lv_has ls 4 [(0, .ref o), (1, .int x), (2, .int v), (3, .int w)] := hl
  obtain ⟨kr, kw, ks, kroad, kworld, ksort, kmet, ksum, kst, kco⟩ := id hok
  obtain ⟨hh, hru, hro, htb, hW, hp28, hth⟩ := id hsh
  have hp : σ.1 28 < 8 ∨ σ.1 28 = 4294967295 := Or.inr hp28
  refine lv_aload_n hx hb dX12_chance_0 rfl (lv_at hl 0 rfl) ?_
  refine lv_iconst (v := nI 0) hx hb dX12_chance_1 (by decide) ?_
  refine m_puti G X 15 rfl (hwd _ mk_35) rfl (ty := .int) (by decide +kernel) rfl rfl dX12_chance_2 (fun H locs X => ?_)
  rw [← h15] at X
  refine lv_aload_n hx hb dX12_chance_5 rfl (lv_at hl 0 rfl) ?_
  refine lv_iload_n hx hb dX12_chance_6 rfl (lv_at hl 1 rfl) ?_
  refine ctI_V (wf := []) (As := [.int x]) (rest := []) (n := 1) hx hb hml hown hts hK hA (ap_nil X) hl.1 (m_recv G X) (c_isCrossing hcl ht0 ht1 (σ := σ) x ) (cwV 1 hts (mg_V mk_39 mk_108 mk_109 mk_110 mk_43) rfl rfl rfl (by decide +kernel) ⟨Nat.le_of_ble_eq_true rfl, Nat.le_of_ble_eq_true rfl⟩) rfl (Nat.le_of_ble_eq_true rfl) dX12_chance_7 ⟨Nat.le_refl _, Nat.le_refl _⟩ (fun H locs X => ?_)
  replace X := ap_nil' X
  refine gb_if_eq (tgt := 29) hx hb dX12_chance_10 (by decide) (fun c_10 => ?_) (fun c_10 => ?_)
  ·
    refine lv_iconst (v := (-1)) hx hb dX12_chance_29 (by decide) ?_
    exact finIP_of (by unfold zchanceS; first | (rw [if_pos (fun h9 => c_10 h9.1)]) | (rw [if_pos (fun h9 => c_18 h9.2.1)]) | (rw [if_pos (fun h9 => c_26 h9.2.2)])) (u := σ) (mEq_refl hW) X dX12_chance_30 fin
  ·
    obtain ⟨xc, hxc, rfl⟩ := zi_in (n := 8) (by omega) c_10
    refine lv_aload_n hx hb dX12_chance_13 rfl (lv_at hl 0 rfl) ?_
    refine lv_iload_n hx hb dX12_chance_14 rfl (lv_at hl 2 rfl) ?_
    refine ctI_V (wf := []) (As := [.int v]) (rest := []) (n := 1) hx hb hml hown hts hK hA (ap_nil X) hl.1 (m_recv G X) (c_isAnswer hcl ht0 ht1 (σ := σ) v (hok)) (cwV 1 hts (mg_V mk_142 mk_144 mk_145 mk_146 mk_43) rfl rfl rfl (by decide +kernel) ⟨Nat.le_of_ble_eq_true rfl, Nat.le_of_ble_eq_true rfl⟩) rfl (Nat.le_of_ble_eq_true rfl) dX12_chance_15 ⟨Nat.le_refl _, Nat.le_refl _⟩ (fun H locs X => ?_)
    replace X := ap_nil' X
    refine gb_if_eq (tgt := 29) hx hb dX12_chance_18 (by decide) (fun c_18 => ?_) (fun c_18 => ?_)
    ·
      refine lv_iconst (v := (-1)) hx hb dX12_chance_29 (by decide) ?_
      exact finIP_of (by unfold zchanceS; first | (rw [if_pos (fun h9 => c_10 h9.1)]) | (rw [if_pos (fun h9 => c_18 h9.2.1)]) | (rw [if_pos (fun h9 => c_26 h9.2.2)])) (u := σ) (mEq_refl hW) X dX12_chance_30 fin
    ·
      refine lv_aload_n hx hb dX12_chance_21 rfl (lv_at hl 0 rfl) ?_
      refine lv_iload_n hx hb dX12_chance_22 rfl (lv_at hl 3 rfl) ?_
      refine ctI_V (wf := []) (As := [.int w]) (rest := []) (n := 1) hx hb hml hown hts hK hA (ap_nil X) hl.1 (m_recv G X) (c_isWorld hcl ht0 ht1 (σ := σ) w (hok)) (cwV 1 hts (mg_V mk_44 mk_104 mk_105 mk_106 mk_43) rfl rfl rfl (by decide +kernel) ⟨Nat.le_of_ble_eq_true rfl, Nat.le_of_ble_eq_true rfl⟩) rfl (Nat.le_of_ble_eq_true rfl) dX12_chance_23 ⟨Nat.le_refl _, Nat.le_refl _⟩ (fun H locs X => ?_)
      replace X := ap_nil' X
      refine gb_if_ne (tgt := 31) hx hb dX12_chance_26 (by decide) (fun c_26 => ?_) (fun c_26 => ?_)
      ·
        obtain ⟨xw, hxw, rfl⟩ := zi_in (n := σ.1 4) (by omega) c_26
        refine lv_aload_n hx hb dX12_chance_31 rfl (lv_at hl 0 rfl) ?_
        refine ctV_V (wf := []) (As := []) (rest := []) (n := 0) hx hb hml hown hts hK hA (ap_nil X) hl.1 (m_recv G X) (c_findWays hcl ht0 ht1 (σ := σ)  (hok) (hW)) (cwV 0 hts (mg_V mk_116 mk_128 mk_129 mk_130 mk_43) rfl rfl rfl (by decide +kernel) ⟨Nat.le_of_ble_eq_true rfl, Nat.le_of_ble_eq_true rfl⟩) rfl (Nat.le_of_ble_eq_true rfl) dX12_chance_32 ⟨Nat.le_refl _, Nat.le_refl _⟩ (fun H locs X => ?_)
        replace X := ap_nil' X
        replace X := wh_eq (show sA σ 27 (zws σ (σ.2 27) (σ.1 4)) = zf σ from rfl) X
        rw [← nI_iN v] at hl
        refine lv_aload_n hx hb dX12_chance_35 rfl (lv_at hl 0 rfl) ?_
        refine lv_iload_n hx hb dX12_chance_36 rfl (lv_at hl 1 rfl) ?_
        refine lv_iload_n hx hb dX12_chance_37 rfl (lv_at hl 2 rfl) ?_
        refine lv_iload_n hx hb dX12_chance_38 rfl (lv_at hl 3 rfl) ?_
        refine ctI_V (wf := []) (As := [.int (nI xc), .int (nI (iN v)), .int (nI xw)]) (rest := []) (n := 3) hx hb hml hown hts hK hA (ap_nil X) hl.1 (m_recv G X) (c_hundredths hcl ht0 ht1 (σ := (zf σ)) xc (iN v) xw (hok) (by omega) (zians (n := σ.1 4) c_18 (by omega)) (hxw) (zWok_ws hW _) (hp)) (cwV 3 hts (mg_V mk_141 mk_147 mk_148 mk_149 mk_43) rfl rfl rfl (by decide +kernel) ⟨Nat.le_of_ble_eq_true rfl, Nat.le_of_ble_eq_true rfl⟩) rfl (Nat.le_of_ble_eq_true rfl) dX12_chance_39 ⟨Nat.le_refl _, Nat.le_refl _⟩ (fun H locs X => ?_)
        replace X := ap_nil' X
        refine gi_raw (y := (nI (zhund (zf σ) xc (iN v) xw))) rfl ?_
        exact finIP_of (by unfold zchanceS; rw [if_neg (fun h9 => h9 ⟨c_10, c_18, c_26⟩), ztoNat (show xc < 2147483648 by omega), ztoNat (show xw < 2147483648 by omega)]) (u := (zf σ)) (mEq_zf hW) X dX12_chance_42 fin
      ·
        refine lv_iconst (v := (-1)) hx hb dX12_chance_29 (by decide) ?_
        exact finIP_of (by unfold zchanceS; first | (rw [if_pos (fun h9 => c_10 h9.1)]) | (rw [if_pos (fun h9 => c_18 h9.2.1)]) | (rw [if_pos (fun h9 => c_26 h9.2.2)])) (u := σ) (mEq_refl hW) X dX12_chance_30 fin
set_option maxHeartbeats 4000000 in
set_option maxRecDepth 100000 in
theorem c_toss {l : Launch} {D : va_G} {cl : List vw_C} {tys : List (ClassId × FieldType)} {o : Nat} {q : Nat → Nat} {ci : Nat} {cI cJ : ClassId} (hcl : cl[ci]? = some (RX12, TX12, 48)) (ht0 : tys[0]? = some (cI, .int)) (ht1 : tys[1]? = some (cJ, .long)) {σ : MS} {σ0 : MS} (h15 : σ = sF σ0 15 0) (d : Int32) (hok : mOk σ) (hsh : mSh σ) : ctIP l D cl tys yX12_toss (Cond.code yX12_toss cX12_toss 3 (some .int) :: mW) { frames := 2, cells := 0, slots := 0, locals := 46 } [.ref o, .int d] (mw o q ci cI cJ σ0) (mw o q ci cI cJ) (ztossS σ d) (fun u => mEq σ u) := by
  refine ctIP_of (cc := cX12_toss) (maxL := 3) (by decide +kernel) rfl (Nat.le_of_ble_eq_true rfl) ?_
  intro p e s m args below meth c A Q ls hx hb hml hown hts hK hA X hl fin
  replace hown : s.vm.findClass RX12 = some m.cls := hown
  have hwd : ∀ w ∈ mW, w.before args s = true := fun w h => hts w (List.mem_cons_of_mem _ h)
  have G : mG p c cX12_toss s m args D cl tys ci cI cJ := ⟨hx, hb, hown, hwd, hK, hcl, ht0, ht1⟩
  replace hl : lv_has ls 3 [(0, .ref o), (1, .int d)] := hl
  obtain ⟨kr, kw, ks, kroad, kworld, ksort, kmet, ksum, kst, kco⟩ := id hok
  obtain ⟨hh, hru, hro, htb, hW, hp28, hth⟩ := id hsh
  have hp : σ.1 28 < 8 ∨ σ.1 28 = 4294967295 := Or.inr hp28
  refine lv_aload_n hx hb dX12_toss_0 rfl (lv_at hl 0 rfl) ?_
  refine lv_iconst (v := nI 0) hx hb dX12_toss_1 (by decide) ?_
  refine m_puti G X 15 rfl (hwd _ mk_35) rfl (ty := .int) (by decide +kernel) rfl rfl dX12_toss_2 (fun H locs X => ?_)
  rw [← h15] at X
  refine lv_aload_n hx hb dX12_toss_5 rfl (lv_at hl 0 rfl) ?_
  refine lv_iload_n hx hb dX12_toss_6 rfl (lv_at hl 1 rfl) ?_
  refine ctI_V (wf := []) (As := [.int d]) (rest := []) (n := 1) hx hb hml hown hts hK hA (ap_nil X) hl.1 (m_recv G X) (c_wrongShelf hcl ht0 ht1 (σ := σ) d (hok) (hh)) (cwV 1 hts (mg_V mk_290 mk_292 mk_293 mk_294 mk_43) rfl rfl rfl (by decide +kernel) ⟨Nat.le_of_ble_eq_true rfl, Nat.le_of_ble_eq_true rfl⟩) rfl (Nat.le_of_ble_eq_true rfl) dX12_toss_7 ⟨Nat.le_refl _, Nat.le_refl _⟩ (fun H locs X => ?_)
  replace X := ap_nil' X
  refine lv_if_ge (tgt := 19) hx hb dX12_toss_10 (by decide) (fun c_10 => ?_) (fun c_10 => ?_)
  ·
    obtain ⟨g1, g2⟩ := zshK_in hh c_10
    obtain ⟨xd, hxd, rfl⟩ := zi_in (n := 8) (by decide) g1
    rw [ztoNat (show xd < 2147483648 by omega)] at g2
    obtain ⟨hk6, hf99⟩ := hru xd hxd g2
    refine lv_aload_n hx hb dX12_toss_19 rfl (lv_at hl 0 rfl) ?_
    refine m_geta G X 43 rfl (hwd _ mk_30) rfl dX12_toss_20 ?_
    refine lv_iload_n hx hb dX12_toss_23 rfl (lv_at hl 1 rfl) ?_
    refine m_iald G X 43 rfl (i := xd) (by show _ < 8; omega) (by omega) dX12_toss_24 ?_
    refine lv_istore_n (lv' := [(2, .int (nI (σ.2 43 xd))), (0, .ref o), (1, .int (nI xd))]) hx hb dX12_toss_25 rfl hl (by decide) rfl (fun ls hl => ?_)
    refine lv_aload_n hx hb dX12_toss_26 rfl (lv_at hl 1 rfl) ?_
    refine m_geta G X 42 rfl (hwd _ mk_29) rfl dX12_toss_27 ?_
    refine lv_iload_n hx hb dX12_toss_30 rfl (lv_at hl 2 rfl) ?_
    refine m_iald G X 42 rfl (i := xd) (by show _ < 8; omega) (by omega) dX12_toss_31 ?_
    refine lv_iconst (v := nI 5) hx hb dX12_toss_32 (by decide) ?_
    refine gn_icmp_eq (tgt := 40) hx hb dX12_toss_33 (by decide) (by omega) (by omega) (fun c_33 => ?_) (fun c_33 => ?_)
    ·
      refine lv_bipush (v := (-15)) hx hb dX12_toss_40 (by decide) ?_
      exact finIP_of (by unfold ztossS; rw [if_neg (Int32.not_lt.mpr c_10), ztoNat (show xd < 2147483648 by omega)]; repeat first | rw [if_pos (by omega)] | rw [if_neg (by omega)]) (u := σ) (mEq_refl hW) X dX12_toss_42 fin
    ·
      refine lv_iload_n hx hb dX12_toss_36 rfl (lv_at hl 0 rfl) ?_
      refine gn_if_ne (tgt := 43) hx hb dX12_toss_37 (by decide) (by omega) (fun c_37 => ?_) (fun c_37 => ?_)
      ·
        refine lv_aload_n hx hb dX12_toss_43 rfl (lv_at hl 1 rfl) ?_
        refine m_geta G X 42 rfl (hwd _ mk_29) rfl dX12_toss_44 ?_
        refine lv_iload_n hx hb dX12_toss_47 rfl (lv_at hl 2 rfl) ?_
        refine m_iald G X 42 rfl (i := xd) (by show _ < 8; omega) (by omega) dX12_toss_48 ?_
        refine lv_iconst (v := nI 2) hx hb dX12_toss_49 (by decide) ?_
        refine gn_icmp_ne (tgt := 60) hx hb dX12_toss_50 (by decide) (by omega) (by omega) (fun c_50 => ?_) (fun c_50 => ?_)
        ·
          refine lv_aload_n hx hb dX12_toss_60 rfl (lv_at hl 1 rfl) ?_
          refine m_geta G X 42 rfl (hwd _ mk_29) rfl dX12_toss_61 ?_
          refine lv_iload_n hx hb dX12_toss_64 rfl (lv_at hl 2 rfl) ?_
          refine m_iald G X 42 rfl (i := xd) (by show _ < 8; omega) (by omega) dX12_toss_65 ?_
          refine lv_iconst (v := nI 4) hx hb dX12_toss_66 (by decide) ?_
          refine gn_icmp_ne (tgt := 82) hx hb dX12_toss_67 (by decide) (by omega) (by omega) (fun c_67 => ?_) (fun c_67 => ?_)
          ·
            refine lv_iload_n hx hb dX12_toss_82 rfl (lv_at hl 0 rfl) ?_
            exact finIP_of (by unfold ztossS; rw [if_neg (Int32.not_lt.mpr c_10), ztoNat (show xd < 2147483648 by omega)]; repeat first | rw [if_pos (by omega)] | rw [if_neg (by omega)]) (u := σ) (mEq_refl hW) X dX12_toss_83 fin
          ·
            refine lv_sipush (v := nI 200) hx hb dX12_toss_70 (by decide) ?_
            refine lv_aload_n hx hb dX12_toss_73 rfl (lv_at hl 1 rfl) ?_
            refine lv_iload_n hx hb dX12_toss_74 rfl (lv_at hl 2 rfl) ?_
            refine ctI_V (wf := []) (As := [.int (nI xd)]) (rest := [.int (nI 200)]) (n := 1) hx hb hml hown hts hK hA (ap_nil X) hl.1 (m_recv G X) (c_weightOf hcl ht0 ht1 (σ := σ) xd (hok) (by omega) (by omega) (by omega)) (cwV 1 hts (mg_V mk_289 mk_295 mk_296 mk_297 mk_43) rfl rfl rfl (by decide +kernel) ⟨Nat.le_of_ble_eq_true rfl, Nat.le_of_ble_eq_true rfl⟩) rfl (Nat.le_of_ble_eq_true rfl) dX12_toss_75 ⟨Nat.le_refl _, Nat.le_refl _⟩ (fun H locs X => ?_)
            replace X := ap_nil' X
            refine gn_iadd hx hb dX12_toss_78  ?_
            refine lv_goto (tgt := 83) hx hb dX12_toss_79 (by decide) ?_
            exact finIP_of (by unfold ztossS; rw [if_neg (Int32.not_lt.mpr c_10), ztoNat (show xd < 2147483648 by omega)]; repeat first | rw [if_pos (by omega)] | rw [if_neg (by omega)]) (u := σ) (mEq_refl hW) X dX12_toss_83 fin
        ·
          refine lv_bipush (v := nI 100) hx hb dX12_toss_53 (by decide) ?_
          refine lv_iload_n hx hb dX12_toss_55 rfl (lv_at hl 0 rfl) ?_
          refine gn_iadd hx hb dX12_toss_56  ?_
          refine lv_goto (tgt := 83) hx hb dX12_toss_57 (by decide) ?_
          exact finIP_of (by unfold ztossS; rw [if_neg (Int32.not_lt.mpr c_10), ztoNat (show xd < 2147483648 by omega)]; repeat first | rw [if_pos (by omega)] | rw [if_neg (by omega)]) (u := σ) (mEq_refl hW) X dX12_toss_83 fin
      ·
        refine lv_bipush (v := (-15)) hx hb dX12_toss_40 (by decide) ?_
        exact finIP_of (by unfold ztossS; rw [if_neg (Int32.not_lt.mpr c_10), ztoNat (show xd < 2147483648 by omega)]; repeat first | rw [if_pos (by omega)] | rw [if_neg (by omega)]) (u := σ) (mEq_refl hW) X dX12_toss_42 fin
  ·
    refine lv_aload_n hx hb dX12_toss_13 rfl (lv_at hl 0 rfl) ?_
    refine lv_iload_n hx hb dX12_toss_14 rfl (lv_at hl 1 rfl) ?_
    refine ctI_V (wf := []) (As := [.int d]) (rest := []) (n := 1) hx hb hml hown hts hK hA (ap_nil X) hl.1 (m_recv G X) (c_wrongShelf hcl ht0 ht1 (σ := σ) d (hok) (hh)) (cwV 1 hts (mg_V mk_290 mk_292 mk_293 mk_294 mk_43) rfl rfl rfl (by decide +kernel) ⟨Nat.le_of_ble_eq_true rfl, Nat.le_of_ble_eq_true rfl⟩) rfl (Nat.le_of_ble_eq_true rfl) dX12_toss_15 ⟨Nat.le_refl _, Nat.le_refl _⟩ (fun H locs X => ?_)
    replace X := ap_nil' X
    exact finIP_of (by unfold ztossS; rw [if_pos (Int32.not_le.mp c_10)]) (u := σ) (mEq_refl hW) X dX12_toss_18 fin
set_option maxHeartbeats 4000000 in
set_option maxRecDepth 100000 in
theorem c_count {l : Launch} {D : va_G} {cl : List vw_C} {tys : List (ClassId × FieldType)} {o : Nat} {q : Nat → Nat} {ci : Nat} {cI cJ : ClassId} (hcl : cl[ci]? = some (RX12, TX12, 48)) (ht0 : tys[0]? = some (cI, .int)) (ht1 : tys[1]? = some (cJ, .long)) {σ : MS} {σ0 : MS} (h15 : σ = sF σ0 15 0) (x : Int32) (hok : mOk σ) (hsh : mSh σ) : ctIP l D cl tys yX12_count (Cond.code yX12_count cX12_count 4 (some .int) :: mW) { frames := 1, cells := 0, slots := 0, locals := 22 } [.ref o, .int x] (mw o q ci cI cJ σ0) (mw o q ci cI cJ) (zcountS σ x) (fun u => mEq σ u) := by
  refine ctIP_of (cc := cX12_count) (maxL := 4) (by decide +kernel) rfl (Nat.le_of_ble_eq_true rfl) ?_
  intro p e s m args below meth c A Q ls hx hb hml hown hts hK hA X hl fin
  replace hown : s.vm.findClass RX12 = some m.cls := hown
  have hwd : ∀ w ∈ mW, w.before args s = true := fun w h => hts w (List.mem_cons_of_mem _ h)
  have G : mG p c cX12_count s m args D cl tys ci cI cJ := ⟨hx, hb, hown, hwd, hK, hcl, ht0, ht1⟩
  replace hl : lv_has ls 4 [(0, .ref o), (1, .int x)] := hl
  obtain ⟨kr, kw, ks, kroad, kworld, ksort, kmet, ksum, kst, kco⟩ := id hok
  obtain ⟨hh, hru, hro, htb, hW, hp28, hth⟩ := id hsh
  have hp : σ.1 28 < 8 ∨ σ.1 28 = 4294967295 := Or.inr hp28
  refine lv_aload_n hx hb dX12_count_0 rfl (lv_at hl 0 rfl) ?_
  refine lv_iconst (v := nI 0) hx hb dX12_count_1 (by decide) ?_
  refine m_puti G X 15 rfl (hwd _ mk_35) rfl (ty := .int) (by decide +kernel) rfl rfl dX12_count_2 (fun H locs X => ?_)
  rw [← h15] at X
  refine lv_iload_n hx hb dX12_count_5 rfl (lv_at hl 1 rfl) ?_
  by_cases t_6_0 : x = nI 0
  · refine gi_raw t_6_0 ?_
    refine gn_tableIn (a := 0) (tgt := 44) hx hb dX12_count_6 (by decide) (by decide) (by decide) rfl (by decide) ?_
    refine lv_aload_n hx hb dX12_count_44 rfl (lv_at hl 0 rfl) ?_
    refine m_geti G X 0 rfl (hwd _ mk_77) rfl dX12_count_45 ?_
    exact finIP_of (by unfold zcountS; repeat first | (rw [if_pos (by assumption)]; done) | rw [if_neg (by assumption)]) (u := σ) (mEq_refl hW) X dX12_count_48 fin
  by_cases t_6_1 : x = nI 1
  · refine gi_raw t_6_1 ?_
    refine gn_tableIn (a := 1) (tgt := 49) hx hb dX12_count_6 (by decide) (by decide) (by decide) rfl (by decide) ?_
    refine lv_aload_n hx hb dX12_count_49 rfl (lv_at hl 0 rfl) ?_
    refine m_geti G X 4 rfl (hwd _ mk_45) rfl dX12_count_50 ?_
    exact finIP_of (by unfold zcountS; repeat first | (rw [if_pos (by assumption)]; done) | rw [if_neg (by assumption)]) (u := σ) (mEq_refl hW) X dX12_count_53 fin
  by_cases t_6_2 : x = nI 2
  · refine gi_raw t_6_2 ?_
    refine gn_tableIn (a := 2) (tgt := 54) hx hb dX12_count_6 (by decide) (by decide) (by decide) rfl (by decide) ?_
    refine lv_aload_n hx hb dX12_count_54 rfl (lv_at hl 0 rfl) ?_
    refine m_geti G X 8 rfl (hwd _ mk_80) rfl dX12_count_55 ?_
    exact finIP_of (by unfold zcountS; repeat first | (rw [if_pos (by assumption)]; done) | rw [if_neg (by assumption)]) (u := σ) (mEq_refl hW) X dX12_count_58 fin
  by_cases t_6_3 : x = nI 3
  · refine gi_raw t_6_3 ?_
    refine gn_tableIn (a := 3) (tgt := 59) hx hb dX12_count_6 (by decide) (by decide) (by decide) rfl (by decide) ?_
    refine lv_aload_n hx hb dX12_count_59 rfl (lv_at hl 0 rfl) ?_
    refine ctI_V (wf := []) (As := []) (rest := []) (n := 0) hx hb hml hown hts hK hA (ap_nil X) hl.1 (m_recv G X) (c_chancesTogether hcl ht0 ht1 (σ := σ)  (kw) (fun w9 hw9 => (kworld w9 hw9).2.1)) (cwV 0 hts (mg_V mk_46 mk_48 mk_49 mk_50 mk_43) rfl rfl rfl (by decide +kernel) ⟨Nat.le_of_ble_eq_true rfl, Nat.le_of_ble_eq_true rfl⟩) rfl (Nat.le_of_ble_eq_true rfl) dX12_count_60 ⟨Nat.le_refl _, Nat.le_refl _⟩ (fun H locs X => ?_)
    replace X := ap_nil' X
    exact finIP_of (by unfold zcountS; repeat first | (rw [if_pos (by assumption)]; done) | rw [if_neg (by assumption)]) (u := σ) (mEq_refl hW) X dX12_count_63 fin
  by_cases t_6_4 : x = nI 4
  · refine gi_raw t_6_4 ?_
    refine gn_tableIn (a := 4) (tgt := 64) hx hb dX12_count_6 (by decide) (by decide) (by decide) rfl (by decide) ?_
    refine lv_aload_n hx hb dX12_count_64 rfl (lv_at hl 0 rfl) ?_
    refine m_geti G X 12 rfl (hwd _ mk_81) rfl dX12_count_65 ?_
    exact finIP_of (by unfold zcountS; repeat first | (rw [if_pos (by assumption)]; done) | rw [if_neg (by assumption)]) (u := σ) (mEq_refl hW) X dX12_count_68 fin
  by_cases t_6_5 : x = nI 5
  · refine gi_raw t_6_5 ?_
    refine gn_tableIn (a := 5) (tgt := 69) hx hb dX12_count_6 (by decide) (by decide) (by decide) rfl (by decide) ?_
    refine lv_iconst (v := nI 0) hx hb dX12_count_69 (by decide) ?_
    refine lv_istore_n (lv' := [(2, .int (nI 0)), (0, .ref o), (1, .int x)]) hx hb dX12_count_70 rfl hl (by decide) rfl (fun ls hl => ?_)
    refine lv_iconst (v := nI 0) hx hb dX12_count_71 (by decide) ?_
    refine lv_istore_n (lv' := [(3, .int (nI 0)), (2, .int (nI 0)), (0, .ref o), (1, .int x)]) hx hb dX12_count_72 rfl hl (by decide) rfl (fun ls hl => ?_)
    have cut_73 : ∀ (NN : Nat) (r1 : Nat) (h1 : r1 ≤ σ.1 0), σ.1 0 - r1 < NN → ∀ (H : Heap) (locs : List Loc) (ls : Array Slot), wH D cl A s.heap H locs (mw o q ci cI cJ σ) → lv_has ls 4 [(0, .ref o), (1, .int x), (2, .int (nI (zsum (σ.2 3) r1))), (3, .int (nI r1))] → W p l e { frames := 1, cells := 0, slots := 0, locals := 22 } s m args below meth c H locs 0 0 Q (F0 m 73 ls []) := by
      intro NN
      induction NN with
      | zero => intro r1 h1 hNN; exact absurd hNN (Nat.not_lt_zero _)
      | succ NN ih_73 =>
        intro r1 h1 hNN H locs ls X hl
        refine lv_iload_n hx hb dX12_count_73 rfl (lv_at hl 3 rfl) ?_
        refine lv_aload_n hx hb dX12_count_74 rfl (lv_at hl 0 rfl) ?_
        refine m_geti G X 0 rfl (hwd _ mk_77) rfl dX12_count_75 ?_
        refine gn_icmp_ge (tgt := 96) hx hb dX12_count_78 (by decide) (by omega) (by omega) (fun c_78 => ?_) (fun c_78 => ?_)
        ·
          refine lv_iload_n hx hb dX12_count_96 rfl (lv_at hl 2 rfl) ?_
          exact finIP_of (by unfold zcountS; rw [show r1 = σ.1 0 by omega]; repeat first | (rw [if_pos (by assumption)]; done) | rw [if_neg (by assumption)]) (u := σ) (mEq_refl hW) X dX12_count_97 fin
        ·
          refine lv_iload_n hx hb dX12_count_81 rfl (lv_at hl 2 rfl) ?_
          refine lv_aload_n hx hb dX12_count_82 rfl (lv_at hl 0 rfl) ?_
          refine m_geta G X 3 rfl (hwd _ mk_6) rfl dX12_count_83 ?_
          refine lv_iload_n hx hb dX12_count_86 rfl (lv_at hl 3 rfl) ?_
          refine m_iald G X 3 rfl (i := r1) (by show _ < 16; omega) (by omega) dX12_count_87 ?_
          refine gn_iadd hx hb dX12_count_88  ?_
          refine lv_istore_n (lv' := [(2, .int (nI ((zsum (σ.2 3) r1) + (σ.2 3 r1)))), (0, .ref o), (1, .int x), (3, .int (nI r1))]) hx hb dX12_count_89 rfl hl (by decide) rfl (fun ls hl => ?_)
          refine lv_iinc (v := nI (r1 + 1)) (lv' := [(3, .int (nI (r1 + 1))), (2, .int (nI ((zsum (σ.2 3) r1) + (σ.2 3 r1)))), (0, .ref o), (1, .int x)]) hx hb dX12_count_90 hl (k := 3) rfl (zn_inc _) (by decide) rfl (fun ls hl => ?_)
          refine lv_goto (tgt := 73) hx hb dX12_count_93 (by decide) ?_
          refine ih_73 (r1 + 1) (by omega) (by omega) _ _ _ (by exact X) (by exact lv_sub hl [2, 3, 1, 0] rfl)
    refine cut_73 _ 0 (Nat.zero_le _) (Nat.lt_succ_self _) _ _ _ (by exact X) (by exact lv_sub hl [2, 3, 1, 0] rfl)
  refine lv_tableOut (tgt := 98) hx hb dX12_count_6 (zout5 t_6_0 t_6_1 t_6_2 t_6_3 t_6_4 t_6_5) (by decide) ?_
  refine lv_iconst (v := (-1)) hx hb dX12_count_98 (by decide) ?_
  exact finIP_of (by unfold zcountS; repeat first | (rw [if_pos (by assumption)]; done) | rw [if_neg (by assumption)]) (u := σ) (mEq_refl hW) X dX12_count_99 fin
set_option maxHeartbeats 4000000 in
set_option maxRecDepth 100000 in
theorem c_think {l : Launch} {D : va_G} {cl : List vw_C} {tys : List (ClassId × FieldType)} {o : Nat} {q : Nat → Nat} {ci : Nat} {cI cJ : ClassId} (hcl : cl[ci]? = some (RX12, TX12, 48)) (ht0 : tys[0]? = some (cI, .int)) (ht1 : tys[1]? = some (cJ, .long)) {σ : MS} {σ0 : MS} (h15 : σ = sF σ0 15 0) (w : Int32) (k : Int32) (hok : mOk σ) (hsh : mSh σ) : ctLP l D cl tys yX12_think (Cond.code yX12_think cX12_think 5 (some .long) :: mW) { frames := 2, cells := 0, slots := 0, locals := 46 } [.ref o, .int w, .int k] (mw o q ci cI cJ σ0) (mw o q ci cI cJ) (zthinkS σ w k) (fun u => mEq σ u) := by
  refine ctLP_of (cc := cX12_think) (maxL := 5) (by decide +kernel) rfl (Nat.le_of_ble_eq_true rfl) ?_
  intro p e s m args below meth c A Q ls hx hb hml hown hts hK hA X hl fin
  replace hown : s.vm.findClass RX12 = some m.cls := hown
  have hwd : ∀ w ∈ mW, w.before args s = true := fun w h => hts w (List.mem_cons_of_mem _ h)
  have G : mG p c cX12_think s m args D cl tys ci cI cJ := ⟨hx, hb, hown, hwd, hK, hcl, ht0, ht1⟩
  replace hl : lv_has ls 5 [(0, .ref o), (1, .int w), (2, .int k)] := hl
  obtain ⟨kr, kw, ks, kroad, kworld, ksort, kmet, ksum, kst, kco⟩ := id hok
  obtain ⟨hh, hru, hro, htb, hW, hp28, hth⟩ := id hsh
  have hp : σ.1 28 < 8 ∨ σ.1 28 = 4294967295 := Or.inr hp28
  refine lv_aload_n hx hb dX12_think_0 rfl (lv_at hl 0 rfl) ?_
  refine lv_iconst (v := nI 0) hx hb dX12_think_1 (by decide) ?_
  refine m_puti G X 15 rfl (hwd _ mk_35) rfl (ty := .int) (by decide +kernel) rfl rfl dX12_think_2 (fun H locs X => ?_)
  rw [← h15] at X
  refine lv_aload_n hx hb dX12_think_5 rfl (lv_at hl 0 rfl) ?_
  refine lv_iload_n hx hb dX12_think_6 rfl (lv_at hl 1 rfl) ?_
  refine ctI_V (wf := []) (As := [.int w]) (rest := []) (n := 1) hx hb hml hown hts hK hA (ap_nil X) hl.1 (m_recv G X) (c_isWorld hcl ht0 ht1 (σ := σ) w (hok)) (cwV 1 hts (mg_V mk_44 mk_104 mk_105 mk_106 mk_43) rfl rfl rfl (by decide +kernel) ⟨Nat.le_of_ble_eq_true rfl, Nat.le_of_ble_eq_true rfl⟩) rfl (Nat.le_of_ble_eq_true rfl) dX12_think_7 ⟨Nat.le_refl _, Nat.le_refl _⟩ (fun H locs X => ?_)
  replace X := ap_nil' X
  refine gb_if_eq (tgt := 23) hx hb dX12_think_10 (by decide) (fun c_10 => ?_) (fun c_10 => ?_)
  ·
    refine lv_ldc2 (v := (-4000000000000000001)) hx hb hown (hwd _ mk_187) dX12_think_23 ?_
    exact finLP_of (by unfold zthinkS; first | (rw [if_pos (fun h9 => c_10 h9.1)]) | (rw [if_pos (fun h9 => c_20 h9.2)])) (u := σ) (mEq_refl hW) X dX12_think_26 fin
  ·
    obtain ⟨xw, hxw, rfl⟩ := zi_in (n := σ.1 4) (by omega) c_10
    refine lv_iload_n hx hb dX12_think_13 rfl (lv_at hl 2 rfl) ?_
    refine lv_i2l (v := k.toInt64) hx hb dX12_think_14 rfl ?_
    refine lv_lconst (v := lN 0) hx hb dX12_think_15 (by decide) ?_
    refine lv_lconst (v := lN 1) hx hb dX12_think_16 (by decide) ?_
    refine ctI_S (w := []) (wf := mw o q ci cI cJ σ) (As := [.long k.toInt64, .long (lN 0), .long (lN 1)]) (rest := []) (n := 3) hx hb hml hown hts hK hA X hl.1 (c_in k.toInt64 (lN 0) (lN 1) ) (va_cwS 3 hts (mg_S mk_38 mk_41 mk_42 mk_43) rfl rfl rfl (by decide +kernel) ⟨Nat.le_of_ble_eq_true rfl, Nat.le_of_ble_eq_true rfl⟩) rfl (Nat.le_of_ble_eq_true rfl) dX12_think_17 ⟨Nat.le_refl _, Nat.le_refl _⟩ (fun H locs X => ?_)
    refine gb_if_ne (tgt := 27) hx hb dX12_think_20 (by decide) (fun c_20 => ?_) (fun c_20 => ?_)
    ·
      rw [zi_n k (by decide)] at c_20
      refine lv_aload_n hx hb dX12_think_27 rfl (lv_at hl 0 rfl) ?_
      refine ctI_V (wf := []) (As := []) (rest := []) (n := 0) hx hb hml hown hts hK hA (ap_nil X) hl.1 (m_recv G X) (c_isReady hcl ht0 ht1 (σ := σ)  (kw) (fun w9 hw9 => (kworld w9 hw9).2.1)) (cwV 0 hts (mg_V mk_47 mk_165 mk_166 mk_167 mk_43) rfl rfl rfl (by decide +kernel) ⟨Nat.le_of_ble_eq_true rfl, Nat.le_of_ble_eq_true rfl⟩) rfl (Nat.le_of_ble_eq_true rfl) dX12_think_28 ⟨Nat.le_refl _, Nat.le_refl _⟩ (fun H locs X => ?_)
      replace X := ap_nil' X
      refine gb_if_ne (tgt := 38) hx hb dX12_think_31 (by decide) (fun c_31 => ?_) (fun c_31 => ?_)
      ·
        have hta := htb xw hxw
        have hts9 := zsum_le (f := σ.2 14) (b := 100000000000) (σ.1 4) htb
        have htp := hth c_31
        have hg9 : 0 < Nat.gcd (σ.2 14 xw) (zsum (σ.2 14) (σ.1 4)) := Nat.gcd_pos_of_pos_right _ htp
        have hg8 := zgcd_le (b := 500000000000) (show σ.2 14 xw ≤ 500000000000 by omega) (show zsum (σ.2 14) (σ.1 4) ≤ 500000000000 by omega)
        refine lv_aload_n hx hb dX12_think_38 rfl (lv_at hl 0 rfl) ?_
        refine m_geta G X 14 rfl (hwd _ mk_15) rfl dX12_think_39 ?_
        refine lv_iload_n hx hb dX12_think_42 rfl (lv_at hl 1 rfl) ?_
        refine m_lald G X 14 rfl (i := xw) (by show _ < 5; omega) (by omega) dX12_think_43 ?_
        refine lv_aload_n hx hb dX12_think_44 rfl (lv_at hl 0 rfl) ?_
        refine ctL_V (wf := []) (As := []) (rest := [.long (lN (σ.2 14 xw))]) (n := 0) hx hb hml hown hts hK hA (ap_nil X) hl.1 (m_recv G X) (c_allThought hcl ht0 ht1 (σ := σ)  (hok)) (cwV 0 hts (mg_V mk_186 mk_189 mk_190 mk_191 mk_43) rfl rfl rfl (by decide +kernel) ⟨Nat.le_of_ble_eq_true rfl, Nat.le_of_ble_eq_true rfl⟩) rfl (Nat.le_of_ble_eq_true rfl) dX12_think_45 ⟨Nat.le_refl _, Nat.le_refl _⟩ (fun H locs X => ?_)
        replace X := ap_nil' X
        refine ctL_S (w := []) (wf := mw o q ci cI cJ σ) (As := [.long (lN (σ.2 14 xw)), .long (lN (zsum ((σ.2 14)) ((σ.1 4))))]) (rest := []) (n := 2) hx hb hml hown hts hK hA X hl.1 (c_divisor (σ.2 14 xw) (zsum ((σ.2 14)) ((σ.1 4))) (by omega) (by omega)) (va_cwS 2 hts (mg_S mk_151 mk_154 mk_155 mk_43) rfl rfl rfl (by decide +kernel) ⟨Nat.le_of_ble_eq_true rfl, Nat.le_of_ble_eq_true rfl⟩) rfl (Nat.le_of_ble_eq_true rfl) dX12_think_48 ⟨Nat.le_refl _, Nat.le_refl _⟩ (fun H locs X => ?_)
        refine lv_lstore_n (lv' := [(3, .long (lN (Nat.gcd (σ.2 14 xw) (zsum ((σ.2 14)) ((σ.1 4)))))), (0, .ref o), (1, .int (nI xw)), (2, .int k)]) hx hb dX12_think_51 rfl hl (by decide) rfl (fun ls hl => ?_)
        refine lv_iload_n hx hb dX12_think_52 rfl (lv_at hl 3 rfl) ?_
        refine lv_if_ne (tgt := 65) hx hb dX12_think_53 (by decide) (fun c_53 => ?_) (fun c_53 => ?_)
        ·
          refine lv_aload_n hx hb dX12_think_65 rfl (lv_at hl 1 rfl) ?_
          refine ctL_V (wf := []) (As := []) (rest := []) (n := 0) hx hb hml hown hts hK hA (ap_nil X) hl.1 (m_recv G X) (c_allThought hcl ht0 ht1 (σ := σ)  (hok)) (cwV 0 hts (mg_V mk_186 mk_189 mk_190 mk_191 mk_43) rfl rfl rfl (by decide +kernel) ⟨Nat.le_of_ble_eq_true rfl, Nat.le_of_ble_eq_true rfl⟩) rfl (Nat.le_of_ble_eq_true rfl) dX12_think_66 ⟨Nat.le_refl _, Nat.le_refl _⟩ (fun H locs X => ?_)
          replace X := ap_nil' X
          refine lv_lload_n hx hb dX12_think_69 rfl (lv_at hl 0 rfl) ?_
          refine gn_ldiv hx hb dX12_think_70 (by omega) (by omega) (by omega) ?_
          exact finLP_of (by unfold zthinkS; rw [if_neg (fun h9 => h9 ⟨c_10, c_20⟩), if_neg (fun h9 => h9 c_31), ztoNat (show xw < 2147483648 by omega)]; first | rw [if_pos c_53] | rw [if_neg c_53]) (u := σ) (mEq_refl hW) X dX12_think_71 fin
        ·
          refine lv_aload_n hx hb dX12_think_56 rfl (lv_at hl 1 rfl) ?_
          refine m_geta G X 14 rfl (hwd _ mk_15) rfl dX12_think_57 ?_
          refine lv_iload_n hx hb dX12_think_60 rfl (lv_at hl 2 rfl) ?_
          refine m_lald G X 14 rfl (i := xw) (by show _ < 5; omega) (by omega) dX12_think_61 ?_
          refine lv_goto (tgt := 69) hx hb dX12_think_62 (by decide) ?_
          refine lv_lload_n hx hb dX12_think_69 rfl (lv_at hl 0 rfl) ?_
          refine gn_ldiv hx hb dX12_think_70 (by omega) (by omega) (by omega) ?_
          exact finLP_of (by unfold zthinkS; rw [if_neg (fun h9 => h9 ⟨c_10, c_20⟩), if_neg (fun h9 => h9 c_31), ztoNat (show xw < 2147483648 by omega)]; first | rw [if_pos c_53] | rw [if_neg c_53]) (u := σ) (mEq_refl hW) X dX12_think_71 fin
      ·
        refine lv_ldc2 (v := (-4000000000000000003)) hx hb hown (hwd _ mk_188) dX12_think_34 ?_
        exact finLP_of (by unfold zthinkS; rw [if_neg (fun h9 => h9 ⟨c_10, c_20⟩), if_pos c_31]) (u := σ) (mEq_refl hW) X dX12_think_37 fin
    ·
      rw [zi_n k (by decide)] at c_20
      refine lv_ldc2 (v := (-4000000000000000001)) hx hb hown (hwd _ mk_187) dX12_think_23 ?_
      exact finLP_of (by unfold zthinkS; first | (rw [if_pos (fun h9 => c_10 h9.1)]) | (rw [if_pos (fun h9 => c_20 h9.2)])) (u := σ) (mEq_refl hW) X dX12_think_26 fin
