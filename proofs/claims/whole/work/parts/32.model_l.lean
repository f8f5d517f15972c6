set_option maxHeartbeats 4000000 in
set_option maxRecDepth 100000 in
theorem c_way {l : Launch} {D : va_G} {cl : List vw_C} {tys : List (ClassId × FieldType)} {o : Nat} {q : Nat → Nat} {ci : Nat} {cI cJ : ClassId} (hcl : cl[ci]? = some (RX12, TX12, 48)) (ht0 : tys[0]? = some (cI, .int)) (ht1 : tys[1]? = some (cJ, .long)) {σ : MS} {σ0 : MS} (h15 : σ = sF σ0 15 0) (w : Int32) (x : Int32) (hok : mOk σ) (hsh : mSh σ) : ctIP l D cl tys yX12_way (Cond.code yX12_way cX12_way 3 (some .int) :: mW) { frames := 2, cells := 0, slots := 0, locals := 47 } [.ref o, .int w, .int x] (mw o q ci cI cJ σ0) (mw o q ci cI cJ) (zwayS σ w x) (fun u => mEq σ u) := by
  refine ctIP_of (cc := cX12_way) (maxL := 3) (by decide +kernel) rfl (Nat.le_of_ble_eq_true rfl) ?_
  intro p e s m args below meth c A Q ls hx hb hml hown hts hK hA X hl fin
  replace hown : s.vm.findClass RX12 = some m.cls := hown
  have hwd : ∀ w ∈ mW, w.before args s = true := fun w h => hts w (List.mem_cons_of_mem _ h)
  have G : mG p c cX12_way s m args D cl tys ci cI cJ := ⟨hx, hb, hown, hwd, hK, hcl, ht0, ht1⟩
  replace hl : lv_has ls 3 [(0, .ref o), (1, .int w), (2, .int x)] := hl
  obtain ⟨kr, kw, ks, kroad, kworld, ksort, kmet, ksum, kst, kco⟩ := id hok
  obtain ⟨hh, hru, hro, htb, hW, hp28, hth⟩ := id hsh
  have hp : σ.1 28 < 8 ∨ σ.1 28 = 4294967295 := Or.inr hp28
  refine lv_aload_n hx hb dX12_way_0 rfl (lv_at hl 0 rfl) ?_
  refine lv_iconst (v := nI 0) hx hb dX12_way_1 (by decide) ?_
  refine m_puti G X 15 rfl (hwd _ mk_35) rfl (ty := .int) (by decide +kernel) rfl rfl dX12_way_2 (fun H locs X => ?_)
  rw [← h15] at X
  refine lv_aload_n hx hb dX12_way_5 rfl (lv_at hl 0 rfl) ?_
  refine lv_iload_n hx hb dX12_way_6 rfl (lv_at hl 1 rfl) ?_
  refine ctI_V (wf := []) (As := [.int w]) (rest := []) (n := 1) hx hb hml hown hts hK hA (ap_nil X) hl.1 (m_recv G X) (c_isWorld hcl ht0 ht1 (σ := σ) w (hok)) (cwV 1 hts (mg_V mk_44 mk_104 mk_105 mk_106 mk_43) rfl rfl rfl (by decide +kernel) ⟨Nat.le_of_ble_eq_true rfl, Nat.le_of_ble_eq_true rfl⟩) rfl (Nat.le_of_ble_eq_true rfl) dX12_way_7 ⟨Nat.le_refl _, Nat.le_refl _⟩ (fun H locs X => ?_)
  replace X := ap_nil' X
  refine gb_if_eq (tgt := 21) hx hb dX12_way_10 (by decide) (fun c_10 => ?_) (fun c_10 => ?_)
  ·
    refine lv_iconst (v := (-1)) hx hb dX12_way_21 (by decide) ?_
    exact finIP_of (by unfold zwayS; first | (rw [if_pos (fun h9 => c_10 h9.1)]) | (rw [if_pos (fun h9 => c_18 h9.2)])) (u := σ) (mEq_refl hW) X dX12_way_22 fin
  ·
    obtain ⟨xw, hxw, rfl⟩ := zi_in (n := σ.1 4) (by omega) c_10
    refine lv_aload_n hx hb dX12_way_13 rfl (lv_at hl 0 rfl) ?_
    refine lv_iload_n hx hb dX12_way_14 rfl (lv_at hl 2 rfl) ?_
    refine ctI_V (wf := []) (As := [.int x]) (rest := []) (n := 1) hx hb hml hown hts hK hA (ap_nil X) hl.1 (m_recv G X) (c_isCrossing hcl ht0 ht1 (σ := σ) x ) (cwV 1 hts (mg_V mk_39 mk_108 mk_109 mk_110 mk_43) rfl rfl rfl (by decide +kernel) ⟨Nat.le_of_ble_eq_true rfl, Nat.le_of_ble_eq_true rfl⟩) rfl (Nat.le_of_ble_eq_true rfl) dX12_way_15 ⟨Nat.le_refl _, Nat.le_refl _⟩ (fun H locs X => ?_)
    replace X := ap_nil' X
    refine gb_if_ne (tgt := 23) hx hb dX12_way_18 (by decide) (fun c_18 => ?_) (fun c_18 => ?_)
    ·
      obtain ⟨xc, hxc, rfl⟩ := zi_in (n := 8) (by omega) c_18
      refine lv_aload_n hx hb dX12_way_23 rfl (lv_at hl 0 rfl) ?_
      refine ctV_V (wf := []) (As := []) (rest := []) (n := 0) hx hb hml hown hts hK hA (ap_nil X) hl.1 (m_recv G X) (c_findWays hcl ht0 ht1 (σ := σ)  (hok) (hW)) (cwV 0 hts (mg_V mk_116 mk_128 mk_129 mk_130 mk_43) rfl rfl rfl (by decide +kernel) ⟨Nat.le_of_ble_eq_true rfl, Nat.le_of_ble_eq_true rfl⟩) rfl (Nat.le_of_ble_eq_true rfl) dX12_way_24 ⟨Nat.le_refl _, Nat.le_refl _⟩ (fun H locs X => ?_)
      replace X := ap_nil' X
      replace X := wh_eq (show sA σ 27 (zws σ (σ.2 27) (σ.1 4)) = zf σ from rfl) X
      refine lv_aload_n hx hb dX12_way_27 rfl (lv_at hl 0 rfl) ?_
      refine m_geta G X 27 rfl (hwd _ mk_22) rfl dX12_way_28 ?_
      refine lv_bipush (v := nI 8) hx hb dX12_way_31 (by decide) ?_
      refine lv_iload_n hx hb dX12_way_33 rfl (lv_at hl 1 rfl) ?_
      refine gn_imul hx hb dX12_way_34  ?_
      refine lv_iload_n hx hb dX12_way_35 rfl (lv_at hl 2 rfl) ?_
      refine gn_iadd hx hb dX12_way_36  ?_
      refine m_iald G X 27 rfl (i := ((8 * xw) + xc)) (by show _ < 40; omega) (by omega) dX12_way_37 ?_
      exact finIP_of (by unfold zwayS; rw [if_neg (fun h9 => h9 ⟨c_10, c_18⟩), ztoNat (show xw < 2147483648 by omega), ztoNat (show xc < 2147483648 by omega)]) (u := (zf σ)) (mEq_zf hW) X dX12_way_38 fin
    ·
      refine lv_iconst (v := (-1)) hx hb dX12_way_21 (by decide) ?_
      exact finIP_of (by unfold zwayS; first | (rw [if_pos (fun h9 => c_10 h9.1)]) | (rw [if_pos (fun h9 => c_18 h9.2)])) (u := σ) (mEq_refl hW) X dX12_way_22 fin
set_option maxHeartbeats 4000000 in
set_option maxRecDepth 100000 in
theorem c_next {l : Launch} {D : va_G} {cl : List vw_C} {tys : List (ClassId × FieldType)} {o : Nat} {q : Nat → Nat} {ci : Nat} {cI cJ : ClassId} (hcl : cl[ci]? = some (RX12, TX12, 48)) (ht0 : tys[0]? = some (cI, .int)) (ht1 : tys[1]? = some (cJ, .long)) {σ : MS} {σ0 : MS} (h15 : σ = sF σ0 15 0) (w : Int32) (x : Int32) (hok : mOk σ) (hsh : mSh σ) : ctIP l D cl tys yX12_next (Cond.code yX12_next cX12_next 3 (some .int) :: mW) { frames := 2, cells := 0, slots := 0, locals := 47 } [.ref o, .int w, .int x] (mw o q ci cI cJ σ0) (mw o q ci cI cJ) (znextS σ w x) (fun u => mEq σ u) := by
  refine ctIP_of (cc := cX12_next) (maxL := 3) (by decide +kernel) rfl (Nat.le_of_ble_eq_true rfl) ?_
  intro p e s m args below meth c A Q ls hx hb hml hown hts hK hA X hl fin
  replace hown : s.vm.findClass RX12 = some m.cls := hown
  have hwd : ∀ w ∈ mW, w.before args s = true := fun w h => hts w (List.mem_cons_of_mem _ h)
  have G : mG p c cX12_next s m args D cl tys ci cI cJ := ⟨hx, hb, hown, hwd, hK, hcl, ht0, ht1⟩
  replace hl : lv_has ls 3 [(0, .ref o), (1, .int w), (2, .int x)] := hl
  obtain ⟨kr, kw, ks, kroad, kworld, ksort, kmet, ksum, kst, kco⟩ := id hok
  obtain ⟨hh, hru, hro, htb, hW, hp28, hth⟩ := id hsh
  have hp : σ.1 28 < 8 ∨ σ.1 28 = 4294967295 := Or.inr hp28
  refine lv_aload_n hx hb dX12_next_0 rfl (lv_at hl 0 rfl) ?_
  refine lv_iconst (v := nI 0) hx hb dX12_next_1 (by decide) ?_
  refine m_puti G X 15 rfl (hwd _ mk_35) rfl (ty := .int) (by decide +kernel) rfl rfl dX12_next_2 (fun H locs X => ?_)
  rw [← h15] at X
  refine lv_aload_n hx hb dX12_next_5 rfl (lv_at hl 0 rfl) ?_
  refine lv_iload_n hx hb dX12_next_6 rfl (lv_at hl 1 rfl) ?_
  refine ctI_V (wf := []) (As := [.int w]) (rest := []) (n := 1) hx hb hml hown hts hK hA (ap_nil X) hl.1 (m_recv G X) (c_isWorld hcl ht0 ht1 (σ := σ) w (hok)) (cwV 1 hts (mg_V mk_44 mk_104 mk_105 mk_106 mk_43) rfl rfl rfl (by decide +kernel) ⟨Nat.le_of_ble_eq_true rfl, Nat.le_of_ble_eq_true rfl⟩) rfl (Nat.le_of_ble_eq_true rfl) dX12_next_7 ⟨Nat.le_refl _, Nat.le_refl _⟩ (fun H locs X => ?_)
  replace X := ap_nil' X
  refine gb_if_eq (tgt := 21) hx hb dX12_next_10 (by decide) (fun c_10 => ?_) (fun c_10 => ?_)
  ·
    refine lv_iconst (v := (-1)) hx hb dX12_next_21 (by decide) ?_
    exact finIP_of (by unfold znextS; first | (rw [if_pos (fun h9 => c_10 h9.1)]) | (rw [if_pos (fun h9 => c_18 h9.2)])) (u := σ) (mEq_refl hW) X dX12_next_22 fin
  ·
    obtain ⟨xw, hxw, rfl⟩ := zi_in (n := σ.1 4) (by omega) c_10
    refine lv_aload_n hx hb dX12_next_13 rfl (lv_at hl 0 rfl) ?_
    refine lv_iload_n hx hb dX12_next_14 rfl (lv_at hl 2 rfl) ?_
    refine ctI_V (wf := []) (As := [.int x]) (rest := []) (n := 1) hx hb hml hown hts hK hA (ap_nil X) hl.1 (m_recv G X) (c_isCrossing hcl ht0 ht1 (σ := σ) x ) (cwV 1 hts (mg_V mk_39 mk_108 mk_109 mk_110 mk_43) rfl rfl rfl (by decide +kernel) ⟨Nat.le_of_ble_eq_true rfl, Nat.le_of_ble_eq_true rfl⟩) rfl (Nat.le_of_ble_eq_true rfl) dX12_next_15 ⟨Nat.le_refl _, Nat.le_refl _⟩ (fun H locs X => ?_)
    replace X := ap_nil' X
    refine gb_if_ne (tgt := 23) hx hb dX12_next_18 (by decide) (fun c_18 => ?_) (fun c_18 => ?_)
    ·
      obtain ⟨xc, hxc, rfl⟩ := zi_in (n := 8) (by omega) c_18
      refine lv_aload_n hx hb dX12_next_23 rfl (lv_at hl 0 rfl) ?_
      refine ctV_V (wf := []) (As := []) (rest := []) (n := 0) hx hb hml hown hts hK hA (ap_nil X) hl.1 (m_recv G X) (c_findWays hcl ht0 ht1 (σ := σ)  (hok) (hW)) (cwV 0 hts (mg_V mk_116 mk_128 mk_129 mk_130 mk_43) rfl rfl rfl (by decide +kernel) ⟨Nat.le_of_ble_eq_true rfl, Nat.le_of_ble_eq_true rfl⟩) rfl (Nat.le_of_ble_eq_true rfl) dX12_next_24 ⟨Nat.le_refl _, Nat.le_refl _⟩ (fun H locs X => ?_)
      replace X := ap_nil' X
      replace X := wh_eq (show sA σ 27 (zws σ (σ.2 27) (σ.1 4)) = zf σ from rfl) X
      have hkw := kworld xw hxw
      refine lv_aload_n hx hb dX12_next_27 rfl (lv_at hl 0 rfl) ?_
      refine m_geta G X 6 rfl (hwd _ mk_8) rfl dX12_next_28 ?_
      refine lv_iload_n hx hb dX12_next_31 rfl (lv_at hl 1 rfl) ?_
      refine m_iald G X 6 rfl (i := xw) (by show _ < 5; omega) (by omega) dX12_next_32 ?_
      refine gi_eq (a := (σ.2 6 xw)) rfl ?_
      refine lv_iload_n hx hb dX12_next_33 rfl (lv_at hl 2 rfl) ?_
      refine gn_icmp_ne (tgt := 42) hx hb dX12_next_34 (by decide) (by omega) (by omega) (fun c_34 => ?_) (fun c_34 => ?_)
      ·
        refine lv_aload_n hx hb dX12_next_42 rfl (lv_at hl 0 rfl) ?_
        refine lv_iload_n hx hb dX12_next_43 rfl (lv_at hl 1 rfl) ?_
        refine lv_iload_n hx hb dX12_next_44 rfl (lv_at hl 2 rfl) ?_
        refine ctI_V (wf := []) (As := [.int (nI xw), .int (nI xc)]) (rest := []) (n := 2) hx hb hml hown hts hK hA (ap_nil X) hl.1 (m_recv G X) (c_nextRoad hcl ht0 ht1 (σ := (zf σ)) xw xc (hok) (hxw) (by omega) (zWok_ws hW _)) (cwV 2 hts (mg_V mk_124 mk_132 mk_133 mk_134 mk_43) rfl rfl rfl (by decide +kernel) ⟨Nat.le_of_ble_eq_true rfl, Nat.le_of_ble_eq_true rfl⟩) rfl (Nat.le_of_ble_eq_true rfl) dX12_next_45 ⟨Nat.le_refl _, Nat.le_refl _⟩ (fun H locs X => ?_)
        replace X := ap_nil' X
        refine gi_raw (y := (znext (zf σ) xw xc)) rfl ?_
        exact finIP_of (by unfold znextS; rw [if_neg (fun h9 => h9 ⟨c_10, c_18⟩), ztoNat (show xw < 2147483648 by omega), ztoNat (show xc < 2147483648 by omega)]; first | rw [if_pos c_34] | rw [if_neg c_34]) (u := (zf σ)) (mEq_zf hW) X dX12_next_48 fin
      ·
        refine lv_bipush (v := (-4)) hx hb dX12_next_37 (by decide) ?_
        refine lv_goto (tgt := 48) hx hb dX12_next_39 (by decide) ?_
        exact finIP_of (by unfold znextS; rw [if_neg (fun h9 => h9 ⟨c_10, c_18⟩), ztoNat (show xw < 2147483648 by omega), ztoNat (show xc < 2147483648 by omega)]; first | rw [if_pos c_34] | rw [if_neg c_34]) (u := (zf σ)) (mEq_zf hW) X dX12_next_48 fin
    ·
      refine lv_iconst (v := (-1)) hx hb dX12_next_21 (by decide) ?_
      exact finIP_of (by unfold znextS; first | (rw [if_pos (fun h9 => c_10 h9.1)]) | (rw [if_pos (fun h9 => c_18 h9.2)])) (u := σ) (mEq_refl hW) X dX12_next_22 fin
set_option maxHeartbeats 4000000 in
set_option maxRecDepth 100000 in
theorem c_says {l : Launch} {D : va_G} {cl : List vw_C} {tys : List (ClassId × FieldType)} {o : Nat} {q : Nat → Nat} {ci : Nat} {cI cJ : ClassId} (hcl : cl[ci]? = some (RX12, TX12, 48)) (ht0 : tys[0]? = some (cI, .int)) (ht1 : tys[1]? = some (cJ, .long)) {σ : MS} {σ0 : MS} (h15 : σ = sF σ0 15 0) (v : Int32) (x : Int32) (w : Int32) (hok : mOk σ) (hsh : mSh σ) : ctIP l D cl tys yX12_says (Cond.code yX12_says cX12_says 4 (some .int) :: mW) { frames := 2, cells := 0, slots := 0, locals := 47 } [.ref o, .int v, .int x, .int w] (mw o q ci cI cJ σ0) (mw o q ci cI cJ) (zsaysS σ v x w) (fun u => mEq σ u) := by
  refine ctIP_of (cc := cX12_says) (maxL := 4) (by decide +kernel) rfl (Nat.le_of_ble_eq_true rfl) ?_
  intro p e s m args below meth c A Q ls hx hb hml hown hts hK hA X hl fin
  replace hown : s.vm.findClass RX12 = some m.cls := hown
  have hwd : ∀ w ∈ mW, w.before args s = true := fun w h => hts w (List.mem_cons_of_mem _ h)
  have G : mG p c cX12_says s m args D cl tys ci cI cJ := ⟨hx, hb, hown, hwd, hK, hcl, ht0, ht1⟩
  replace hl : lv_has ls 4 [(0, .ref o), (1, .int v), (2, .int x), (3, .int w)] := hl
  obtain ⟨kr, kw, ks, kroad, kworld, ksort, kmet, ksum, kst, kco⟩ := id hok
  obtain ⟨hh, hru, hro, htb, hW, hp28, hth⟩ := id hsh
  have hp : σ.1 28 < 8 ∨ σ.1 28 = 4294967295 := Or.inr hp28
  refine lv_aload_n hx hb dX12_says_0 rfl (lv_at hl 0 rfl) ?_
  refine lv_iconst (v := nI 0) hx hb dX12_says_1 (by decide) ?_
  refine m_puti G X 15 rfl (hwd _ mk_35) rfl (ty := .int) (by decide +kernel) rfl rfl dX12_says_2 (fun H locs X => ?_)
  rw [← h15] at X
  refine lv_iload_n hx hb dX12_says_5 rfl (lv_at hl 1 rfl) ?_
  refine lv_i2l (v := v.toInt64) hx hb dX12_says_6 rfl ?_
  refine lv_lconst (v := lN 0) hx hb dX12_says_7 (by decide) ?_
  refine lv_aload_n hx hb dX12_says_8 rfl (lv_at hl 0 rfl) ?_
  refine m_geti G X 8 rfl (hwd _ mk_80) rfl dX12_says_9 ?_
  refine lv_iconst (v := nI 1) hx hb dX12_says_12 (by decide) ?_
  refine lv_isub hx hb dX12_says_13 ?_
  refine lv_i2l (v := (nI (σ.1 8) - nI 1).toInt64) hx hb dX12_says_14 rfl ?_
  refine ctI_S (w := []) (wf := mw o q ci cI cJ σ) (As := [.long v.toInt64, .long (lN 0), .long ((nI (σ.1 8) - nI 1).toInt64)]) (rest := []) (n := 3) hx hb hml hown hts hK hA X hl.1 (c_in v.toInt64 (lN 0) ((nI (σ.1 8) - nI 1).toInt64) ) (va_cwS 3 hts (mg_S mk_38 mk_41 mk_42 mk_43) rfl rfl rfl (by decide +kernel) ⟨Nat.le_of_ble_eq_true rfl, Nat.le_of_ble_eq_true rfl⟩) rfl (Nat.le_of_ble_eq_true rfl) dX12_says_15 ⟨Nat.le_refl _, Nat.le_refl _⟩ (fun H locs X => ?_)
  refine gb_if_eq (tgt := 37) hx hb dX12_says_18 (by decide) (fun c_18 => ?_) (fun c_18 => ?_)
  ·
    rw [zi_m1 v (by omega)] at c_18
    refine lv_iconst (v := (-1)) hx hb dX12_says_37 (by decide) ?_
    exact finIP_of (by unfold zsaysS; first | (rw [if_pos (fun h9 => c_18 h9.1)]) | (rw [if_pos (fun h9 => c_26 h9.2.1)]) | (rw [if_pos (fun h9 => c_34 h9.2.2)])) (u := σ) (mEq_refl hW) X dX12_says_38 fin
  ·
    rw [zi_m1 v (by omega)] at c_18
    obtain ⟨xs, hxs, rfl⟩ := zi_in (n := σ.1 8) (by omega) c_18
    refine lv_aload_n hx hb dX12_says_21 rfl (lv_at hl 0 rfl) ?_
    refine lv_iload_n hx hb dX12_says_22 rfl (lv_at hl 2 rfl) ?_
    refine ctI_V (wf := []) (As := [.int x]) (rest := []) (n := 1) hx hb hml hown hts hK hA (ap_nil X) hl.1 (m_recv G X) (c_isCrossing hcl ht0 ht1 (σ := σ) x ) (cwV 1 hts (mg_V mk_39 mk_108 mk_109 mk_110 mk_43) rfl rfl rfl (by decide +kernel) ⟨Nat.le_of_ble_eq_true rfl, Nat.le_of_ble_eq_true rfl⟩) rfl (Nat.le_of_ble_eq_true rfl) dX12_says_23 ⟨Nat.le_refl _, Nat.le_refl _⟩ (fun H locs X => ?_)
    replace X := ap_nil' X
    refine gb_if_eq (tgt := 37) hx hb dX12_says_26 (by decide) (fun c_26 => ?_) (fun c_26 => ?_)
    ·
      refine lv_iconst (v := (-1)) hx hb dX12_says_37 (by decide) ?_
      exact finIP_of (by unfold zsaysS; first | (rw [if_pos (fun h9 => c_18 h9.1)]) | (rw [if_pos (fun h9 => c_26 h9.2.1)]) | (rw [if_pos (fun h9 => c_34 h9.2.2)])) (u := σ) (mEq_refl hW) X dX12_says_38 fin
    ·
      obtain ⟨xc, hxc, rfl⟩ := zi_in (n := 8) (by omega) c_26
      refine lv_aload_n hx hb dX12_says_29 rfl (lv_at hl 0 rfl) ?_
      refine lv_iload_n hx hb dX12_says_30 rfl (lv_at hl 3 rfl) ?_
      refine ctI_V (wf := []) (As := [.int w]) (rest := []) (n := 1) hx hb hml hown hts hK hA (ap_nil X) hl.1 (m_recv G X) (c_isWorld hcl ht0 ht1 (σ := σ) w (hok)) (cwV 1 hts (mg_V mk_44 mk_104 mk_105 mk_106 mk_43) rfl rfl rfl (by decide +kernel) ⟨Nat.le_of_ble_eq_true rfl, Nat.le_of_ble_eq_true rfl⟩) rfl (Nat.le_of_ble_eq_true rfl) dX12_says_31 ⟨Nat.le_refl _, Nat.le_refl _⟩ (fun H locs X => ?_)
      replace X := ap_nil' X
      refine gb_if_ne (tgt := 39) hx hb dX12_says_34 (by decide) (fun c_34 => ?_) (fun c_34 => ?_)
      ·
        obtain ⟨xw, hxw, rfl⟩ := zi_in (n := σ.1 4) (by omega) c_34
        refine lv_aload_n hx hb dX12_says_39 rfl (lv_at hl 0 rfl) ?_
        refine ctV_V (wf := []) (As := []) (rest := []) (n := 0) hx hb hml hown hts hK hA (ap_nil X) hl.1 (m_recv G X) (c_findWays hcl ht0 ht1 (σ := σ)  (hok) (hW)) (cwV 0 hts (mg_V mk_116 mk_128 mk_129 mk_130 mk_43) rfl rfl rfl (by decide +kernel) ⟨Nat.le_of_ble_eq_true rfl, Nat.le_of_ble_eq_true rfl⟩) rfl (Nat.le_of_ble_eq_true rfl) dX12_says_40 ⟨Nat.le_refl _, Nat.le_refl _⟩ (fun H locs X => ?_)
        replace X := ap_nil' X
        replace X := wh_eq (show sA σ 27 (zws σ (σ.2 27) (σ.1 4)) = zf σ from rfl) X
        refine lv_aload_n hx hb dX12_says_43 rfl (lv_at hl 0 rfl) ?_
        refine lv_iload_n hx hb dX12_says_44 rfl (lv_at hl 1 rfl) ?_
        refine lv_iload_n hx hb dX12_says_45 rfl (lv_at hl 2 rfl) ?_
        refine lv_iload_n hx hb dX12_says_46 rfl (lv_at hl 3 rfl) ?_
        refine ctI_V (wf := []) (As := [.int (nI xs), .int (nI xc), .int (nI xw)]) (rest := []) (n := 3) hx hb hml hown hts hK hA (ap_nil X) hl.1 (m_recv G X) (c_said hcl ht0 ht1 (σ := (zf σ)) xs xc xw (hok) (hxs) (by omega) (hxw) (zWok_ws hW _)) (cwV 3 hts (mg_V mk_136 mk_137 mk_138 mk_139 mk_43) rfl rfl rfl (by decide +kernel) ⟨Nat.le_of_ble_eq_true rfl, Nat.le_of_ble_eq_true rfl⟩) rfl (Nat.le_of_ble_eq_true rfl) dX12_says_47 ⟨Nat.le_refl _, Nat.le_refl _⟩ (fun H locs X => ?_)
        replace X := ap_nil' X
        refine gi_raw (y := (nI (zsaid (zf σ) xs xc xw))) rfl ?_
        exact finIP_of (by unfold zsaysS; rw [if_neg (fun h9 => h9 ⟨c_18, c_26, c_34⟩), ztoNat (show xs < 2147483648 by omega), ztoNat (show xc < 2147483648 by omega), ztoNat (show xw < 2147483648 by omega)]) (u := (zf σ)) (mEq_zf hW) X dX12_says_50 fin
      ·
        refine lv_iconst (v := (-1)) hx hb dX12_says_37 (by decide) ?_
        exact finIP_of (by unfold zsaysS; first | (rw [if_pos (fun h9 => c_18 h9.1)]) | (rw [if_pos (fun h9 => c_26 h9.2.1)]) | (rw [if_pos (fun h9 => c_34 h9.2.2)])) (u := σ) (mEq_refl hW) X dX12_says_38 fin
set_option maxHeartbeats 4000000 in
set_option maxRecDepth 100000 in
theorem c_world {l : Launch} {D : va_G} {cl : List vw_C} {tys : List (ClassId × FieldType)} {o : Nat} {q : Nat → Nat} {ci : Nat} {cI cJ : ClassId} (hcl : cl[ci]? = some (RX12, TX12, 48)) (ht0 : tys[0]? = some (cI, .int)) (ht1 : tys[1]? = some (cJ, .long)) {σ : MS} {σ0 : MS} (h15 : σ = sF σ0 15 0) (w : Int32) (k : Int32) (hok : mOk σ) (hsh : mSh σ) : ctIP l D cl tys yX12_world (Cond.code yX12_world cX12_world 3 (some .int) :: mW) { frames := 2, cells := 0, slots := 0, locals := 46 } [.ref o, .int w, .int k] (mw o q ci cI cJ σ0) (mw o q ci cI cJ) (zworldS σ w k) (fun u => mEq σ u) := by
  refine ctIP_of (cc := cX12_world) (maxL := 3) (by decide +kernel) rfl (Nat.le_of_ble_eq_true rfl) ?_
  intro p e s m args below meth c A Q ls hx hb hml hown hts hK hA X hl fin
  replace hown : s.vm.findClass RX12 = some m.cls := hown
  have hwd : ∀ w ∈ mW, w.before args s = true := fun w h => hts w (List.mem_cons_of_mem _ h)
  have G : mG p c cX12_world s m args D cl tys ci cI cJ := ⟨hx, hb, hown, hwd, hK, hcl, ht0, ht1⟩
  replace hl : lv_has ls 3 [(0, .ref o), (1, .int w), (2, .int k)] := hl
  obtain ⟨kr, kw, ks, kroad, kworld, ksort, kmet, ksum, kst, kco⟩ := id hok
  obtain ⟨hh, hru, hro, htb, hW, hp28, hth⟩ := id hsh
  have hp : σ.1 28 < 8 ∨ σ.1 28 = 4294967295 := Or.inr hp28
  refine lv_aload_n hx hb dX12_world_0 rfl (lv_at hl 0 rfl) ?_
  refine lv_iconst (v := nI 0) hx hb dX12_world_1 (by decide) ?_
  refine m_puti G X 15 rfl (hwd _ mk_35) rfl (ty := .int) (by decide +kernel) rfl rfl dX12_world_2 (fun H locs X => ?_)
  rw [← h15] at X
  refine lv_aload_n hx hb dX12_world_5 rfl (lv_at hl 0 rfl) ?_
  refine lv_iload_n hx hb dX12_world_6 rfl (lv_at hl 1 rfl) ?_
  refine ctI_V (wf := []) (As := [.int w]) (rest := []) (n := 1) hx hb hml hown hts hK hA (ap_nil X) hl.1 (m_recv G X) (c_isWorld hcl ht0 ht1 (σ := σ) w (hok)) (cwV 1 hts (mg_V mk_44 mk_104 mk_105 mk_106 mk_43) rfl rfl rfl (by decide +kernel) ⟨Nat.le_of_ble_eq_true rfl, Nat.le_of_ble_eq_true rfl⟩) rfl (Nat.le_of_ble_eq_true rfl) dX12_world_7 ⟨Nat.le_refl _, Nat.le_refl _⟩ (fun H locs X => ?_)
  replace X := ap_nil' X
  refine gb_if_eq (tgt := 25) hx hb dX12_world_10 (by decide) (fun c_10 => ?_) (fun c_10 => ?_)
  ·
    refine lv_iconst (v := (-1)) hx hb dX12_world_25 (by decide) ?_
    exact finIP_of (by unfold zworldS; first | (rw [if_pos (fun h9 => c_10 h9.1)]) | (rw [if_pos (fun h9 => c_22 h9.2)])) (u := σ) (mEq_refl hW) X dX12_world_26 fin
  ·
    obtain ⟨xw, hxw, rfl⟩ := zi_in (n := σ.1 4) (by omega) c_10
    refine lv_iload_n hx hb dX12_world_13 rfl (lv_at hl 2 rfl) ?_
    refine lv_i2l (v := k.toInt64) hx hb dX12_world_14 rfl ?_
    refine lv_lconst (v := lN 0) hx hb dX12_world_15 (by decide) ?_
    refine gn_ldc2 (v := 2) (k := 2) hx hb hown (hwd _ mk_102) (by decide) dX12_world_16 ?_
    refine ctI_S (w := []) (wf := mw o q ci cI cJ σ) (As := [.long k.toInt64, .long (lN 0), .long (lN 2)]) (rest := []) (n := 3) hx hb hml hown hts hK hA X hl.1 (c_in k.toInt64 (lN 0) (lN 2) ) (va_cwS 3 hts (mg_S mk_38 mk_41 mk_42 mk_43) rfl rfl rfl (by decide +kernel) ⟨Nat.le_of_ble_eq_true rfl, Nat.le_of_ble_eq_true rfl⟩) rfl (Nat.le_of_ble_eq_true rfl) dX12_world_19 ⟨Nat.le_refl _, Nat.le_refl _⟩ (fun H locs X => ?_)
    refine gb_if_ne (tgt := 27) hx hb dX12_world_22 (by decide) (fun c_22 => ?_) (fun c_22 => ?_)
    ·
      rw [zi_n k (by decide)] at c_22
      refine lv_iload_n hx hb dX12_world_27 rfl (lv_at hl 2 rfl) ?_
      refine lv_if_ne (tgt := 40) hx hb dX12_world_28 (by decide) (fun c_28 => ?_) (fun c_28 => ?_)
      ·
        refine lv_iload_n hx hb dX12_world_40 rfl (lv_at hl 2 rfl) ?_
        refine lv_iconst (v := nI 1) hx hb dX12_world_41 (by decide) ?_
        refine lv_icmp_ne (tgt := 54) hx hb dX12_world_42 (by decide) (fun c_42 => ?_) (fun c_42 => ?_)
        ·
          refine lv_aload_n hx hb dX12_world_54 rfl (lv_at hl 0 rfl) ?_
          refine m_geta G X 7 rfl (hwd _ mk_9) rfl dX12_world_55 ?_
          refine lv_iload_n hx hb dX12_world_58 rfl (lv_at hl 1 rfl) ?_
          refine m_iald G X 7 rfl (i := xw) (by show _ < 5; omega) (by omega) dX12_world_59 ?_
          exact finIP_of (by unfold zworldS; rw [if_neg (fun h9 => h9 ⟨c_10, c_22⟩), ztoNat (show xw < 2147483648 by omega)]; first | (rw [if_pos c_28]; done) | (rw [if_neg c_28, if_pos c_42]; done) | (rw [if_neg c_28, if_neg c_42]; done)) (u := σ) (mEq_refl hW) X dX12_world_60 fin
        ·
          refine lv_aload_n hx hb dX12_world_45 rfl (lv_at hl 0 rfl) ?_
          refine m_geta G X 6 rfl (hwd _ mk_8) rfl dX12_world_46 ?_
          refine lv_iload_n hx hb dX12_world_49 rfl (lv_at hl 1 rfl) ?_
          refine m_iald G X 6 rfl (i := xw) (by show _ < 5; omega) (by omega) dX12_world_50 ?_
          refine lv_goto (tgt := 60) hx hb dX12_world_51 (by decide) ?_
          exact finIP_of (by unfold zworldS; rw [if_neg (fun h9 => h9 ⟨c_10, c_22⟩), ztoNat (show xw < 2147483648 by omega)]; first | (rw [if_pos c_28]; done) | (rw [if_neg c_28, if_pos c_42]; done) | (rw [if_neg c_28, if_neg c_42]; done)) (u := σ) (mEq_refl hW) X dX12_world_60 fin
      ·
        refine lv_aload_n hx hb dX12_world_31 rfl (lv_at hl 0 rfl) ?_
        refine m_geta G X 5 rfl (hwd _ mk_7) rfl dX12_world_32 ?_
        refine lv_iload_n hx hb dX12_world_35 rfl (lv_at hl 1 rfl) ?_
        refine m_iald G X 5 rfl (i := xw) (by show _ < 5; omega) (by omega) dX12_world_36 ?_
        refine lv_goto (tgt := 60) hx hb dX12_world_37 (by decide) ?_
        exact finIP_of (by unfold zworldS; rw [if_neg (fun h9 => h9 ⟨c_10, c_22⟩), ztoNat (show xw < 2147483648 by omega)]; first | (rw [if_pos c_28]; done) | (rw [if_neg c_28, if_pos c_42]; done) | (rw [if_neg c_28, if_neg c_42]; done)) (u := σ) (mEq_refl hW) X dX12_world_60 fin
    ·
      rw [zi_n k (by decide)] at c_22
      refine lv_iconst (v := (-1)) hx hb dX12_world_25 (by decide) ?_
      exact finIP_of (by unfold zworldS; first | (rw [if_pos (fun h9 => c_10 h9.1)]) | (rw [if_pos (fun h9 => c_22 h9.2)])) (u := σ) (mEq_refl hW) X dX12_world_26 fin
set_option maxHeartbeats 4000000 in
set_option maxRecDepth 100000 in
theorem c_road {l : Launch} {D : va_G} {cl : List vw_C} {tys : List (ClassId × FieldType)} {o : Nat} {q : Nat → Nat} {ci : Nat} {cI cJ : ClassId} (hcl : cl[ci]? = some (RX12, TX12, 48)) (ht0 : tys[0]? = some (cI, .int)) (ht1 : tys[1]? = some (cJ, .long)) {σ : MS} {σ0 : MS} (h15 : σ = sF σ0 15 0) (x : Int32) (k : Int32) (hok : mOk σ) (hsh : mSh σ) : ctIP l D cl tys yX12_road (Cond.code yX12_road cX12_road 3 (some .int) :: mW) { frames := 1, cells := 0, slots := 0, locals := 25 } [.ref o, .int x, .int k] (mw o q ci cI cJ σ0) (mw o q ci cI cJ) (zroadS σ x k) (fun u => mEq σ u) := by
  refine ctIP_of (cc := cX12_road) (maxL := 3) (by decide +kernel) rfl (Nat.le_of_ble_eq_true rfl) ?_
  intro p e s m args below meth c A Q ls hx hb hml hown hts hK hA X hl fin
  replace hown : s.vm.findClass RX12 = some m.cls := hown
  have hwd : ∀ w ∈ mW, w.before args s = true := fun w h => hts w (List.mem_cons_of_mem _ h)
  have G : mG p c cX12_road s m args D cl tys ci cI cJ := ⟨hx, hb, hown, hwd, hK, hcl, ht0, ht1⟩
  replace hl : lv_has ls 3 [(0, .ref o), (1, .int x), (2, .int k)] := hl
  obtain ⟨kr, kw, ks, kroad, kworld, ksort, kmet, ksum, kst, kco⟩ := id hok
  obtain ⟨hh, hru, hro, htb, hW, hp28, hth⟩ := id hsh
  have hp : σ.1 28 < 8 ∨ σ.1 28 = 4294967295 := Or.inr hp28
  refine lv_aload_n hx hb dX12_road_0 rfl (lv_at hl 0 rfl) ?_
  refine lv_iconst (v := nI 0) hx hb dX12_road_1 (by decide) ?_
  refine m_puti G X 15 rfl (hwd _ mk_35) rfl (ty := .int) (by decide +kernel) rfl rfl dX12_road_2 (fun H locs X => ?_)
  rw [← h15] at X
  refine lv_iload_n hx hb dX12_road_5 rfl (lv_at hl 1 rfl) ?_
  refine lv_i2l (v := x.toInt64) hx hb dX12_road_6 rfl ?_
  refine lv_lconst (v := lN 0) hx hb dX12_road_7 (by decide) ?_
  refine lv_aload_n hx hb dX12_road_8 rfl (lv_at hl 0 rfl) ?_
  refine m_geti G X 0 rfl (hwd _ mk_77) rfl dX12_road_9 ?_
  refine lv_iconst (v := nI 1) hx hb dX12_road_12 (by decide) ?_
  refine lv_isub hx hb dX12_road_13 ?_
  refine lv_i2l (v := (nI (σ.1 0) - nI 1).toInt64) hx hb dX12_road_14 rfl ?_
  refine ctI_S (w := []) (wf := mw o q ci cI cJ σ) (As := [.long x.toInt64, .long (lN 0), .long ((nI (σ.1 0) - nI 1).toInt64)]) (rest := []) (n := 3) hx hb hml hown hts hK hA X hl.1 (c_in x.toInt64 (lN 0) ((nI (σ.1 0) - nI 1).toInt64) ) (va_cwS 3 hts (mg_S mk_38 mk_41 mk_42 mk_43) rfl rfl rfl (by decide +kernel) ⟨Nat.le_of_ble_eq_true rfl, Nat.le_of_ble_eq_true rfl⟩) rfl (Nat.le_of_ble_eq_true rfl) dX12_road_15 ⟨Nat.le_refl _, Nat.le_refl _⟩ (fun H locs X => ?_)
  refine gb_if_eq (tgt := 33) hx hb dX12_road_18 (by decide) (fun c_18 => ?_) (fun c_18 => ?_)
  ·
    rw [zi_m1 x (by omega)] at c_18
    refine lv_iconst (v := (-1)) hx hb dX12_road_33 (by decide) ?_
    exact finIP_of (by unfold zroadS; first | (rw [if_pos (fun h9 => c_18 h9.1)]) | (rw [if_pos (fun h9 => c_30 h9.2)])) (u := σ) (mEq_refl hW) X dX12_road_34 fin
  ·
    rw [zi_m1 x (by omega)] at c_18
    obtain ⟨xr9, hxr9, rfl⟩ := zi_in (n := σ.1 0) (by omega) c_18
    refine lv_iload_n hx hb dX12_road_21 rfl (lv_at hl 2 rfl) ?_
    refine lv_i2l (v := k.toInt64) hx hb dX12_road_22 rfl ?_
    refine lv_lconst (v := lN 0) hx hb dX12_road_23 (by decide) ?_
    refine gn_ldc2 (v := 2) (k := 2) hx hb hown (hwd _ mk_102) (by decide) dX12_road_24 ?_
    refine ctI_S (w := []) (wf := mw o q ci cI cJ σ) (As := [.long k.toInt64, .long (lN 0), .long (lN 2)]) (rest := []) (n := 3) hx hb hml hown hts hK hA X hl.1 (c_in k.toInt64 (lN 0) (lN 2) ) (va_cwS 3 hts (mg_S mk_38 mk_41 mk_42 mk_43) rfl rfl rfl (by decide +kernel) ⟨Nat.le_of_ble_eq_true rfl, Nat.le_of_ble_eq_true rfl⟩) rfl (Nat.le_of_ble_eq_true rfl) dX12_road_27 ⟨Nat.le_refl _, Nat.le_refl _⟩ (fun H locs X => ?_)
    refine gb_if_ne (tgt := 35) hx hb dX12_road_30 (by decide) (fun c_30 => ?_) (fun c_30 => ?_)
    ·
      rw [zi_n k (by decide)] at c_30
      refine lv_iload_n hx hb dX12_road_35 rfl (lv_at hl 2 rfl) ?_
      refine lv_if_ne (tgt := 48) hx hb dX12_road_36 (by decide) (fun c_36 => ?_) (fun c_36 => ?_)
      ·
        refine lv_iload_n hx hb dX12_road_48 rfl (lv_at hl 2 rfl) ?_
        refine lv_iconst (v := nI 1) hx hb dX12_road_49 (by decide) ?_
        refine lv_icmp_ne (tgt := 62) hx hb dX12_road_50 (by decide) (fun c_50 => ?_) (fun c_50 => ?_)
        ·
          refine lv_aload_n hx hb dX12_road_62 rfl (lv_at hl 0 rfl) ?_
          refine m_geta G X 3 rfl (hwd _ mk_6) rfl dX12_road_63 ?_
          refine lv_iload_n hx hb dX12_road_66 rfl (lv_at hl 1 rfl) ?_
          refine m_iald G X 3 rfl (i := xr9) (by show _ < 16; omega) (by omega) dX12_road_67 ?_
          exact finIP_of (by unfold zroadS; rw [if_neg (fun h9 => h9 ⟨c_18, c_30⟩), ztoNat (show xr9 < 2147483648 by omega)]; first | (rw [if_pos c_36]; done) | (rw [if_neg c_36, if_pos c_50]; done) | (rw [if_neg c_36, if_neg c_50]; done)) (u := σ) (mEq_refl hW) X dX12_road_68 fin
        ·
          refine lv_aload_n hx hb dX12_road_53 rfl (lv_at hl 0 rfl) ?_
          refine m_geta G X 2 rfl (hwd _ mk_5) rfl dX12_road_54 ?_
          refine lv_iload_n hx hb dX12_road_57 rfl (lv_at hl 1 rfl) ?_
          refine m_iald G X 2 rfl (i := xr9) (by show _ < 16; omega) (by omega) dX12_road_58 ?_
          refine lv_goto (tgt := 68) hx hb dX12_road_59 (by decide) ?_
          exact finIP_of (by unfold zroadS; rw [if_neg (fun h9 => h9 ⟨c_18, c_30⟩), ztoNat (show xr9 < 2147483648 by omega)]; first | (rw [if_pos c_36]; done) | (rw [if_neg c_36, if_pos c_50]; done) | (rw [if_neg c_36, if_neg c_50]; done)) (u := σ) (mEq_refl hW) X dX12_road_68 fin
      ·
        refine lv_aload_n hx hb dX12_road_39 rfl (lv_at hl 0 rfl) ?_
        refine m_geta G X 1 rfl (hwd _ mk_4) rfl dX12_road_40 ?_
        refine lv_iload_n hx hb dX12_road_43 rfl (lv_at hl 1 rfl) ?_
        refine m_iald G X 1 rfl (i := xr9) (by show _ < 16; omega) (by omega) dX12_road_44 ?_
        refine lv_goto (tgt := 68) hx hb dX12_road_45 (by decide) ?_
        exact finIP_of (by unfold zroadS; rw [if_neg (fun h9 => h9 ⟨c_18, c_30⟩), ztoNat (show xr9 < 2147483648 by omega)]; first | (rw [if_pos c_36]; done) | (rw [if_neg c_36, if_pos c_50]; done) | (rw [if_neg c_36, if_neg c_50]; done)) (u := σ) (mEq_refl hW) X dX12_road_68 fin
    ·
      rw [zi_n k (by decide)] at c_30
      refine lv_iconst (v := (-1)) hx hb dX12_road_33 (by decide) ?_
      exact finIP_of (by unfold zroadS; first | (rw [if_pos (fun h9 => c_18 h9.1)]) | (rw [if_pos (fun h9 => c_30 h9.2)])) (u := σ) (mEq_refl hW) X dX12_road_34 fin
set_option maxHeartbeats 4000000 in
set_option maxRecDepth 100000 in
theorem c_met {l : Launch} {D : va_G} {cl : List vw_C} {tys : List (ClassId × FieldType)} {o : Nat} {q : Nat → Nat} {ci : Nat} {cI cJ : ClassId} (hcl : cl[ci]? = some (RX12, TX12, 48)) (ht0 : tys[0]? = some (cI, .int)) (ht1 : tys[1]? = some (cJ, .long)) {σ : MS} {σ0 : MS} (h15 : σ = sF σ0 15 0) (x : Int32) (v : Int32) (hok : mOk σ) (hsh : mSh σ) : ctIP l D cl tys yX12_met (Cond.code yX12_met cX12_met 3 (some .int) :: mW) { frames := 2, cells := 0, slots := 0, locals := 46 } [.ref o, .int x, .int v] (mw o q ci cI cJ σ0) (mw o q ci cI cJ) (zmetS σ x v) (fun u => mEq σ u) := by
  refine ctIP_of (cc := cX12_met) (maxL := 3) (by decide +kernel) rfl (Nat.le_of_ble_eq_true rfl) ?_
  intro p e s m args below meth c A Q ls hx hb hml hown hts hK hA X hl fin
  replace hown : s.vm.findClass RX12 = some m.cls := hown
  have hwd : ∀ w ∈ mW, w.before args s = true := fun w h => hts w (List.mem_cons_of_mem _ h)
  have G : mG p c cX12_met s m args D cl tys ci cI cJ := ⟨hx, hb, hown, hwd, hK, hcl, ht0, ht1⟩
  replace hl : lv_has ls 3 [(0, .ref o), (1, .int x), (2, .int v)] := hl
  obtain ⟨kr, kw, ks, kroad, kworld, ksort, kmet, ksum, kst, kco⟩ := id hok
  obtain ⟨hh, hru, hro, htb, hW, hp28, hth⟩ := id hsh
  have hp : σ.1 28 < 8 ∨ σ.1 28 = 4294967295 := Or.inr hp28
  refine lv_aload_n hx hb dX12_met_0 rfl (lv_at hl 0 rfl) ?_
  refine lv_iconst (v := nI 0) hx hb dX12_met_1 (by decide) ?_
  refine m_puti G X 15 rfl (hwd _ mk_35) rfl (ty := .int) (by decide +kernel) rfl rfl dX12_met_2 (fun H locs X => ?_)
  rw [← h15] at X
  refine lv_aload_n hx hb dX12_met_5 rfl (lv_at hl 0 rfl) ?_
  refine lv_iload_n hx hb dX12_met_6 rfl (lv_at hl 1 rfl) ?_
  refine ctI_V (wf := []) (As := [.int x]) (rest := []) (n := 1) hx hb hml hown hts hK hA (ap_nil X) hl.1 (m_recv G X) (c_isCrossing hcl ht0 ht1 (σ := σ) x ) (cwV 1 hts (mg_V mk_39 mk_108 mk_109 mk_110 mk_43) rfl rfl rfl (by decide +kernel) ⟨Nat.le_of_ble_eq_true rfl, Nat.le_of_ble_eq_true rfl⟩) rfl (Nat.le_of_ble_eq_true rfl) dX12_met_7 ⟨Nat.le_refl _, Nat.le_refl _⟩ (fun H locs X => ?_)
  replace X := ap_nil' X
  refine gb_if_eq (tgt := 43) hx hb dX12_met_10 (by decide) (fun c_10 => ?_) (fun c_10 => ?_)
  ·
    refine lv_iconst (v := (-1)) hx hb dX12_met_43 (by decide) ?_
    exact finIP_of (by unfold zmetS; first | (rw [if_pos (fun h9 => c_10 h9.1)]; done) | (rw [if_pos (fun h9 => c_26 h9.2)]; done) | (rw [if_neg (fun h9 => h9 ⟨c_10, c_26⟩), ztoNat (show xc < 2147483648 by omega), ztoNat (show xs < 2147483648 by omega)])) (u := σ) (mEq_refl hW) X dX12_met_44 fin
  ·
    obtain ⟨xc, hxc, rfl⟩ := zi_in (n := 8) (by omega) c_10
    refine lv_iload_n hx hb dX12_met_13 rfl (lv_at hl 2 rfl) ?_
    refine lv_i2l (v := v.toInt64) hx hb dX12_met_14 rfl ?_
    refine lv_lconst (v := lN 0) hx hb dX12_met_15 (by decide) ?_
    refine lv_aload_n hx hb dX12_met_16 rfl (lv_at hl 0 rfl) ?_
    refine m_geti G X 8 rfl (hwd _ mk_80) rfl dX12_met_17 ?_
    refine lv_iconst (v := nI 1) hx hb dX12_met_20 (by decide) ?_
    refine lv_isub hx hb dX12_met_21 ?_
    refine lv_i2l (v := (nI (σ.1 8) - nI 1).toInt64) hx hb dX12_met_22 rfl ?_
    refine ctI_S (w := []) (wf := mw o q ci cI cJ σ) (As := [.long v.toInt64, .long (lN 0), .long ((nI (σ.1 8) - nI 1).toInt64)]) (rest := []) (n := 3) hx hb hml hown hts hK hA X hl.1 (c_in v.toInt64 (lN 0) ((nI (σ.1 8) - nI 1).toInt64) ) (va_cwS 3 hts (mg_S mk_38 mk_41 mk_42 mk_43) rfl rfl rfl (by decide +kernel) ⟨Nat.le_of_ble_eq_true rfl, Nat.le_of_ble_eq_true rfl⟩) rfl (Nat.le_of_ble_eq_true rfl) dX12_met_23 ⟨Nat.le_refl _, Nat.le_refl _⟩ (fun H locs X => ?_)
    refine gb_if_eq (tgt := 43) hx hb dX12_met_26 (by decide) (fun c_26 => ?_) (fun c_26 => ?_)
    ·
      rw [zi_m1 v (by omega)] at c_26
      refine lv_iconst (v := (-1)) hx hb dX12_met_43 (by decide) ?_
      exact finIP_of (by unfold zmetS; first | (rw [if_pos (fun h9 => c_10 h9.1)]; done) | (rw [if_pos (fun h9 => c_26 h9.2)]; done) | (rw [if_neg (fun h9 => h9 ⟨c_10, c_26⟩), ztoNat (show xc < 2147483648 by omega), ztoNat (show xs < 2147483648 by omega)])) (u := σ) (mEq_refl hW) X dX12_met_44 fin
    ·
      rw [zi_m1 v (by omega)] at c_26
      obtain ⟨xs, hxs, rfl⟩ := zi_in (n := σ.1 8) (by omega) c_26
      refine lv_aload_n hx hb dX12_met_29 rfl (lv_at hl 0 rfl) ?_
      refine m_geta G X 11 rfl (hwd _ mk_12) rfl dX12_met_30 ?_
      refine lv_bipush (v := nI 6) hx hb dX12_met_33 (by decide) ?_
      refine lv_iload_n hx hb dX12_met_35 rfl (lv_at hl 1 rfl) ?_
      refine gn_imul hx hb dX12_met_36  ?_
      refine lv_iload_n hx hb dX12_met_37 rfl (lv_at hl 2 rfl) ?_
      refine gn_iadd hx hb dX12_met_38  ?_
      refine m_iald G X 11 rfl (i := ((6 * xc) + xs)) (by show _ < 48; omega) (by omega) dX12_met_39 ?_
      refine lv_goto (tgt := 44) hx hb dX12_met_40 (by decide) ?_
      exact finIP_of (by unfold zmetS; first | (rw [if_pos (fun h9 => c_10 h9.1)]; done) | (rw [if_pos (fun h9 => c_26 h9.2)]; done) | (rw [if_neg (fun h9 => h9 ⟨c_10, c_26⟩), ztoNat (show xc < 2147483648 by omega), ztoNat (show xs < 2147483648 by omega)])) (u := σ) (mEq_refl hW) X dX12_met_44 fin
set_option maxHeartbeats 4000000 in
set_option maxRecDepth 100000 in
theorem c_weight {l : Launch} {D : va_G} {cl : List vw_C} {tys : List (ClassId × FieldType)} {o : Nat} {q : Nat → Nat} {ci : Nat} {cI cJ : ClassId} (hcl : cl[ci]? = some (RX12, TX12, 48)) (ht0 : tys[0]? = some (cI, .int)) (ht1 : tys[1]? = some (cJ, .long)) {σ : MS} {σ0 : MS} (h15 : σ = sF σ0 15 0) (d : Int32) (hok : mOk σ) (hsh : mSh σ) : ctIP l D cl tys yX12_weight (Cond.code yX12_weight cX12_weight 2 (some .int) :: mW) { frames := 2, cells := 0, slots := 0, locals := 46 } [.ref o, .int d] (mw o q ci cI cJ σ0) (mw o q ci cI cJ) (zweightS σ d) (fun u => mEq σ u) := by
  refine ctIP_of (cc := cX12_weight) (maxL := 2) (by decide +kernel) rfl (Nat.le_of_ble_eq_true rfl) ?_
  intro p e s m args below meth c A Q ls hx hb hml hown hts hK hA X hl fin
  replace hown : s.vm.findClass RX12 = some m.cls := hown
  have hwd : ∀ w ∈ mW, w.before args s = true := fun w h => hts w (List.mem_cons_of_mem _ h)
  have G : mG p c cX12_weight s m args D cl tys ci cI cJ := ⟨hx, hb, hown, hwd, hK, hcl, ht0, ht1⟩
  replace hl : lv_has ls 2 [(0, .ref o), (1, .int d)] := hl
  obtain ⟨kr, kw, ks, kroad, kworld, ksort, kmet, ksum, kst, kco⟩ := id hok
  obtain ⟨hh, hru, hro, htb, hW, hp28, hth⟩ := id hsh
  have hp : σ.1 28 < 8 ∨ σ.1 28 = 4294967295 := Or.inr hp28
  refine lv_aload_n hx hb dX12_weight_0 rfl (lv_at hl 0 rfl) ?_
  refine lv_iconst (v := nI 0) hx hb dX12_weight_1 (by decide) ?_
  refine m_puti G X 15 rfl (hwd _ mk_35) rfl (ty := .int) (by decide +kernel) rfl rfl dX12_weight_2 (fun H locs X => ?_)
  rw [← h15] at X
  refine lv_aload_n hx hb dX12_weight_5 rfl (lv_at hl 0 rfl) ?_
  refine lv_iload_n hx hb dX12_weight_6 rfl (lv_at hl 1 rfl) ?_
  refine ctI_V (wf := []) (As := [.int d]) (rest := []) (n := 1) hx hb hml hown hts hK hA (ap_nil X) hl.1 (m_recv G X) (c_wrongShelf hcl ht0 ht1 (σ := σ) d (hok) (hh)) (cwV 1 hts (mg_V mk_290 mk_292 mk_293 mk_294 mk_43) rfl rfl rfl (by decide +kernel) ⟨Nat.le_of_ble_eq_true rfl, Nat.le_of_ble_eq_true rfl⟩) rfl (Nat.le_of_ble_eq_true rfl) dX12_weight_7 ⟨Nat.le_refl _, Nat.le_refl _⟩ (fun H locs X => ?_)
  replace X := ap_nil' X
  refine lv_if_ge (tgt := 21) hx hb dX12_weight_10 (by decide) (fun c_10 => ?_) (fun c_10 => ?_)
  ·
    obtain ⟨g1, g2⟩ := zshK_in hh c_10
    obtain ⟨xd, hxd, rfl⟩ := zi_in (n := 8) (by decide) g1
    rw [ztoNat (show xd < 2147483648 by omega)] at g2
    obtain ⟨hk6, hf99⟩ := hru xd hxd g2
    refine lv_aload_n hx hb dX12_weight_21 rfl (lv_at hl 0 rfl) ?_
    refine lv_iload_n hx hb dX12_weight_22 rfl (lv_at hl 1 rfl) ?_
    refine ctI_V (wf := []) (As := [.int (nI xd)]) (rest := []) (n := 1) hx hb hml hown hts hK hA (ap_nil X) hl.1 (m_recv G X) (c_weightOf hcl ht0 ht1 (σ := σ) xd (hok) (by omega) (by omega) (by omega)) (cwV 1 hts (mg_V mk_289 mk_295 mk_296 mk_297 mk_43) rfl rfl rfl (by decide +kernel) ⟨Nat.le_of_ble_eq_true rfl, Nat.le_of_ble_eq_true rfl⟩) rfl (Nat.le_of_ble_eq_true rfl) dX12_weight_23 ⟨Nat.le_refl _, Nat.le_refl _⟩ (fun H locs X => ?_)
    replace X := ap_nil' X
    exact finIP_of (by unfold zweightS; first | (rw [if_pos (Int32.not_le.mp c_10)]; done) | (rw [if_neg (Int32.not_lt.mpr c_10), ztoNat (show xd < 2147483648 by omega)])) (u := σ) (mEq_refl hW) X dX12_weight_26 fin
  ·
    refine lv_aload_n hx hb dX12_weight_13 rfl (lv_at hl 0 rfl) ?_
    refine lv_iload_n hx hb dX12_weight_14 rfl (lv_at hl 1 rfl) ?_
    refine ctI_V (wf := []) (As := [.int d]) (rest := []) (n := 1) hx hb hml hown hts hK hA (ap_nil X) hl.1 (m_recv G X) (c_wrongShelf hcl ht0 ht1 (σ := σ) d (hok) (hh)) (cwV 1 hts (mg_V mk_290 mk_292 mk_293 mk_294 mk_43) rfl rfl rfl (by decide +kernel) ⟨Nat.le_of_ble_eq_true rfl, Nat.le_of_ble_eq_true rfl⟩) rfl (Nat.le_of_ble_eq_true rfl) dX12_weight_15 ⟨Nat.le_refl _, Nat.le_refl _⟩ (fun H locs X => ?_)
    replace X := ap_nil' X
    refine lv_goto (tgt := 26) hx hb dX12_weight_18 (by decide) ?_
    exact finIP_of (by unfold zweightS; first | (rw [if_pos (Int32.not_le.mp c_10)]; done) | (rw [if_neg (Int32.not_lt.mpr c_10), ztoNat (show xd < 2147483648 by omega)])) (u := σ) (mEq_refl hW) X dX12_weight_26 fin
