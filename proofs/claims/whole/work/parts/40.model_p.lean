set_option maxHeartbeats 4000000 in
set_option maxRecDepth 100000 in
theorem c_mean {l : Launch} {D : va_G} {cl : List vw_C} {tys : List (ClassId × FieldType)} {o : Nat} {q : Nat → Nat} {ci : Nat} {cI cJ : ClassId} (hcl : cl[ci]? = some (RX12, TX12, 48)) (ht0 : tys[0]? = some (cI, .int)) (ht1 : tys[1]? = some (cJ, .long)) {σ : MS} {σ0 : MS} (h15 : σ = sF σ0 15 0) (d : Int32) (x : Int32) (xz : Nat) (hok : mOk σ) (hsh : mSh σ) : ctIP l D cl tys yX12_mean (Cond.code yX12_mean cX12_mean 4 (some .int) :: mW) { frames := 7, cells := 0, slots := 0, locals := 180 } [.ref o, .int d, .int x, .int (nI xz)] (mw o q ci cI cJ σ0) (mw o q ci cI cJ) (zmeanS σ d x xz) (fun u => mEq σ u) := by
  refine ctIP_of (cc := cX12_mean) (maxL := 4) (by decide +kernel) rfl (Nat.le_of_ble_eq_true rfl) ?_
  intro p e s m args below meth c A Q ls hx hb hml hown hts hK hA X hl fin
  replace hown : s.vm.findClass RX12 = some m.cls := hown
  have hwd : ∀ w ∈ mW, w.before args s = true := fun w h => hts w (List.mem_cons_of_mem _ h)
  have G : mG p c cX12_mean s m args D cl tys ci cI cJ := ⟨hx, hb, hown, hwd, hK, hcl, ht0, ht1⟩
  replace hl : lv_has ls 4 [(0, .ref o), (1, .int d), (2, .int x), (3, .int (nI xz))] := hl
  obtain ⟨kr, kw, ks, kroad, kworld, ksort, kmet, ksum, kst, kco⟩ := id hok
  obtain ⟨hh, hru, hro, htb, hW, hp28, hth⟩ := id hsh
  have hp : σ.1 28 < 8 ∨ σ.1 28 = 4294967295 := Or.inr hp28
  refine lv_aload_n hx hb dX12_mean_0 rfl (lv_at hl 0 rfl) ?_
  refine lv_iconst (v := nI 0) hx hb dX12_mean_1 (by decide) ?_
  refine m_puti G X 15 rfl (hwd _ mk_35) rfl (ty := .int) (by decide +kernel) rfl rfl dX12_mean_2 (fun H locs X => ?_)
  rw [← h15] at X
  refine lv_aload_n hx hb dX12_mean_5 rfl (lv_at hl 0 rfl) ?_
  refine lv_iload_n hx hb dX12_mean_6 rfl (lv_at hl 1 rfl) ?_
  refine lv_iload_n hx hb dX12_mean_7 rfl (lv_at hl 2 rfl) ?_
  refine ctI_V (wf := []) (As := [.int d, .int x]) (rest := []) (n := 2) hx hb hml hown hts hK hA (ap_nil X) hl.1 (m_recv G X) (c_wrongMean hcl ht0 ht1 (σ := σ) d x (hok) (hsh)) (cwV 2 hts (mg_V mk_247 mk_249 mk_250 mk_251 mk_43) rfl rfl rfl (by decide +kernel) ⟨Nat.le_of_ble_eq_true rfl, Nat.le_of_ble_eq_true rfl⟩) rfl (Nat.le_of_ble_eq_true rfl) dX12_mean_8 ⟨Nat.le_refl _, Nat.le_refl _⟩ (fun H locs X => ?_)
  replace X := ap_nil' X
  refine lv_if_ge (tgt := 21) hx hb dX12_mean_11 (by decide) (fun c_11 => ?_) (fun c_11 => ?_)
  ·
    obtain ⟨g1, g3, g4, g5⟩ := zwmean_in (Int32.not_lt.mpr c_11)
    obtain ⟨xd, hxd, rfl⟩ := zi_in (n := 8) (by decide) g1
    obtain ⟨xn, hxn, rfl⟩ := zi_in (n := 21) (by decide) (show zir x 21 from ⟨by omega, by omega⟩)
    rw [ztoNat (show xd < 2147483648 by omega)] at g4
    have h41 := zrul_1 (hh xd hxd) (Int32.not_lt.mp g4)
    obtain ⟨hk6, hf99⟩ := hru xd hxd h41
    refine lv_aload_n hx hb dX12_mean_21 rfl (lv_at hl 0 rfl) ?_
    refine ctV_V (wf := []) (As := []) (rest := []) (n := 0) hx hb hml hown hts hK hA (ap_nil X) hl.1 (m_recv G X) (c_findWays hcl ht0 ht1 (σ := σ)  (hok) (hW)) (cwV 0 hts (mg_V mk_116 mk_128 mk_129 mk_130 mk_43) rfl rfl rfl (by decide +kernel) ⟨Nat.le_of_ble_eq_true rfl, Nat.le_of_ble_eq_true rfl⟩) rfl (Nat.le_of_ble_eq_true rfl) dX12_mean_22 ⟨Nat.le_refl _, Nat.le_refl _⟩ (fun H locs X => ?_)
    replace X := ap_nil' X
    replace X := wh_eq (show sA σ 27 (zws σ (σ.2 27) (σ.1 4)) = zf σ from rfl) X
    refine lv_aload_n hx hb dX12_mean_25 rfl (lv_at hl 0 rfl) ?_
    refine lv_aload_n hx hb dX12_mean_26 rfl (lv_at hl 0 rfl) ?_
    refine m_geta G X 42 rfl (hwd _ mk_29) rfl dX12_mean_27 ?_
    refine lv_iload_n hx hb dX12_mean_30 rfl (lv_at hl 1 rfl) ?_
    refine m_iald G X 42 rfl (i := xd) (by show _ < 8; omega) (by omega) dX12_mean_31 ?_
    refine gi_eq (a := (σ.2 42 xd)) rfl ?_
    refine lv_aload_n hx hb dX12_mean_32 rfl (lv_at hl 0 rfl) ?_
    refine m_geta G X 43 rfl (hwd _ mk_30) rfl dX12_mean_33 ?_
    refine lv_iload_n hx hb dX12_mean_36 rfl (lv_at hl 1 rfl) ?_
    refine m_iald G X 43 rfl (i := xd) (by show _ < 8; omega) (by omega) dX12_mean_37 ?_
    refine gi_eq (a := (σ.2 43 xd)) rfl ?_
    refine lv_iload_n hx hb dX12_mean_38 rfl (lv_at hl 2 rfl) ?_
    refine lv_iload_n hx hb dX12_mean_39 rfl (lv_at hl 3 rfl) ?_
    refine ctIP_V (wf := []) (As := [.int (nI (σ.2 42 xd)), .int (nI (σ.2 43 xd)), .int (nI xn), .int (nI xz)]) (rest := []) (n := 4) hx hb hml hown hts hK hA (ap_nil X) hl.1 (m_recv G X) (c_meanOf hcl ht0 ht1 (σ := (zf σ)) (σ.2 42 xd) (σ.2 43 xd) xn xz (hok) (by omega) (by omega) (by omega) (zWok_ws hW _) (hp)) (cwV 4 hts (mg_V mk_246 mk_252 mk_253 mk_254 mk_43) rfl rfl rfl (by decide +kernel) ⟨Nat.le_of_ble_eq_true rfl, Nat.le_of_ble_eq_true rfl⟩) rfl (Nat.le_of_ble_eq_true rfl) dX12_mean_40 ⟨Nat.le_refl _, Nat.le_refl _⟩ (fun H locs u_40 hu_40 X => ?_)
    replace X := ap_nil' X
    obtain ⟨m_40, v_40, a_40, y1_40, y2_40, y3_40, y4_40, y5_40, rfl⟩ := hu_40
    exact finIP_of (by unfold zmeanS; rw [if_neg (Int32.not_lt.mpr c_11), ztoNat (show xd < 2147483648 by omega), ztoNat (show xn < 2147483648 by omega)]) (u := (zw (zf σ) m_40 v_40 a_40 y1_40 y2_40 y3_40 y4_40 y5_40)) (mEq_zw hW) X dX12_mean_43 fin
  ·
    refine lv_aload_n hx hb dX12_mean_14 rfl (lv_at hl 0 rfl) ?_
    refine lv_iload_n hx hb dX12_mean_15 rfl (lv_at hl 1 rfl) ?_
    refine lv_iload_n hx hb dX12_mean_16 rfl (lv_at hl 2 rfl) ?_
    refine ctI_V (wf := []) (As := [.int d, .int x]) (rest := []) (n := 2) hx hb hml hown hts hK hA (ap_nil X) hl.1 (m_recv G X) (c_wrongMean hcl ht0 ht1 (σ := σ) d x (hok) (hsh)) (cwV 2 hts (mg_V mk_247 mk_249 mk_250 mk_251 mk_43) rfl rfl rfl (by decide +kernel) ⟨Nat.le_of_ble_eq_true rfl, Nat.le_of_ble_eq_true rfl⟩) rfl (Nat.le_of_ble_eq_true rfl) dX12_mean_17 ⟨Nat.le_refl _, Nat.le_refl _⟩ (fun H locs X => ?_)
    replace X := ap_nil' X
    exact finIP_of (by unfold zmeanS; rw [if_pos (Int32.not_le.mp c_11)]) (u := σ) (mEq_refl hW) X dX12_mean_20 fin
set_option maxHeartbeats 4000000 in
set_option maxRecDepth 100000 in
theorem c_element {l : Launch} {D : va_G} {cl : List vw_C} {tys : List (ClassId × FieldType)} {o : Nat} {q : Nat → Nat} {ci : Nat} {cI cJ : ClassId} (hcl : cl[ci]? = some (RX12, TX12, 48)) (ht0 : tys[0]? = some (cI, .int)) (ht1 : tys[1]? = some (cJ, .long)) {σ : MS} (d : Int32) (y : Int32) (hok : mOk σ) (hsh : mSh σ) : ctL l D cl tys yX12_element (Cond.code yX12_element cX12_element 4 (some .long) :: mW) { frames := 2, cells := 0, slots := 0, locals := 46 } [.ref o, .int d, .int y] (mw o q ci cI cJ σ) (zelS σ d y) (mw o q ci cI cJ (sF σ 15 (zelT σ d y))) := by
  refine ctL_of (cc := cX12_element) (maxL := 4) (by decide +kernel) rfl (Nat.le_of_ble_eq_true rfl) ?_
  intro p e s m args below meth c A Q ls hx hb hml hown hts hK hA X hl fin
  replace hown : s.vm.findClass RX12 = some m.cls := hown
  have hwd : ∀ w ∈ mW, w.before args s = true := fun w h => hts w (List.mem_cons_of_mem _ h)
  have G : mG p c cX12_element s m args D cl tys ci cI cJ := ⟨hx, hb, hown, hwd, hK, hcl, ht0, ht1⟩
  replace hl : lv_has ls 4 [(0, .ref o), (1, .int d), (2, .int y)] := hl
  obtain ⟨kr, kw, ks, kroad, kworld, ksort, kmet, ksum, kst, kco⟩ := id hok
  obtain ⟨hh, hru, hro, htb, hW, hp28, hth⟩ := id hsh
  have hp : σ.1 28 < 8 ∨ σ.1 28 = 4294967295 := Or.inr hp28
  refine lv_aload_n hx hb dX12_element_0 rfl (lv_at hl 0 rfl) ?_
  refine lv_iload_n hx hb dX12_element_1 rfl (lv_at hl 1 rfl) ?_
  refine ctI_V (wf := []) (As := [.int d]) (rest := []) (n := 1) hx hb hml hown hts hK hA (ap_nil X) hl.1 (m_recv G X) (c_wrongRow hcl ht0 ht1 (σ := σ) d (hok) (hh)) (cwV 1 hts (mg_V mk_86 mk_88 mk_89 mk_90 mk_43) rfl rfl rfl (by decide +kernel) ⟨Nat.le_of_ble_eq_true rfl, Nat.le_of_ble_eq_true rfl⟩) rfl (Nat.le_of_ble_eq_true rfl) dX12_element_2 ⟨Nat.le_refl _, Nat.le_refl _⟩ (fun H locs X => ?_)
  replace X := ap_nil' X
  refine lv_istore_n (lv' := [(3, .int (zrowK σ d)), (0, .ref o), (1, .int d), (2, .int y)]) hx hb dX12_element_5 rfl hl (by decide) rfl (fun ls hl => ?_)
  refine lv_aload_n hx hb dX12_element_6 rfl (lv_at hl 1 rfl) ?_
  refine lv_iload_n hx hb dX12_element_7 rfl (lv_at hl 0 rfl) ?_
  refine lv_iconst (v := (-1)) hx hb dX12_element_8 (by decide) ?_
  refine lv_icmp_ne (tgt := 16) hx hb dX12_element_9 (by decide) (fun c_9 => ?_) (fun c_9 => ?_)
  ·
    refine lv_iload_n hx hb dX12_element_16 rfl (lv_at hl 0 rfl) ?_
    refine lv_if_lt (tgt := 38) hx hb dX12_element_17 (by decide) (fun c_17 => ?_) (fun c_17 => ?_)
    ·
      have hT : zelT σ d y = 2 := by unfold zelT; rw [if_neg c_9, if_pos (Or.inl c_17)]
      refine lv_iconst (v := nI 2) hx hb dX12_element_38 (by decide) ?_
      refine lv_goto (tgt := 43) hx hb dX12_element_39 (by decide) ?_
      refine m_puti G X 15 rfl (hwd _ mk_35) rfl (ty := .int) (by decide +kernel) rfl rfl dX12_element_43 (fun H locs X => ?_)
      refine lv_aload_n hx hb dX12_element_46 rfl (lv_at hl 1 rfl) ?_
      refine m_geti G X 15 rfl (hwd _ mk_35) rfl dX12_element_47 ?_
      refine gi_eq (a := 2) rfl ?_
      refine gn_if_le (tgt := 57) hx hb dX12_element_50 (by decide) (by omega) (fun c_50 => ?_) (fun c_50 => ?_)
      · exact absurd c_50 (by decide)
      ·
        refine lv_lconst (v := lN 0) hx hb dX12_element_53 (by decide) ?_
        refine lv_goto (tgt := 68) hx hb dX12_element_54 (by decide) ?_
        exact finL_of (mw_eq (by rw [hT])) (by unfold zelS; rw [hT]; first | (rw [if_pos (by decide)]; done) | (rw [if_neg (by decide), ztoNat (show xd < 2147483648 by omega), ztoNat (show xi < 2147483648 by omega)])) X dX12_element_68 fin
    ·
      replace c_17 := Int32.not_lt.mp c_17
      obtain ⟨g1, g2⟩ := zrowK_in hh c_17
      obtain ⟨xd, hxd, rfl⟩ := zi_in (n := 8) (by decide) g1
      rw [ztoNat (show xd < 2147483648 by omega)] at g2
      obtain ⟨hs3, hm100⟩ := hro xd hxd g2
      refine lv_iload_n hx hb dX12_element_20 rfl (lv_at hl 3 rfl) ?_
      refine lv_i2l (v := y.toInt64) hx hb dX12_element_21 rfl ?_
      refine lv_lconst (v := lN 0) hx hb dX12_element_22 (by decide) ?_
      refine lv_aload_n hx hb dX12_element_23 rfl (lv_at hl 1 rfl) ?_
      refine m_geta G X 45 rfl (hwd _ mk_32) rfl dX12_element_24 ?_
      refine lv_iload_n hx hb dX12_element_27 rfl (lv_at hl 2 rfl) ?_
      refine m_iald G X 45 rfl (i := xd) (by show _ < 8; omega) (by omega) dX12_element_28 ?_
      refine lv_iconst (v := nI 1) hx hb dX12_element_29 (by decide) ?_
      refine lv_isub hx hb dX12_element_30 ?_
      refine lv_i2l (v := (nI (σ.2 45 xd) - nI 1).toInt64) hx hb dX12_element_31 rfl ?_
      refine ctI_S (w := []) (wf := mw o q ci cI cJ σ) (As := [.long y.toInt64, .long (lN 0), .long ((nI (σ.2 45 xd) - nI 1).toInt64)]) (rest := [.ref o]) (n := 3) hx hb hml hown hts hK hA X hl.1 (c_in y.toInt64 (lN 0) ((nI (σ.2 45 xd) - nI 1).toInt64) ) (va_cwS 3 hts (mg_S mk_38 mk_41 mk_42 mk_43) rfl rfl rfl (by decide +kernel) ⟨Nat.le_of_ble_eq_true rfl, Nat.le_of_ble_eq_true rfl⟩) rfl (Nat.le_of_ble_eq_true rfl) dX12_element_32 ⟨Nat.le_refl _, Nat.le_refl _⟩ (fun H locs X => ?_)
      refine gb_if_ne (tgt := 42) hx hb dX12_element_35 (by decide) (fun c_35 => ?_) (fun c_35 => ?_)
      ·
        rw [zi_m1 y (by omega)] at c_35
        obtain ⟨xi, hxi, rfl⟩ := zi_in (n := σ.2 45 xd) (by omega) c_35
        have hT : zelT σ (nI xd) (nI xi) = 0 := by unfold zelT; rw [if_neg c_9, if_neg (fun h9 => h9.elim (fun h9 => absurd h9 (Int32.not_lt.mpr c_17)) (fun h9 => h9 (by rw [ztoNat (show xd < 2147483648 by omega)]; exact c_35)))]
        refine lv_iconst (v := nI 0) hx hb dX12_element_42 (by decide) ?_
        refine m_puti G X 15 rfl (hwd _ mk_35) rfl (ty := .int) (by decide +kernel) rfl rfl dX12_element_43 (fun H locs X => ?_)
        refine lv_aload_n hx hb dX12_element_46 rfl (lv_at hl 1 rfl) ?_
        refine m_geti G X 15 rfl (hwd _ mk_35) rfl dX12_element_47 ?_
        refine gi_eq (a := 0) rfl ?_
        refine gn_if_le (tgt := 57) hx hb dX12_element_50 (by decide) (by omega) (fun c_50 => ?_) (fun c_50 => ?_)
        ·
          refine lv_aload_n hx hb dX12_element_57 rfl (lv_at hl 1 rfl) ?_
          refine m_geta G X 46 rfl (hwd _ mk_33) rfl dX12_element_58 ?_
          refine lv_bipush (v := nI 100) hx hb dX12_element_61 (by decide) ?_
          refine lv_iload_n hx hb dX12_element_63 rfl (lv_at hl 2 rfl) ?_
          refine gn_imul hx hb dX12_element_64  ?_
          refine lv_iload_n hx hb dX12_element_65 rfl (lv_at hl 3 rfl) ?_
          refine gn_iadd hx hb dX12_element_66  ?_
          refine m_lald G X 46 rfl (i := ((100 * xd) + xi)) (by show _ < 800; omega) (by omega) dX12_element_67 ?_
          refine gl_eq (a := (σ.2 46 ((100 * xd) + xi))) rfl ?_
          exact finL_of (mw_eq (by rw [hT])) (by unfold zelS; rw [hT]; first | (rw [if_pos (by decide)]; done) | (rw [if_neg (by decide), ztoNat (show xd < 2147483648 by omega), ztoNat (show xi < 2147483648 by omega)])) X dX12_element_68 fin
        · exact absurd c_50 (by decide)
      ·
        rw [zi_m1 y (by omega)] at c_35
        have hT : zelT σ (nI xd) y = 2 := by unfold zelT; rw [if_neg c_9, if_pos (Or.inr (fun h9 => c_35 (by rw [ztoNat (show xd < 2147483648 by omega)] at h9; exact h9)))]
        refine lv_iconst (v := nI 2) hx hb dX12_element_38 (by decide) ?_
        refine lv_goto (tgt := 43) hx hb dX12_element_39 (by decide) ?_
        refine m_puti G X 15 rfl (hwd _ mk_35) rfl (ty := .int) (by decide +kernel) rfl rfl dX12_element_43 (fun H locs X => ?_)
        refine lv_aload_n hx hb dX12_element_46 rfl (lv_at hl 1 rfl) ?_
        refine m_geti G X 15 rfl (hwd _ mk_35) rfl dX12_element_47 ?_
        refine gi_eq (a := 2) rfl ?_
        refine gn_if_le (tgt := 57) hx hb dX12_element_50 (by decide) (by omega) (fun c_50 => ?_) (fun c_50 => ?_)
        · exact absurd c_50 (by decide)
        ·
          refine lv_lconst (v := lN 0) hx hb dX12_element_53 (by decide) ?_
          refine lv_goto (tgt := 68) hx hb dX12_element_54 (by decide) ?_
          exact finL_of (mw_eq (by rw [hT])) (by unfold zelS; rw [hT]; first | (rw [if_pos (by decide)]; done) | (rw [if_neg (by decide), ztoNat (show xd < 2147483648 by omega), ztoNat (show xi < 2147483648 by omega)])) X dX12_element_68 fin
  ·
    have hT : zelT σ d y = 1 := by unfold zelT; rw [if_pos c_9]
    refine lv_iconst (v := nI 1) hx hb dX12_element_12 (by decide) ?_
    refine lv_goto (tgt := 43) hx hb dX12_element_13 (by decide) ?_
    refine m_puti G X 15 rfl (hwd _ mk_35) rfl (ty := .int) (by decide +kernel) rfl rfl dX12_element_43 (fun H locs X => ?_)
    refine lv_aload_n hx hb dX12_element_46 rfl (lv_at hl 1 rfl) ?_
    refine m_geti G X 15 rfl (hwd _ mk_35) rfl dX12_element_47 ?_
    refine gi_eq (a := 1) rfl ?_
    refine gn_if_le (tgt := 57) hx hb dX12_element_50 (by decide) (by omega) (fun c_50 => ?_) (fun c_50 => ?_)
    · exact absurd c_50 (by decide)
    ·
      refine lv_lconst (v := lN 0) hx hb dX12_element_53 (by decide) ?_
      refine lv_goto (tgt := 68) hx hb dX12_element_54 (by decide) ?_
      exact finL_of (mw_eq (by rw [hT])) (by unfold zelS; rw [hT]; first | (rw [if_pos (by decide)]; done) | (rw [if_neg (by decide), ztoNat (show xd < 2147483648 by omega), ztoNat (show xi < 2147483648 by omega)])) X dX12_element_68 fin
set_option maxHeartbeats 4000000 in
set_option maxRecDepth 100000 in
theorem c_dusk {l : Launch} {D : va_G} {cl : List vw_C} {tys : List (ClassId × FieldType)} {o : Nat} {q : Nat → Nat} {ci : Nat} {cI cJ : ClassId} (hcl : cl[ci]? = some (RX12, TX12, 48)) (ht0 : tys[0]? = some (cI, .int)) (ht1 : tys[1]? = some (cJ, .long)) {σ : MS} {σ0 : MS} (h15 : σ = sF σ0 15 0) (d : Int32) (x : Int32) (xz : Nat) (mn : Int32) (hok : mOk σ) (hsh : mSh σ) : ctIP l D cl tys yX12_dusk (Cond.code yX12_dusk cX12_dusk 9 (some .int) :: mW) { frames := 6, cells := 0, slots := 0, locals := 153 } [.ref o, .int d, .int x, .int (nI xz), .int mn] (mw o q ci cI cJ σ0) (mw o q ci cI cJ) (zduskS σ d x xz mn) (fun u => mEq σ u) := by
  refine ctIP_of (cc := cX12_dusk) (maxL := 9) (by decide +kernel) rfl (Nat.le_of_ble_eq_true rfl) ?_
  intro p e s m args below meth c A Q ls hx hb hml hown hts hK hA X hl fin
  replace hown : s.vm.findClass RX12 = some m.cls := hown
  have hwd : ∀ w ∈ mW, w.before args s = true := fun w h => hts w (List.mem_cons_of_mem _ h)
  have G : mG p c cX12_dusk s m args D cl tys ci cI cJ := ⟨hx, hb, hown, hwd, hK, hcl, ht0, ht1⟩
  replace hl : lv_has ls 9 [(0, .ref o), (1, .int d), (2, .int x), (3, .int (nI xz)), (4, .int mn)] := hl
  obtain ⟨kr, kw, ks, kroad, kworld, ksort, kmet, ksum, kst, kco⟩ := id hok
  obtain ⟨hh, hru, hro, htb, hW, hp28, hth⟩ := id hsh
  have hp : σ.1 28 < 8 ∨ σ.1 28 = 4294967295 := Or.inr hp28
  refine lv_aload_n hx hb dX12_dusk_0 rfl (lv_at hl 0 rfl) ?_
  refine lv_iconst (v := nI 0) hx hb dX12_dusk_1 (by decide) ?_
  refine m_puti G X 15 rfl (hwd _ mk_35) rfl (ty := .int) (by decide +kernel) rfl rfl dX12_dusk_2 (fun H locs X => ?_)
  rw [← h15] at X
  refine lv_iload hx hb dX12_dusk_5 (lv_at hl 4 rfl) ?_
  refine lv_i2l (v := mn.toInt64) hx hb dX12_dusk_7 rfl ?_
  refine lv_lconst (v := lN 0) hx hb dX12_dusk_8 (by decide) ?_
  refine gn_ldc2 (v := 9999) (k := 9999) hx hb hown (hwd _ mk_256) (by decide) dX12_dusk_9 ?_
  refine ctI_S (w := []) (wf := mw o q ci cI cJ σ) (As := [.long mn.toInt64, .long (lN 0), .long (lN 9999)]) (rest := []) (n := 3) hx hb hml hown hts hK hA X hl.1 (c_in mn.toInt64 (lN 0) (lN 9999) ) (va_cwS 3 hts (mg_S mk_38 mk_41 mk_42 mk_43) rfl rfl rfl (by decide +kernel) ⟨Nat.le_of_ble_eq_true rfl, Nat.le_of_ble_eq_true rfl⟩) rfl (Nat.le_of_ble_eq_true rfl) dX12_dusk_12 ⟨Nat.le_refl _, Nat.le_refl _⟩ (fun H locs X => ?_)
  refine gb_if_eq (tgt := 27) hx hb dX12_dusk_15 (by decide) (fun c_15 => ?_) (fun c_15 => ?_)
  ·
    rw [zi_n mn (n := 9999) (by decide)] at c_15
    refine lv_iconst (v := (-1)) hx hb dX12_dusk_27 (by decide) ?_
    refine lv_istore (lv' := [(5, .int (-1)), (0, .ref o), (1, .int d), (2, .int x), (3, .int (nI xz)), (4, .int mn)]) hx hb dX12_dusk_28 hl (by decide) rfl (fun ls hl => ?_)
    refine lv_iload hx hb dX12_dusk_30 (lv_at hl 0 rfl) ?_
    refine lv_if_ge (tgt := 38) hx hb dX12_dusk_32 (by decide) (fun c_32 => ?_) (fun c_32 => ?_)
    · exact absurd c_32 (by decide)
    ·
      refine lv_iload hx hb dX12_dusk_35 (lv_at hl 0 rfl) ?_
      exact finIP_of (by unfold zduskS; rw [if_pos c_15]) (u := σ) (mEq_refl hW) X dX12_dusk_37 fin
  ·
    rw [zi_n mn (n := 9999) (by decide)] at c_15
    obtain ⟨xm, hxm, rfl⟩ := zi_in (n := 10000) (by omega) c_15
    refine lv_aload_n hx hb dX12_dusk_18 rfl (lv_at hl 0 rfl) ?_
    refine lv_iload_n hx hb dX12_dusk_19 rfl (lv_at hl 1 rfl) ?_
    refine lv_iload_n hx hb dX12_dusk_20 rfl (lv_at hl 2 rfl) ?_
    refine ctI_V (wf := []) (As := [.int d, .int x]) (rest := []) (n := 2) hx hb hml hown hts hK hA (ap_nil X) hl.1 (m_recv G X) (c_wrongMean hcl ht0 ht1 (σ := σ) d x (hok) (hsh)) (cwV 2 hts (mg_V mk_247 mk_249 mk_250 mk_251 mk_43) rfl rfl rfl (by decide +kernel) ⟨Nat.le_of_ble_eq_true rfl, Nat.le_of_ble_eq_true rfl⟩) rfl (Nat.le_of_ble_eq_true rfl) dX12_dusk_21 ⟨Nat.le_refl _, Nat.le_refl _⟩ (fun H locs X => ?_)
    replace X := ap_nil' X
    refine lv_goto (tgt := 28) hx hb dX12_dusk_24 (by decide) ?_
    refine lv_istore (lv' := [(5, .int (zwmean σ d x)), (0, .ref o), (1, .int d), (2, .int x), (3, .int (nI xz)), (4, .int (nI xm))]) hx hb dX12_dusk_28 hl (by decide) rfl (fun ls hl => ?_)
    refine lv_iload hx hb dX12_dusk_30 (lv_at hl 0 rfl) ?_
    refine lv_if_ge (tgt := 38) hx hb dX12_dusk_32 (by decide) (fun c_32 => ?_) (fun c_32 => ?_)
    ·
      replace hl := lv_sub hl [1, 2, 3, 4, 5] rfl
      obtain ⟨g1, g3, g4, g5⟩ := zwmean_in (Int32.not_lt.mpr c_32)
      obtain ⟨xd, hxd, rfl⟩ := zi_in (n := 8) (by decide) g1
      obtain ⟨xn, hxn, rfl⟩ := zi_in (n := 21) (by decide) (show zir x 21 from ⟨by omega, by omega⟩)
      rw [ztoNat (show xd < 2147483648 by omega)] at g4
      have h41 := zrul_1 (hh xd hxd) (Int32.not_lt.mp g4)
      obtain ⟨hk6, hf99⟩ := hru xd hxd h41
      refine lv_aload_n hx hb dX12_dusk_38 rfl (lv_at hl 0 rfl) ?_
      refine ctV_V (wf := []) (As := []) (rest := []) (n := 0) hx hb hml hown hts hK hA (ap_nil X) hl.1 (m_recv G X) (c_findWays hcl ht0 ht1 (σ := σ)  (hok) (hW)) (cwV 0 hts (mg_V mk_116 mk_128 mk_129 mk_130 mk_43) rfl rfl rfl (by decide +kernel) ⟨Nat.le_of_ble_eq_true rfl, Nat.le_of_ble_eq_true rfl⟩) rfl (Nat.le_of_ble_eq_true rfl) dX12_dusk_39 ⟨Nat.le_refl _, Nat.le_refl _⟩ (fun H locs X => ?_)
      replace X := ap_nil' X
      replace X := wh_eq (show sA σ 27 (zws σ (σ.2 27) (σ.1 4)) = zf σ from rfl) X
      replace X := wh_eq (zw_self (zf σ)) X
      refine lv_iconst (v := nI 0) hx hb dX12_dusk_42 (by decide) ?_
      refine lv_istore (lv' := [(6, .int (nI 0)), (0, .ref o), (1, .int (nI xd)), (2, .int (nI xn)), (3, .int (nI xz)), (4, .int (nI xm))]) hx hb dX12_dusk_43 hl (by decide) rfl (fun ls hl => ?_)
      refine lv_iconst (v := nI 0) hx hb dX12_dusk_45 (by decide) ?_
      refine lv_istore (lv' := [(7, .int (nI 0)), (6, .int (nI 0)), (0, .ref o), (1, .int (nI xd)), (2, .int (nI xn)), (3, .int (nI xz)), (4, .int (nI xm))]) hx hb dX12_dusk_46 hl (by decide) rfl (fun ls hl => ?_)
      have cut_48 : ∀ (NN : Nat) (w1 : Nat) (mm : Nat → Nat) (vv : Nat → Nat) (aa : Nat → Nat) (x30 : Nat) (x31 : Nat) (x32 : Nat) (x33 : Nat) (x34 : Nat) (h1 : w1 ≤ σ.1 4), σ.1 4 - w1 < NN → ∀ (H : Heap) (locs : List Loc) (ls : Array Slot), wH D cl A s.heap H locs (mw o q ci cI cJ (zw (zf σ) mm vv aa x30 x31 x32 x33 x34)) → lv_has ls 9 [(0, .ref o), (1, .int (nI xd)), (2, .int (nI xn)), (3, .int (nI xz)), (4, .int (nI xm)), (6, .int (nI (zsum (zdusk (zf σ) (σ.2 42 xd) (σ.2 43 xd) xn xz xm) w1))), (7, .int (nI w1))] → W p l e { frames := 6, cells := 0, slots := 0, locals := 153 } s m args below meth c H locs 0 0 Q (F0 m 48 ls []) := by
        intro NN
        induction NN with
        | zero => intro w1 mm vv aa x30 x31 x32 x33 x34 h1 hNN; exact absurd hNN (Nat.not_lt_zero _)
        | succ NN ih_48 =>
          intro w1 mm vv aa x30 x31 x32 x33 x34 h1 hNN H locs ls X hl
          refine lv_iload hx hb dX12_dusk_48 (lv_at hl 6 rfl) ?_
          refine lv_aload_n hx hb dX12_dusk_50 rfl (lv_at hl 0 rfl) ?_
          refine m_geti G X 4 rfl (hwd _ mk_45) rfl dX12_dusk_51 ?_
          refine gi_eq (a := (σ.1 4)) rfl ?_
          refine gn_icmp_ge (tgt := 132) hx hb dX12_dusk_54 (by decide) (by omega) (by omega) (fun c_54 => ?_) (fun c_54 => ?_)
          ·
            refine lv_iload hx hb dX12_dusk_132 (lv_at hl 5 rfl) ?_
            exact finIP_of (by unfold zduskS; rw [if_neg (fun h9 => h9 c_15), if_neg (Int32.not_lt.mpr c_32), ztoNat (show xd < 2147483648 by omega), ztoNat (show xn < 2147483648 by omega), ztoNat (show xm < 2147483648 by omega), show w1 = σ.1 4 by omega]) (u := (zw (zf σ) mm vv aa x30 x31 x32 x33 x34)) (mEq_zw hW) X dX12_dusk_134 fin
          ·
            refine lv_iconst (v := nI 0) hx hb dX12_dusk_57 (by decide) ?_
            refine lv_istore (lv' := [(8, .int (nI 0)), (0, .ref o), (1, .int (nI xd)), (2, .int (nI xn)), (3, .int (nI xz)), (4, .int (nI xm)), (6, .int (nI (zsum (zdusk (zf σ) (σ.2 42 xd) (σ.2 43 xd) xn xz xm) w1))), (7, .int (nI w1))]) hx hb dX12_dusk_58 hl (by decide) rfl (fun ls hl => ?_)
            have cut_60 : ∀ (NN : Nat) (k1 : Nat) (mmb : Nat → Nat) (vvb : Nat → Nat) (aab : Nat → Nat) (x30b : Nat) (x31b : Nat) (x32b : Nat) (x33b : Nat) (x34b : Nat) (hk1 : k1 ≤ xn), xn - k1 < NN → ∀ (H : Heap) (locs : List Loc) (ls : Array Slot), wH D cl A s.heap H locs (mw o q ci cI cJ (zw (zf σ) mmb vvb aab x30b x31b x32b x33b x34b)) → lv_has ls 9 [(0, .ref o), (1, .int (nI xd)), (2, .int (nI xn)), (3, .int (nI xz)), (4, .int (nI xm)), (6, .int (nI (zsum (zdusk (zf σ) (σ.2 42 xd) (σ.2 43 xd) xn xz xm) w1 + zsum (zduskI (zf σ) (σ.2 42 xd) (σ.2 43 xd) xz xm w1) k1))), (7, .int (nI w1)), (8, .int (nI k1))] → W p l e { frames := 6, cells := 0, slots := 0, locals := 153 } s m args below meth c H locs 0 0 Q (F0 m 60 ls []) := by
              intro NN
              induction NN with
              | zero => intro k1 mmb vvb aab x30b x31b x32b x33b x34b hk1 hNN; exact absurd hNN (Nat.not_lt_zero _)
              | succ NN ih_60 =>
                intro k1 mmb vvb aab x30b x31b x32b x33b x34b hk1 hNN H locs ls X hl
                refine lv_iload hx hb dX12_dusk_60 (lv_at hl 7 rfl) ?_
                refine lv_iload_n hx hb dX12_dusk_62 rfl (lv_at hl 2 rfl) ?_
                refine gn_icmp_ge (tgt := 126) hx hb dX12_dusk_63 (by decide) (by omega) (by omega) (fun c_63 => ?_) (fun c_63 => ?_)
                ·
                  refine lv_iinc (v := nI (w1 + 1)) (lv' := [(7, .int (nI (w1 + 1))), (0, .ref o), (1, .int (nI xd)), (2, .int (nI xn)), (3, .int (nI xz)), (4, .int (nI xm)), (6, .int (nI (zsum (zdusk (zf σ) (σ.2 42 xd) (σ.2 43 xd) xn xz xm) w1 + zsum (zduskI (zf σ) (σ.2 42 xd) (σ.2 43 xd) xz xm w1) k1))), (8, .int (nI k1))]) hx hb dX12_dusk_126 hl (k := 6) rfl (zn_inc _) (by decide) rfl (fun ls hl => ?_)
                  refine lv_goto (tgt := 48) hx hb dX12_dusk_129 (by decide) ?_
                  refine ih_48 (w1 + 1) mmb vvb aab x30b x31b x32b x33b x34b (by omega) (by omega) _ _ _ (by exact X) (by rw [show zsum (zdusk (zf σ) (σ.2 42 xd) (σ.2 43 xd) xn xz xm) w1 + zsum (zduskI (zf σ) (σ.2 42 xd) (σ.2 43 xd) xz xm w1) k1 = zsum (zdusk (zf σ) (σ.2 42 xd) (σ.2 43 xd) xn xz xm) (w1 + 1) by rw [show k1 = xn by omega]; rfl] at hl; exact lv_sub hl [1, 2, 3, 4, 5, 6, 0] rfl)
                ·
                  refine lv_aload_n hx hb dX12_dusk_66 rfl (lv_at hl 0 rfl) ?_
                  refine lv_iload hx hb dX12_dusk_67 (lv_at hl 6 rfl) ?_
                  refine lv_aload_n hx hb dX12_dusk_69 rfl (lv_at hl 0 rfl) ?_
                  refine m_geta G X 42 rfl (hwd _ mk_29) rfl dX12_dusk_70 ?_
                  refine lv_iload_n hx hb dX12_dusk_73 rfl (lv_at hl 1 rfl) ?_
                  refine m_iald G X 42 rfl (i := xd) (by show _ < 8; omega) (by omega) dX12_dusk_74 ?_
                  refine gi_eq (a := (σ.2 42 xd)) rfl ?_
                  refine lv_aload_n hx hb dX12_dusk_75 rfl (lv_at hl 0 rfl) ?_
                  refine m_geta G X 43 rfl (hwd _ mk_30) rfl dX12_dusk_76 ?_
                  refine lv_iload_n hx hb dX12_dusk_79 rfl (lv_at hl 1 rfl) ?_
                  refine m_iald G X 43 rfl (i := xd) (by show _ < 8; omega) (by omega) dX12_dusk_80 ?_
                  refine gi_eq (a := (σ.2 43 xd)) rfl ?_
                  refine lv_iload_n hx hb dX12_dusk_81 rfl (lv_at hl 3 rfl) ?_
                  refine lv_iload hx hb dX12_dusk_82 (lv_at hl 7 rfl) ?_
                  refine gn_iadd hx hb dX12_dusk_84  ?_
                  refine ctVP_V (wf := []) (As := [.int (nI w1), .int (nI (σ.2 42 xd)), .int (nI (σ.2 43 xd)), .int (nI (xz + k1))]) (rest := []) (n := 4) hx hb hml hown hts hK hA (ap_nil X) hl.1 (m_recv G X) (c_walkFromStart hcl ht0 ht1 (σ := (zw (zf σ) mmb vvb aab x30b x31b x32b x33b x34b)) w1 (σ.2 42 xd) (σ.2 43 xd) (xz + k1) (hok) (c_54) ((Or.inl hk6)) (hf99) (zWok_ws hW _) (hp)) (cwV 4 hts (mg_V mk_238 mk_242 mk_243 mk_244 mk_43) rfl rfl rfl (by decide +kernel) ⟨Nat.le_of_ble_eq_true rfl, Nat.le_of_ble_eq_true rfl⟩) rfl (Nat.le_of_ble_eq_true rfl) dX12_dusk_85 ⟨Nat.le_refl _, Nat.le_refl _⟩ (fun H locs u_85 hu_85 X => ?_)
                  replace X := ap_nil' X
                  obtain ⟨m_85, v_85, a_85, se_85, rfl⟩ := hu_85
                  simp only [zwalk_zw] at X
                  replace X := wh_eq (σ' := (zw (zf σ) m_85 v_85 a_85 ((zwalk (zf σ) w1 (σ.1 12) (σ.2 42 xd) (σ.2 43 xd) (σ.2 5) (xz + k1)).2.1) ((zwalk (zf σ) w1 (σ.1 12) (σ.2 42 xd) (σ.2 43 xd) (σ.2 5) (xz + k1)).2.2.1) ((zwalk (zf σ) w1 (σ.1 12) (σ.2 42 xd) (σ.2 43 xd) (σ.2 5) (xz + k1)).2.2.2) ((zwalk (zf σ) w1 (σ.1 12) (σ.2 42 xd) (σ.2 43 xd) (σ.2 5) (xz + k1)).1) se_85)) zw_zw X
                  have hmn := zwalk_min (σ := zf σ) hok (w := w1) (c := σ.1 12) (rule := σ.2 42 xd) (z := xz + k1) (m := σ.2 5) hf99
                  refine lv_iload hx hb dX12_dusk_88 (lv_at hl 5 rfl) ?_
                  refine lv_aload_n hx hb dX12_dusk_90 rfl (lv_at hl 0 rfl) ?_
                  refine m_geti G X 33 rfl (hwd _ mk_215) rfl dX12_dusk_91 ?_
                  refine gi_eq (a := ((zwalk (zf σ) w1 (σ.1 12) (σ.2 42 xd) (σ.2 43 xd) (σ.2 5) (xz + k1)).1)) rfl ?_
                  refine gn_if_ne (tgt := 106) hx hb dX12_dusk_94 (by decide) (zwalk_lost) (fun c_94 => ?_) (fun c_94 => ?_)
                  ·
                    refine lv_iconst (v := nI 0) hx hb dX12_dusk_106 (by decide) ?_
                    refine lv_goto (tgt := 117) hx hb dX12_dusk_107 (by decide) ?_
                    refine gn_iadd hx hb dX12_dusk_117  ?_
                    refine lv_istore (lv' := [(6, .int (nI ((zsum (zdusk (zf σ) (σ.2 42 xd) (σ.2 43 xd) xn xz xm) w1 + zsum (zduskI (zf σ) (σ.2 42 xd) (σ.2 43 xd) xz xm w1) k1) + 0))), (0, .ref o), (1, .int (nI xd)), (2, .int (nI xn)), (3, .int (nI xz)), (4, .int (nI xm)), (7, .int (nI w1)), (8, .int (nI k1))]) hx hb dX12_dusk_118 hl (by decide) rfl (fun ls hl => ?_)
                    refine lv_iinc (v := nI (k1 + 1)) (lv' := [(8, .int (nI (k1 + 1))), (6, .int (nI ((zsum (zdusk (zf σ) (σ.2 42 xd) (σ.2 43 xd) xn xz xm) w1 + zsum (zduskI (zf σ) (σ.2 42 xd) (σ.2 43 xd) xz xm w1) k1) + 0))), (0, .ref o), (1, .int (nI xd)), (2, .int (nI xn)), (3, .int (nI xz)), (4, .int (nI xm)), (7, .int (nI w1))]) hx hb dX12_dusk_120 hl (k := 7) rfl (zn_inc _) (by decide) rfl (fun ls hl => ?_)
                    refine lv_goto (tgt := 60) hx hb dX12_dusk_123 (by decide) ?_
                    refine ih_60 (k1 + 1) m_85 v_85 a_85 ((zwalk (zf σ) w1 (σ.1 12) (σ.2 42 xd) (σ.2 43 xd) (σ.2 5) (xz + k1)).2.1) ((zwalk (zf σ) w1 (σ.1 12) (σ.2 42 xd) (σ.2 43 xd) (σ.2 5) (xz + k1)).2.2.1) ((zwalk (zf σ) w1 (σ.1 12) (σ.2 42 xd) (σ.2 43 xd) (σ.2 5) (xz + k1)).2.2.2) ((zwalk (zf σ) w1 (σ.1 12) (σ.2 42 xd) (σ.2 43 xd) (σ.2 5) (xz + k1)).1) se_85 (by omega) (by omega) _ _ _ (by exact X) (by first | (rw [zsum_add1 (f := zduskI (zf σ) (σ.2 42 xd) (σ.2 43 xd) xz xm w1) (A := zsum (zdusk (zf σ) (σ.2 42 xd) (σ.2 43 xd) xn xz xm) w1) (k := k1) (show zduskI (zf σ) (σ.2 42 xd) (σ.2 43 xd) xz xm w1 k1 = σ.2 5 w1 from if_pos ⟨c_94, c_103⟩)] at hl; exact lv_sub hl [2, 3, 4, 5, 6, 1, 7, 0] rfl) | (rw [zsum_add1 (f := zduskI (zf σ) (σ.2 42 xd) (σ.2 43 xd) xz xm w1) (A := zsum (zdusk (zf σ) (σ.2 42 xd) (σ.2 43 xd) xn xz xm) w1) (k := k1) (show zduskI (zf σ) (σ.2 42 xd) (σ.2 43 xd) xz xm w1 k1 = 0 from if_neg (fun h9 => absurd h9.2 (Nat.not_le.mpr c_103)))] at hl; exact lv_sub hl [2, 3, 4, 5, 6, 1, 7, 0] rfl) | (rw [zsum_add1 (f := zduskI (zf σ) (σ.2 42 xd) (σ.2 43 xd) xz xm w1) (A := zsum (zdusk (zf σ) (σ.2 42 xd) (σ.2 43 xd) xn xz xm) w1) (k := k1) (show zduskI (zf σ) (σ.2 42 xd) (σ.2 43 xd) xz xm w1 k1 = 0 from if_neg (fun h9 => absurd h9.1 (Nat.ne_of_gt c_94)))] at hl; exact lv_sub hl [2, 3, 4, 5, 6, 1, 7, 0] rfl))
                  ·
                    refine lv_aload_n hx hb dX12_dusk_97 rfl (lv_at hl 0 rfl) ?_
                    refine m_geti G X 30 rfl (hwd _ mk_198) rfl dX12_dusk_98 ?_
                    refine gi_eq (a := ((zwalk (zf σ) w1 (σ.1 12) (σ.2 42 xd) (σ.2 43 xd) (σ.2 5) (xz + k1)).2.1)) rfl ?_
                    refine lv_iload hx hb dX12_dusk_101 (lv_at hl 4 rfl) ?_
                    refine gn_icmp_le (tgt := 110) hx hb dX12_dusk_103 (by decide) (by omega) (by omega) (fun c_103 => ?_) (fun c_103 => ?_)
                    ·
                      have hkc := kworld w1 c_54
                      refine lv_aload_n hx hb dX12_dusk_110 rfl (lv_at hl 0 rfl) ?_
                      refine m_geta G X 5 rfl (hwd _ mk_7) rfl dX12_dusk_111 ?_
                      refine lv_iload hx hb dX12_dusk_114 (lv_at hl 6 rfl) ?_
                      refine m_iald G X 5 rfl (i := w1) (by show _ < 5; omega) (by omega) dX12_dusk_116 ?_
                      refine gi_eq (a := (σ.2 5 w1)) rfl ?_
                      refine gn_iadd hx hb dX12_dusk_117  ?_
                      refine lv_istore (lv' := [(6, .int (nI ((zsum (zdusk (zf σ) (σ.2 42 xd) (σ.2 43 xd) xn xz xm) w1 + zsum (zduskI (zf σ) (σ.2 42 xd) (σ.2 43 xd) xz xm w1) k1) + (σ.2 5 w1)))), (0, .ref o), (1, .int (nI xd)), (2, .int (nI xn)), (3, .int (nI xz)), (4, .int (nI xm)), (7, .int (nI w1)), (8, .int (nI k1))]) hx hb dX12_dusk_118 hl (by decide) rfl (fun ls hl => ?_)
                      refine lv_iinc (v := nI (k1 + 1)) (lv' := [(8, .int (nI (k1 + 1))), (6, .int (nI ((zsum (zdusk (zf σ) (σ.2 42 xd) (σ.2 43 xd) xn xz xm) w1 + zsum (zduskI (zf σ) (σ.2 42 xd) (σ.2 43 xd) xz xm w1) k1) + (σ.2 5 w1)))), (0, .ref o), (1, .int (nI xd)), (2, .int (nI xn)), (3, .int (nI xz)), (4, .int (nI xm)), (7, .int (nI w1))]) hx hb dX12_dusk_120 hl (k := 7) rfl (zn_inc _) (by decide) rfl (fun ls hl => ?_)
                      refine lv_goto (tgt := 60) hx hb dX12_dusk_123 (by decide) ?_
                      refine ih_60 (k1 + 1) m_85 v_85 a_85 ((zwalk (zf σ) w1 (σ.1 12) (σ.2 42 xd) (σ.2 43 xd) (σ.2 5) (xz + k1)).2.1) ((zwalk (zf σ) w1 (σ.1 12) (σ.2 42 xd) (σ.2 43 xd) (σ.2 5) (xz + k1)).2.2.1) ((zwalk (zf σ) w1 (σ.1 12) (σ.2 42 xd) (σ.2 43 xd) (σ.2 5) (xz + k1)).2.2.2) ((zwalk (zf σ) w1 (σ.1 12) (σ.2 42 xd) (σ.2 43 xd) (σ.2 5) (xz + k1)).1) se_85 (by omega) (by omega) _ _ _ (by exact X) (by first | (rw [zsum_add1 (f := zduskI (zf σ) (σ.2 42 xd) (σ.2 43 xd) xz xm w1) (A := zsum (zdusk (zf σ) (σ.2 42 xd) (σ.2 43 xd) xn xz xm) w1) (k := k1) (show zduskI (zf σ) (σ.2 42 xd) (σ.2 43 xd) xz xm w1 k1 = σ.2 5 w1 from if_pos ⟨c_94, c_103⟩)] at hl; exact lv_sub hl [2, 3, 4, 5, 6, 1, 7, 0] rfl) | (rw [zsum_add1 (f := zduskI (zf σ) (σ.2 42 xd) (σ.2 43 xd) xz xm w1) (A := zsum (zdusk (zf σ) (σ.2 42 xd) (σ.2 43 xd) xn xz xm) w1) (k := k1) (show zduskI (zf σ) (σ.2 42 xd) (σ.2 43 xd) xz xm w1 k1 = 0 from if_neg (fun h9 => absurd h9.2 (Nat.not_le.mpr c_103)))] at hl; exact lv_sub hl [2, 3, 4, 5, 6, 1, 7, 0] rfl) | (rw [zsum_add1 (f := zduskI (zf σ) (σ.2 42 xd) (σ.2 43 xd) xz xm w1) (A := zsum (zdusk (zf σ) (σ.2 42 xd) (σ.2 43 xd) xn xz xm) w1) (k := k1) (show zduskI (zf σ) (σ.2 42 xd) (σ.2 43 xd) xz xm w1 k1 = 0 from if_neg (fun h9 => absurd h9.1 (Nat.ne_of_gt c_94)))] at hl; exact lv_sub hl [2, 3, 4, 5, 6, 1, 7, 0] rfl))
                    ·
                      refine lv_iconst (v := nI 0) hx hb dX12_dusk_106 (by decide) ?_
                      refine lv_goto (tgt := 117) hx hb dX12_dusk_107 (by decide) ?_
                      refine gn_iadd hx hb dX12_dusk_117  ?_
                      refine lv_istore (lv' := [(6, .int (nI ((zsum (zdusk (zf σ) (σ.2 42 xd) (σ.2 43 xd) xn xz xm) w1 + zsum (zduskI (zf σ) (σ.2 42 xd) (σ.2 43 xd) xz xm w1) k1) + 0))), (0, .ref o), (1, .int (nI xd)), (2, .int (nI xn)), (3, .int (nI xz)), (4, .int (nI xm)), (7, .int (nI w1)), (8, .int (nI k1))]) hx hb dX12_dusk_118 hl (by decide) rfl (fun ls hl => ?_)
                      refine lv_iinc (v := nI (k1 + 1)) (lv' := [(8, .int (nI (k1 + 1))), (6, .int (nI ((zsum (zdusk (zf σ) (σ.2 42 xd) (σ.2 43 xd) xn xz xm) w1 + zsum (zduskI (zf σ) (σ.2 42 xd) (σ.2 43 xd) xz xm w1) k1) + 0))), (0, .ref o), (1, .int (nI xd)), (2, .int (nI xn)), (3, .int (nI xz)), (4, .int (nI xm)), (7, .int (nI w1))]) hx hb dX12_dusk_120 hl (k := 7) rfl (zn_inc _) (by decide) rfl (fun ls hl => ?_)
                      refine lv_goto (tgt := 60) hx hb dX12_dusk_123 (by decide) ?_
                      refine ih_60 (k1 + 1) m_85 v_85 a_85 ((zwalk (zf σ) w1 (σ.1 12) (σ.2 42 xd) (σ.2 43 xd) (σ.2 5) (xz + k1)).2.1) ((zwalk (zf σ) w1 (σ.1 12) (σ.2 42 xd) (σ.2 43 xd) (σ.2 5) (xz + k1)).2.2.1) ((zwalk (zf σ) w1 (σ.1 12) (σ.2 42 xd) (σ.2 43 xd) (σ.2 5) (xz + k1)).2.2.2) ((zwalk (zf σ) w1 (σ.1 12) (σ.2 42 xd) (σ.2 43 xd) (σ.2 5) (xz + k1)).1) se_85 (by omega) (by omega) _ _ _ (by exact X) (by first | (rw [zsum_add1 (f := zduskI (zf σ) (σ.2 42 xd) (σ.2 43 xd) xz xm w1) (A := zsum (zdusk (zf σ) (σ.2 42 xd) (σ.2 43 xd) xn xz xm) w1) (k := k1) (show zduskI (zf σ) (σ.2 42 xd) (σ.2 43 xd) xz xm w1 k1 = σ.2 5 w1 from if_pos ⟨c_94, c_103⟩)] at hl; exact lv_sub hl [2, 3, 4, 5, 6, 1, 7, 0] rfl) | (rw [zsum_add1 (f := zduskI (zf σ) (σ.2 42 xd) (σ.2 43 xd) xz xm w1) (A := zsum (zdusk (zf σ) (σ.2 42 xd) (σ.2 43 xd) xn xz xm) w1) (k := k1) (show zduskI (zf σ) (σ.2 42 xd) (σ.2 43 xd) xz xm w1 k1 = 0 from if_neg (fun h9 => absurd h9.2 (Nat.not_le.mpr c_103)))] at hl; exact lv_sub hl [2, 3, 4, 5, 6, 1, 7, 0] rfl) | (rw [zsum_add1 (f := zduskI (zf σ) (σ.2 42 xd) (σ.2 43 xd) xz xm w1) (A := zsum (zdusk (zf σ) (σ.2 42 xd) (σ.2 43 xd) xn xz xm) w1) (k := k1) (show zduskI (zf σ) (σ.2 42 xd) (σ.2 43 xd) xz xm w1 k1 = 0 from if_neg (fun h9 => absurd h9.1 (Nat.ne_of_gt c_94)))] at hl; exact lv_sub hl [2, 3, 4, 5, 6, 1, 7, 0] rfl))
            refine cut_60 _ 0 mm vv aa x30 x31 x32 x33 x34 (Nat.zero_le _) (Nat.lt_succ_self _) _ _ _ (by exact X) (by exact lv_sub hl [1, 2, 3, 4, 5, 6, 7, 0] rfl)
      refine cut_48 _ 0 (σ.2 29) (σ.2 35) (σ.2 36) (σ.1 30) (σ.1 31) (σ.1 32) (σ.1 33) (σ.1 34) (Nat.zero_le _) (Nat.lt_succ_self _) _ _ _ (by exact X) (by exact lv_sub hl [2, 3, 4, 5, 6, 1, 0] rfl)
    ·
      refine lv_iload hx hb dX12_dusk_35 (lv_at hl 0 rfl) ?_
      exact finIP_of (by unfold zduskS; rw [if_neg (fun h9 => h9 c_15), if_pos (Int32.not_le.mp c_32)]) (u := σ) (mEq_refl hW) X dX12_dusk_37 fin
