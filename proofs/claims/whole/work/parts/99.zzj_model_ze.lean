set_option maxHeartbeats 4000000 in
set_option maxRecDepth 100000 in
theorem c_image2 {l : Launch} {D : va_G} {cl : List vw_C} {tys : List (ClassId × FieldType)} {o : Nat} {q : Nat → Nat} {ci : Nat} {cI cJ : ClassId} (hcl : cl[ci]? = some (RX12, TX12, 48)) (ht0 : tys[0]? = some (cI, .int)) (ht1 : tys[1]? = some (cJ, .long)) {σ : MS} {σ0 : MS} (h15 : σ = sF σ0 15 0) (hok : zmvO σ) : ctI l D cl tys yX12_image (Cond.code yX12_image cX12_image 1 (some .int) :: mW) { frames := 3, cells := 0, slots := 0, locals := 64 } [.ref o] (mw o q ci cI cJ σ0) (nI (σ.1 4)) (mw o q ci cI cJ (zimgT σ)) := by
  refine ctI_of (cc := cX12_image) (maxL := 1) (by decide +kernel) rfl (Nat.le_of_ble_eq_true rfl) ?_
  intro p e s m args below meth c A Q ls hx hb hml hown hts hK hA X hl fin
  replace hown : s.vm.findClass RX12 = some m.cls := hown
  have hwd : ∀ w ∈ mW, w.before args s = true := fun w h => hts w (List.mem_cons_of_mem _ h)
  have G : mG p c cX12_image s m args D cl tys ci cI cJ := ⟨hx, hb, hown, hwd, hK, hcl, ht0, ht1⟩
  replace hl : lv_has ls 1 [(0, .ref o)] := hl
  refine lv_aload_n hx hb dX12_image_0 rfl (lv_at hl 0 rfl) ?_
  refine lv_iconst (v := nI 0) hx hb dX12_image_1 (by decide) ?_
  refine m_puti G X 15 rfl (hwd _ mk_35) rfl (ty := .int) (by decide +kernel) rfl rfl dX12_image_2 (fun H locs X => ?_)
  rw [← h15] at X
  refine lv_aload_n hx hb dX12_image_5 rfl (lv_at hl 0 rfl) ?_
  refine lv_iconst (v := nI 1) hx hb dX12_image_6 (by decide) ?_
  refine m_puti G X 37 rfl (hwd _ mk_274) rfl (ty := .boolean) (by decide +kernel) (zb_nar (by omega)) (zb_fit (by omega)) dX12_image_7 (fun H locs X => ?_)
  refine lv_aload_n hx hb dX12_image_10 rfl (lv_at hl 0 rfl) ?_
  refine lv_iconst (v := nI 1) hx hb dX12_image_11 (by decide) ?_
  refine m_puti G X 40 rfl (hwd _ mk_264) rfl (ty := .boolean) (by decide +kernel) (zb_nar (by omega)) (zb_fit (by omega)) dX12_image_12 (fun H locs X => ?_)
  refine lv_aload_n hx hb dX12_image_15 rfl (lv_at hl 0 rfl) ?_
  refine ctV_V (wf := []) (As := []) (rest := []) (n := 0) hx hb hml hown hts hK hA (ap_nil X) hl.1 (m_recv G X) (c_moveAll hcl ht0 ht1 (σ := (sF (sF σ 37 1) 40 1))  (zmvO_40 (by decide) (zmvO_F (by decide) hok))) (cwV 0 hts (mg_V mk_273 mk_275 mk_276 mk_277 mk_43) rfl rfl rfl (by decide +kernel) ⟨Nat.le_of_ble_eq_true rfl, Nat.le_of_ble_eq_true rfl⟩) rfl (Nat.le_of_ble_eq_true rfl) dX12_image_16 ⟨Nat.le_refl _, Nat.le_refl _⟩ (fun H locs X => ?_)
  replace X := ap_nil' X
  refine lv_aload_n hx hb dX12_image_19 rfl (lv_at hl 0 rfl) ?_
  refine m_geti G X 4 rfl (hwd _ mk_45) rfl dX12_image_20 ?_
  refine gi_eq (a := ((zmv (sF (sF σ 37 1) 40 1) 133).1 4)) rfl ?_
  exact fin_of (rfl) (congrArg nI zmv_W1) X dX12_image_23 fin
set_option maxHeartbeats 4000000 in
set_option maxRecDepth 100000 in
theorem c_restore2 {l : Launch} {D : va_G} {cl : List vw_C} {tys : List (ClassId × FieldType)} {o : Nat} {q : Nat → Nat} {ci : Nat} {cI cJ : ClassId} (hcl : cl[ci]? = some (RX12, TX12, 48)) (ht0 : tys[0]? = some (cI, .int)) (ht1 : tys[1]? = some (cJ, .long)) {σ : MS} {σ0 : MS} (h15 : σ = sF σ0 15 0) (hok : zmvO σ) (him : σ.1 37 < 2) : ctI l D cl tys yX12_restore (Cond.code yX12_restore cX12_restore 1 (some .int) :: mW) { frames := 3, cells := 0, slots := 0, locals := 64 } [.ref o] (mw o q ci cI cJ σ0) (zresS σ) (mw o q ci cI cJ (zresT σ)) := by
  refine ctI_of (cc := cX12_restore) (maxL := 1) (by decide +kernel) rfl (Nat.le_of_ble_eq_true rfl) ?_
  intro p e s m args below meth c A Q ls hx hb hml hown hts hK hA X hl fin
  replace hown : s.vm.findClass RX12 = some m.cls := hown
  have hwd : ∀ w ∈ mW, w.before args s = true := fun w h => hts w (List.mem_cons_of_mem _ h)
  have G : mG p c cX12_restore s m args D cl tys ci cI cJ := ⟨hx, hb, hown, hwd, hK, hcl, ht0, ht1⟩
  replace hl : lv_has ls 1 [(0, .ref o)] := hl
  refine lv_aload_n hx hb dX12_restore_0 rfl (lv_at hl 0 rfl) ?_
  refine lv_iconst (v := nI 0) hx hb dX12_restore_1 (by decide) ?_
  refine m_puti G X 15 rfl (hwd _ mk_35) rfl (ty := .int) (by decide +kernel) rfl rfl dX12_restore_2 (fun H locs X => ?_)
  rw [← h15] at X
  refine lv_aload_n hx hb dX12_restore_5 rfl (lv_at hl 0 rfl) ?_
  refine m_geti G X 37 rfl (hwd _ mk_274) rfl dX12_restore_6 ?_
  refine gn_if_ne (tgt := 15) hx hb dX12_restore_9 (by decide) (by omega) (fun c_9 => ?_) (fun c_9 => ?_)
  ·
    refine lv_aload_n hx hb dX12_restore_15 rfl (lv_at hl 0 rfl) ?_
    refine lv_iconst (v := nI 0) hx hb dX12_restore_16 (by decide) ?_
    refine m_puti G X 40 rfl (hwd _ mk_264) rfl (ty := .boolean) (by decide +kernel) (zb_nar (by omega)) (zb_fit (by omega)) dX12_restore_17 (fun H locs X => ?_)
    refine lv_aload_n hx hb dX12_restore_20 rfl (lv_at hl 0 rfl) ?_
    refine ctV_V (wf := []) (As := []) (rest := []) (n := 0) hx hb hml hown hts hK hA (ap_nil X) hl.1 (m_recv G X) (c_moveAll hcl ht0 ht1 (σ := (sF σ 40 0))  (zmvO_40 (by decide) hok)) (cwV 0 hts (mg_V mk_273 mk_275 mk_276 mk_277 mk_43) rfl rfl rfl (by decide +kernel) ⟨Nat.le_of_ble_eq_true rfl, Nat.le_of_ble_eq_true rfl⟩) rfl (Nat.le_of_ble_eq_true rfl) dX12_restore_21 ⟨Nat.le_refl _, Nat.le_refl _⟩ (fun H locs X => ?_)
    replace X := ap_nil' X
    refine lv_aload_n hx hb dX12_restore_24 rfl (lv_at hl 0 rfl) ?_
    refine m_geti G X 4 rfl (hwd _ mk_45) rfl dX12_restore_25 ?_
    refine gi_eq (a := ((zmv (sF σ 40 0) 133).1 4)) rfl ?_
    exact fin_of (mw_eq (by unfold zresT; rw [if_neg (by omega)])) (by unfold zresS; rw [if_neg (by omega)]; exact congrArg nI zmv_W0) X dX12_restore_28 fin
  ·
    refine lv_bipush (v := (-3)) hx hb dX12_restore_12 (by decide) ?_
    exact fin_of (mw_eq (by unfold zresT; rw [if_pos (by omega)])) (by unfold zresS; rw [if_pos (by omega)]) X dX12_restore_14 fin
