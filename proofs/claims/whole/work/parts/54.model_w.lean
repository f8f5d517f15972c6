set_option maxHeartbeats 4000000 in
set_option maxRecDepth 100000 in
theorem c_here {l : Launch} {D : va_G} {cl : List vw_C} {tys : List (ClassId × FieldType)} {o : Nat} {q : Nat → Nat} {ci : Nat} {cI cJ : ClassId} (hcl : cl[ci]? = some (RX12, TX12, 48)) (ht0 : tys[0]? = some (cI, .int)) (ht1 : tys[1]? = some (cJ, .long)) {σ : MS} (hpo : zpOk σ) : ctI l D cl tys yX12_here (Cond.code yX12_here cX12_here 1 (some .int) :: mW) { frames := 0, cells := 0, slots := 0, locals := 0 } [.ref o] (mw o q ci cI cJ σ) (nI (zch σ (σ.1 18))) (mw o q ci cI cJ σ) := by
  refine ctI_of (cc := cX12_here) (maxL := 1) (by decide +kernel) rfl (Nat.le_of_ble_eq_true rfl) ?_
  intro p e s m args below meth c A Q ls hx hb hml hown hts hK hA X hl fin
  replace hown : s.vm.findClass RX12 = some m.cls := hown
  have hwd : ∀ w ∈ mW, w.before args s = true := fun w h => hts w (List.mem_cons_of_mem _ h)
  have G : mG p c cX12_here s m args D cl tys ci cI cJ := ⟨hx, hb, hown, hwd, hK, hcl, ht0, ht1⟩
  replace hl : lv_has ls 1 [(0, .ref o)] := hl
  obtain ⟨q16, q17, q18, q19⟩ := id hpo
  refine lv_aload_n hx hb dX12_here_0 rfl (lv_at hl 0 rfl) ?_
  refine m_geti G X 18 rfl (hwd _ mk_52) rfl dX12_here_1 ?_
  refine lv_aload_n hx hb dX12_here_4 rfl (lv_at hl 0 rfl) ?_
  refine m_geti G X 17 rfl (hwd _ mk_53) rfl dX12_here_5 ?_
  refine gn_icmp_lt (tgt := 15) hx hb dX12_here_8 (by decide) (by omega) (by omega) (fun c_8 => ?_) (fun c_8 => ?_)
  ·
    refine lv_aload_n hx hb dX12_here_15 rfl (lv_at hl 0 rfl) ?_
    refine m_geta G X 46 rfl (hwd _ mk_33) rfl dX12_here_16 ?_
    refine lv_aload_n hx hb dX12_here_19 rfl (lv_at hl 0 rfl) ?_
    refine m_geti G X 16 rfl (hwd _ mk_54) rfl dX12_here_20 ?_
    refine lv_aload_n hx hb dX12_here_23 rfl (lv_at hl 0 rfl) ?_
    refine m_geti G X 18 rfl (hwd _ mk_52) rfl dX12_here_24 ?_
    refine gn_iadd hx hb dX12_here_27  ?_
    refine m_lald G X 46 rfl (i := ((σ.1 16) + (σ.1 18))) (by show _ < 800; omega) (by omega) dX12_here_28 ?_
    refine gn_l2i hx hb dX12_here_29 ?_
    refine lv_sipush (v := nI 255) hx hb dX12_here_30 (by decide) ?_
    refine lv_iand hx hb dX12_here_33 ?_
    refine gi_to (a := (σ.2 46 ((σ.1 16) + (σ.1 18))) % 256) (zand _ 8 (by decide) (by decide)) ?_
    exact fin_of (rfl) (by unfold zch; first | (rw [if_pos c_8]; done) | (rw [if_neg (by omega)]; exact zm1)) X dX12_here_34 fin
  ·
    refine lv_iconst (v := (-1)) hx hb dX12_here_11 (by decide) ?_
    refine lv_goto (tgt := 34) hx hb dX12_here_12 (by decide) ?_
    exact fin_of (rfl) (by unfold zch; first | (rw [if_pos c_8]; done) | (rw [if_neg (by omega)]; exact zm1)) X dX12_here_34 fin
set_option maxHeartbeats 4000000 in
set_option maxRecDepth 100000 in
theorem c_take {l : Launch} {D : va_G} {cl : List vw_C} {tys : List (ClassId × FieldType)} {o : Nat} {q : Nat → Nat} {ci : Nat} {cI cJ : ClassId} (hcl : cl[ci]? = some (RX12, TX12, 48)) (ht0 : tys[0]? = some (cI, .int)) (ht1 : tys[1]? = some (cJ, .long)) {σ : MS} (xc : Nat) (hpo : zpOk σ) (hc : xc < 256) : ctV l D cl tys yX12_take (Cond.code yX12_take cX12_take 2 (none) :: mW) { frames := 1, cells := 0, slots := 0, locals := 20 } [.ref o, .int (nI xc)] (mw o q ci cI cJ σ) (mw o q ci cI cJ (zp σ (if ztk (σ.1 19) (zch σ (σ.1 18)) xc = 0 then σ.1 18 + 1 else σ.1 18) (ztk (σ.1 19) (zch σ (σ.1 18)) xc))) := by
  refine ctV_of (cc := cX12_take) (maxL := 2) (by decide +kernel) rfl (Nat.le_of_ble_eq_true rfl) ?_
  intro p e s m args below meth c A Q ls hx hb hml hown hts hK hA X hl fin
  replace hown : s.vm.findClass RX12 = some m.cls := hown
  have hwd : ∀ w ∈ mW, w.before args s = true := fun w h => hts w (List.mem_cons_of_mem _ h)
  have G : mG p c cX12_take s m args D cl tys ci cI cJ := ⟨hx, hb, hown, hwd, hK, hcl, ht0, ht1⟩
  replace hl : lv_has ls 2 [(0, .ref o), (1, .int (nI xc))] := hl
  obtain ⟨q16, q17, q18, q19⟩ := id hpo
  replace X := wh_eq (zp_self σ) X
  refine lv_aload_n hx hb dX12_take_0 rfl (lv_at hl 0 rfl) ?_
  refine lv_aload_n hx hb dX12_take_1 rfl (lv_at hl 0 rfl) ?_
  refine m_geti G X 19 rfl (hwd _ mk_56) rfl dX12_take_2 ?_
  refine gi_eq (a := (σ.1 19)) rfl ?_
  refine gn_if_ne (tgt := 16) hx hb dX12_take_5 (by decide) (by omega) (fun c_5 => ?_) (fun c_5 => ?_)
  ·
    refine lv_iconst (v := nI 1) hx hb dX12_take_16 (by decide) ?_
    refine lv_goto (tgt := 21) hx hb dX12_take_17 (by decide) ?_
    refine m_puti G X 19 rfl (hwd _ mk_56) rfl (ty := .boolean) (by decide +kernel) (zb_nar (by omega)) (zb_fit (by omega)) dX12_take_21 (fun H locs X => ?_)
    replace X := wh_eq (zp_F19 (x := 1)) X
    refine lv_aload_n hx hb dX12_take_24 rfl (lv_at hl 0 rfl) ?_
    refine lv_dup hx hb dX12_take_25 rfl ?_
    refine m_geti G X 18 rfl (hwd _ mk_52) rfl dX12_take_26 ?_
    refine gi_eq (a := (σ.1 18)) rfl ?_
    refine lv_aload_n hx hb dX12_take_29 rfl (lv_at hl 0 rfl) ?_
    refine m_geti G X 19 rfl (hwd _ mk_56) rfl dX12_take_30 ?_
    refine gi_eq (a := 1) rfl ?_
    refine gn_if_eq (tgt := 40) hx hb dX12_take_33 (by decide) (by omega) (fun c_33 => ?_) (fun c_33 => ?_)
    · exact absurd c_33 (by decide)
    ·
      refine lv_iconst (v := nI 0) hx hb dX12_take_36 (by decide) ?_
      refine lv_goto (tgt := 41) hx hb dX12_take_37 (by decide) ?_
      refine gn_iadd hx hb dX12_take_41  ?_
      refine m_puti G X 18 rfl (hwd _ mk_52) rfl (ty := .int) (by decide +kernel) rfl rfl dX12_take_42 (fun H locs X => ?_)
      replace X := wh_eq (zp_F18 (x := ((σ.1 18) + 0))) X
      exact finV_of (mw_eq (by unfold ztk; first | (rw [if_pos (show σ.1 19 ≠ 0 ∨ _ from Or.inl (by omega))]; rfl) | (rw [if_pos (show σ.1 19 ≠ 0 ∨ zch σ (σ.1 18) ≠ xc from Or.inr (by omega))]; rfl) | (rw [if_neg (show ¬ (σ.1 19 ≠ 0 ∨ zch σ (σ.1 18) ≠ xc) by omega)]; rfl))) X dX12_take_45 fin
  ·
    refine lv_aload_n hx hb dX12_take_8 rfl (lv_at hl 0 rfl) ?_
    refine ctI_V (wf := []) (As := []) (rest := [.ref o]) (n := 0) hx hb hml hown hts hK hA (ap_nil X) hl.1 (m_recv G X) (c_here hcl ht0 ht1 (σ := (zp σ (σ.1 18) (σ.1 19)))  (hpo)) (cwV 0 hts (mg_V mk_51 mk_57 mk_58 mk_59 mk_43) rfl rfl rfl (by decide +kernel) ⟨Nat.le_of_ble_eq_true rfl, Nat.le_of_ble_eq_true rfl⟩) rfl (Nat.le_of_ble_eq_true rfl) dX12_take_9 ⟨Nat.le_refl _, Nat.le_refl _⟩ (fun H locs X => ?_)
    replace X := ap_nil' X
    refine gi_raw (y := (nI (zch σ ((σ.1 18))))) rfl ?_
    replace X := wh_eq (σ' := (zp σ (σ.1 18) (σ.1 19))) zp_zp X
    have hz9 := zch_lt σ (σ.1 18)
    refine lv_iload_n hx hb dX12_take_12 rfl (lv_at hl 1 rfl) ?_
    refine gn_icmp_eq (tgt := 20) hx hb dX12_take_13 (by decide) (by omega) (by omega) (fun c_13 => ?_) (fun c_13 => ?_)
    ·
      refine lv_iconst (v := nI 0) hx hb dX12_take_20 (by decide) ?_
      refine m_puti G X 19 rfl (hwd _ mk_56) rfl (ty := .boolean) (by decide +kernel) (zb_nar (by omega)) (zb_fit (by omega)) dX12_take_21 (fun H locs X => ?_)
      replace X := wh_eq (zp_F19 (x := 0)) X
      refine lv_aload_n hx hb dX12_take_24 rfl (lv_at hl 0 rfl) ?_
      refine lv_dup hx hb dX12_take_25 rfl ?_
      refine m_geti G X 18 rfl (hwd _ mk_52) rfl dX12_take_26 ?_
      refine gi_eq (a := (σ.1 18)) rfl ?_
      refine lv_aload_n hx hb dX12_take_29 rfl (lv_at hl 0 rfl) ?_
      refine m_geti G X 19 rfl (hwd _ mk_56) rfl dX12_take_30 ?_
      refine gi_eq (a := 0) rfl ?_
      refine gn_if_eq (tgt := 40) hx hb dX12_take_33 (by decide) (by omega) (fun c_33 => ?_) (fun c_33 => ?_)
      ·
        refine lv_iconst (v := nI 1) hx hb dX12_take_40 (by decide) ?_
        refine gn_iadd hx hb dX12_take_41  ?_
        refine m_puti G X 18 rfl (hwd _ mk_52) rfl (ty := .int) (by decide +kernel) rfl rfl dX12_take_42 (fun H locs X => ?_)
        replace X := wh_eq (zp_F18 (x := ((σ.1 18) + 1))) X
        exact finV_of (mw_eq (by unfold ztk; first | (rw [if_pos (show σ.1 19 ≠ 0 ∨ _ from Or.inl (by omega))]; rfl) | (rw [if_pos (show σ.1 19 ≠ 0 ∨ zch σ (σ.1 18) ≠ xc from Or.inr (by omega))]; rfl) | (rw [if_neg (show ¬ (σ.1 19 ≠ 0 ∨ zch σ (σ.1 18) ≠ xc) by omega)]; rfl))) X dX12_take_45 fin
      · exact absurd c_33 (by decide)
    ·
      refine lv_iconst (v := nI 1) hx hb dX12_take_16 (by decide) ?_
      refine lv_goto (tgt := 21) hx hb dX12_take_17 (by decide) ?_
      refine m_puti G X 19 rfl (hwd _ mk_56) rfl (ty := .boolean) (by decide +kernel) (zb_nar (by omega)) (zb_fit (by omega)) dX12_take_21 (fun H locs X => ?_)
      replace X := wh_eq (zp_F19 (x := 1)) X
      refine lv_aload_n hx hb dX12_take_24 rfl (lv_at hl 0 rfl) ?_
      refine lv_dup hx hb dX12_take_25 rfl ?_
      refine m_geti G X 18 rfl (hwd _ mk_52) rfl dX12_take_26 ?_
      refine gi_eq (a := (σ.1 18)) rfl ?_
      refine lv_aload_n hx hb dX12_take_29 rfl (lv_at hl 0 rfl) ?_
      refine m_geti G X 19 rfl (hwd _ mk_56) rfl dX12_take_30 ?_
      refine gi_eq (a := 1) rfl ?_
      refine gn_if_eq (tgt := 40) hx hb dX12_take_33 (by decide) (by omega) (fun c_33 => ?_) (fun c_33 => ?_)
      · exact absurd c_33 (by decide)
      ·
        refine lv_iconst (v := nI 0) hx hb dX12_take_36 (by decide) ?_
        refine lv_goto (tgt := 41) hx hb dX12_take_37 (by decide) ?_
        refine gn_iadd hx hb dX12_take_41  ?_
        refine m_puti G X 18 rfl (hwd _ mk_52) rfl (ty := .int) (by decide +kernel) rfl rfl dX12_take_42 (fun H locs X => ?_)
        replace X := wh_eq (zp_F18 (x := ((σ.1 18) + 0))) X
        exact finV_of (mw_eq (by unfold ztk; first | (rw [if_pos (show σ.1 19 ≠ 0 ∨ _ from Or.inl (by omega))]; rfl) | (rw [if_pos (show σ.1 19 ≠ 0 ∨ zch σ (σ.1 18) ≠ xc from Or.inr (by omega))]; rfl) | (rw [if_neg (show ¬ (σ.1 19 ≠ 0 ∨ zch σ (σ.1 18) ≠ xc) by omega)]; rfl))) X dX12_take_45 fin
set_option maxHeartbeats 4000000 in
set_option maxRecDepth 100000 in
theorem c_readDigit {l : Launch} {D : va_G} {cl : List vw_C} {tys : List (ClassId × FieldType)} {o : Nat} {q : Nat → Nat} {ci : Nat} {cI cJ : ClassId} (hcl : cl[ci]? = some (RX12, TX12, 48)) (ht0 : tys[0]? = some (cI, .int)) (ht1 : tys[1]? = some (cJ, .long)) {σ : MS} (hpo : zpOk σ) (hby : zby8 σ) : ctI l D cl tys yX12_readDigit (Cond.code yX12_readDigit cX12_readDigit 1 (some .int) :: mW) { frames := 1, cells := 0, slots := 0, locals := 25 } [.ref o] (mw o q ci cI cJ σ) (nI (if zdg (σ.1 19) (zch σ (σ.1 18)) = 0 then zch σ (σ.1 18) - 48 else 0)) (mw o q ci cI cJ (zp σ (if zdg (σ.1 19) (zch σ (σ.1 18)) = 0 then σ.1 18 + 1 else σ.1 18) (zdg (σ.1 19) (zch σ (σ.1 18))))) := by
  refine ctI_of (cc := cX12_readDigit) (maxL := 1) (by decide +kernel) rfl (Nat.le_of_ble_eq_true rfl) ?_
  intro p e s m args below meth c A Q ls hx hb hml hown hts hK hA X hl fin
  replace hown : s.vm.findClass RX12 = some m.cls := hown
  have hwd : ∀ w ∈ mW, w.before args s = true := fun w h => hts w (List.mem_cons_of_mem _ h)
  have G : mG p c cX12_readDigit s m args D cl tys ci cI cJ := ⟨hx, hb, hown, hwd, hK, hcl, ht0, ht1⟩
  replace hl : lv_has ls 1 [(0, .ref o)] := hl
  obtain ⟨q16, q17, q18, q19⟩ := id hpo
  replace X := wh_eq (zp_self σ) X
  refine lv_aload_n hx hb dX12_readDigit_0 rfl (lv_at hl 0 rfl) ?_
  refine lv_aload_n hx hb dX12_readDigit_1 rfl (lv_at hl 0 rfl) ?_
  refine m_geti G X 19 rfl (hwd _ mk_56) rfl dX12_readDigit_2 ?_
  refine gi_eq (a := (σ.1 19)) rfl ?_
  refine gn_if_ne (tgt := 25) hx hb dX12_readDigit_5 (by decide) (by omega) (fun c_5 => ?_) (fun c_5 => ?_)
  ·
    refine lv_iconst (v := nI 1) hx hb dX12_readDigit_25 (by decide) ?_
    refine lv_goto (tgt := 30) hx hb dX12_readDigit_26 (by decide) ?_
    refine m_puti G X 19 rfl (hwd _ mk_56) rfl (ty := .boolean) (by decide +kernel) (zb_nar (by omega)) (zb_fit (by omega)) dX12_readDigit_30 (fun H locs X => ?_)
    replace X := wh_eq (zp_F19 (x := 1)) X
    refine lv_aload_n hx hb dX12_readDigit_33 rfl (lv_at hl 0 rfl) ?_
    refine m_geti G X 19 rfl (hwd _ mk_56) rfl dX12_readDigit_34 ?_
    refine gi_eq (a := 1) rfl ?_
    refine gn_if_eq (tgt := 42) hx hb dX12_readDigit_37 (by decide) (by omega) (fun c_37 => ?_) (fun c_37 => ?_)
    · exact absurd c_37 (by decide)
    ·
      refine lv_iconst (v := nI 0) hx hb dX12_readDigit_40 (by decide) ?_
      exact fin_of (mw_eq (by unfold zdg; first | (rw [if_pos (show σ.1 19 ≠ 0 ∨ _ from Or.inl (by omega))]; rfl) | (rw [if_pos (show σ.1 19 ≠ 0 ∨ ¬ (48 ≤ zch σ (σ.1 18) ∧ zch σ (σ.1 18) ≤ 57) from Or.inr c_22)]; rfl) | (rw [if_neg (show ¬ (σ.1 19 ≠ 0 ∨ ¬ (48 ≤ zch σ (σ.1 18) ∧ zch σ (σ.1 18) ≤ 57)) by omega)]; rfl))) (by unfold zdg; first | (rw [if_pos (show σ.1 19 ≠ 0 ∨ _ from Or.inl (by omega))]; rfl) | (rw [if_pos (show σ.1 19 ≠ 0 ∨ ¬ (48 ≤ zch σ (σ.1 18) ∧ zch σ (σ.1 18) ≤ 57) from Or.inr c_22)]; rfl) | (rw [if_neg (show ¬ (σ.1 19 ≠ 0 ∨ ¬ (48 ≤ zch σ (σ.1 18) ∧ zch σ (σ.1 18) ≤ 57)) by omega)]; rfl)) X dX12_readDigit_41 fin
  ·
    refine lv_aload_n hx hb dX12_readDigit_8 rfl (lv_at hl 0 rfl) ?_
    refine ctI_V (wf := []) (As := []) (rest := [.ref o]) (n := 0) hx hb hml hown hts hK hA (ap_nil X) hl.1 (m_recv G X) (c_here hcl ht0 ht1 (σ := (zp σ (σ.1 18) (σ.1 19)))  (hpo)) (cwV 0 hts (mg_V mk_51 mk_57 mk_58 mk_59 mk_43) rfl rfl rfl (by decide +kernel) ⟨Nat.le_of_ble_eq_true rfl, Nat.le_of_ble_eq_true rfl⟩) rfl (Nat.le_of_ble_eq_true rfl) dX12_readDigit_9 ⟨Nat.le_refl _, Nat.le_refl _⟩ (fun H locs X => ?_)
    replace X := ap_nil' X
    refine gi_raw (y := (nI (zch σ ((σ.1 18))))) rfl ?_
    replace X := wh_eq (σ' := (zp σ (σ.1 18) (σ.1 19))) zp_zp X
    have hz9 := zch_lt σ (σ.1 18)
    refine lv_i2l (v := (nI (zch σ ((σ.1 18)))).toInt64) hx hb dX12_readDigit_12 rfl ?_
    refine gn_ldc2 (v := 48) (k := 48) hx hb hown (hwd _ mk_61) (by decide) dX12_readDigit_13 ?_
    refine gn_ldc2 (v := 57) (k := 57) hx hb hown (hwd _ mk_62) (by decide) dX12_readDigit_16 ?_
    refine ctI_S (w := []) (wf := mw o q ci cI cJ (zp σ (σ.1 18) (σ.1 19))) (As := [.long ((nI (zch σ ((σ.1 18)))).toInt64), .long (lN 48), .long (lN 57)]) (rest := [.ref o]) (n := 3) hx hb hml hown hts hK hA X hl.1 (c_in ((nI (zch σ ((σ.1 18)))).toInt64) (lN 48) (lN 57) ) (va_cwS 3 hts (mg_S mk_38 mk_41 mk_42 mk_43) rfl rfl rfl (by decide +kernel) ⟨Nat.le_of_ble_eq_true rfl, Nat.le_of_ble_eq_true rfl⟩) rfl (Nat.le_of_ble_eq_true rfl) dX12_readDigit_19 ⟨Nat.le_refl _, Nat.le_refl _⟩ (fun H locs X => ?_)
    refine gi_raw (y := (if (lN 48) ≤ ((nI (zch σ ((σ.1 18)))).toInt64) ∧ ((nI (zch σ ((σ.1 18)))).toInt64) ≤ (lN 57) then 1 else 0)) rfl ?_
    replace X := wh_eq (σ' := (zp σ (σ.1 18) (σ.1 19))) zp_zp X
    refine gb_if_ne (tgt := 29) hx hb dX12_readDigit_22 (by decide) (fun c_22 => ?_) (fun c_22 => ?_)
    ·
      rw [zdig hz9] at c_22
      have hlt9 : σ.1 18 < σ.1 17 := by rcases Nat.lt_or_ge (σ.1 18) (σ.1 17) with h | h; exact h; exfalso; have : zch σ (σ.1 18) = 4294967295 := if_neg (by omega); omega
      have hv9 : zch σ (σ.1 18) = σ.2 46 (σ.1 16 + σ.1 18) % 256 := if_pos hlt9
      have hb9 := hby (σ.1 18) hlt9
      have hw9 : σ.2 46 (σ.1 16 + σ.1 18) = zch σ (σ.1 18) := by omega
      refine lv_iconst (v := nI 0) hx hb dX12_readDigit_29 (by decide) ?_
      refine m_puti G X 19 rfl (hwd _ mk_56) rfl (ty := .boolean) (by decide +kernel) (zb_nar (by omega)) (zb_fit (by omega)) dX12_readDigit_30 (fun H locs X => ?_)
      replace X := wh_eq (zp_F19 (x := 0)) X
      refine lv_aload_n hx hb dX12_readDigit_33 rfl (lv_at hl 0 rfl) ?_
      refine m_geti G X 19 rfl (hwd _ mk_56) rfl dX12_readDigit_34 ?_
      refine gi_eq (a := 0) rfl ?_
      refine gn_if_eq (tgt := 42) hx hb dX12_readDigit_37 (by decide) (by omega) (fun c_37 => ?_) (fun c_37 => ?_)
      ·
        refine lv_aload_n hx hb dX12_readDigit_42 rfl (lv_at hl 0 rfl) ?_
        refine lv_dup hx hb dX12_readDigit_43 rfl ?_
        refine m_geti G X 18 rfl (hwd _ mk_52) rfl dX12_readDigit_44 ?_
        refine gi_eq (a := (σ.1 18)) rfl ?_
        refine lv_iconst (v := nI 1) hx hb dX12_readDigit_47 (by decide) ?_
        refine gn_iadd hx hb dX12_readDigit_48  ?_
        refine m_puti G X 18 rfl (hwd _ mk_52) rfl (ty := .int) (by decide +kernel) rfl rfl dX12_readDigit_49 (fun H locs X => ?_)
        replace X := wh_eq (zp_F18 (x := ((σ.1 18) + 1))) X
        refine lv_aload_n hx hb dX12_readDigit_52 rfl (lv_at hl 0 rfl) ?_
        refine m_geta G X 46 rfl (hwd _ mk_33) rfl dX12_readDigit_53 ?_
        refine lv_aload_n hx hb dX12_readDigit_56 rfl (lv_at hl 0 rfl) ?_
        refine m_geti G X 16 rfl (hwd _ mk_54) rfl dX12_readDigit_57 ?_
        refine gi_eq (a := (σ.1 16)) rfl ?_
        refine lv_aload_n hx hb dX12_readDigit_60 rfl (lv_at hl 0 rfl) ?_
        refine m_geti G X 18 rfl (hwd _ mk_52) rfl dX12_readDigit_61 ?_
        refine gi_eq (a := ((σ.1 18) + 1)) rfl ?_
        refine gn_iadd hx hb dX12_readDigit_64  ?_
        refine lv_iconst (v := nI 1) hx hb dX12_readDigit_65 (by decide) ?_
        refine gn_isub hx hb dX12_readDigit_66 (by omega) ?_
        refine gi_eq (a := (σ.1 16 + σ.1 18)) (by omega) ?_
        refine m_lald G X 46 rfl (i := (σ.1 16 + σ.1 18)) (by show _ < 800; omega) (by omega) dX12_readDigit_67 ?_
        refine gl_eq (a := (σ.2 46 (σ.1 16 + σ.1 18))) rfl ?_
        refine gn_l2i hx hb dX12_readDigit_68 ?_
        refine gi_eq (a := (zch σ (σ.1 18))) (hw9) ?_
        refine lv_bipush (v := nI 48) hx hb dX12_readDigit_69 (by decide) ?_
        refine gn_isub hx hb dX12_readDigit_71 (by omega) ?_
        exact fin_of (mw_eq (by unfold zdg; first | (rw [if_pos (show σ.1 19 ≠ 0 ∨ _ from Or.inl (by omega))]; rfl) | (rw [if_pos (show σ.1 19 ≠ 0 ∨ ¬ (48 ≤ zch σ (σ.1 18) ∧ zch σ (σ.1 18) ≤ 57) from Or.inr c_22)]; rfl) | (rw [if_neg (show ¬ (σ.1 19 ≠ 0 ∨ ¬ (48 ≤ zch σ (σ.1 18) ∧ zch σ (σ.1 18) ≤ 57)) by omega)]; rfl))) (by unfold zdg; first | (rw [if_pos (show σ.1 19 ≠ 0 ∨ _ from Or.inl (by omega))]; rfl) | (rw [if_pos (show σ.1 19 ≠ 0 ∨ ¬ (48 ≤ zch σ (σ.1 18) ∧ zch σ (σ.1 18) ≤ 57) from Or.inr c_22)]; rfl) | (rw [if_neg (show ¬ (σ.1 19 ≠ 0 ∨ ¬ (48 ≤ zch σ (σ.1 18) ∧ zch σ (σ.1 18) ≤ 57)) by omega)]; rfl)) X dX12_readDigit_72 fin
      · exact absurd c_37 (by decide)
    ·
      rw [zdig hz9] at c_22
      refine lv_iconst (v := nI 1) hx hb dX12_readDigit_25 (by decide) ?_
      refine lv_goto (tgt := 30) hx hb dX12_readDigit_26 (by decide) ?_
      refine m_puti G X 19 rfl (hwd _ mk_56) rfl (ty := .boolean) (by decide +kernel) (zb_nar (by omega)) (zb_fit (by omega)) dX12_readDigit_30 (fun H locs X => ?_)
      replace X := wh_eq (zp_F19 (x := 1)) X
      refine lv_aload_n hx hb dX12_readDigit_33 rfl (lv_at hl 0 rfl) ?_
      refine m_geti G X 19 rfl (hwd _ mk_56) rfl dX12_readDigit_34 ?_
      refine gi_eq (a := 1) rfl ?_
      refine gn_if_eq (tgt := 42) hx hb dX12_readDigit_37 (by decide) (by omega) (fun c_37 => ?_) (fun c_37 => ?_)
      · exact absurd c_37 (by decide)
      ·
        refine lv_iconst (v := nI 0) hx hb dX12_readDigit_40 (by decide) ?_
        exact fin_of (mw_eq (by unfold zdg; first | (rw [if_pos (show σ.1 19 ≠ 0 ∨ _ from Or.inl (by omega))]; rfl) | (rw [if_pos (show σ.1 19 ≠ 0 ∨ ¬ (48 ≤ zch σ (σ.1 18) ∧ zch σ (σ.1 18) ≤ 57) from Or.inr c_22)]; rfl) | (rw [if_neg (show ¬ (σ.1 19 ≠ 0 ∨ ¬ (48 ≤ zch σ (σ.1 18) ∧ zch σ (σ.1 18) ≤ 57)) by omega)]; rfl))) (by unfold zdg; first | (rw [if_pos (show σ.1 19 ≠ 0 ∨ _ from Or.inl (by omega))]; rfl) | (rw [if_pos (show σ.1 19 ≠ 0 ∨ ¬ (48 ≤ zch σ (σ.1 18) ∧ zch σ (σ.1 18) ≤ 57) from Or.inr c_22)]; rfl) | (rw [if_neg (show ¬ (σ.1 19 ≠ 0 ∨ ¬ (48 ≤ zch σ (σ.1 18) ∧ zch σ (σ.1 18) ≤ 57)) by omega)]; rfl)) X dX12_readDigit_41 fin
