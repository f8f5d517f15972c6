set_option maxHeartbeats 4000000 in
set_option maxRecDepth 100000 in
theorem c_readStatement {l : Launch} {D : va_G} {cl : List vw_C} {tys : List (ClassId × FieldType)} {o : Nat} {q : Nat → Nat} {ci : Nat} {cI cJ : ClassId} (hcl : cl[ci]? = some (RX12, TX12, 48)) (ht0 : tys[0]? = some (cI, .int)) (ht1 : tys[1]? = some (cJ, .long)) {σ : MS} (hpo : zpOk σ) (hby : zby8 σ) (hst : σ.1 20 < 50) : ctVP l D cl tys yX12_readStatement (Cond.code yX12_readStatement cX12_readStatement 3 (none) :: mW) { frames := 3, cells := 0, slots := 0, locals := 67 } [.ref o] (mw o q ci cI cJ σ) (mw o q ci cI cJ) (fun u => zrsP σ u) := by
  refine ctVP_of (cc := cX12_readStatement) (maxL := 3) (by decide +kernel) rfl (Nat.le_of_ble_eq_true rfl) ?_
  intro p e s m args below meth c A Q ls hx hb hml hown hts hK hA X hl fin
  replace hown : s.vm.findClass RX12 = some m.cls := hown
  have hwd : ∀ w ∈ mW, w.before args s = true := fun w h => hts w (List.mem_cons_of_mem _ h)
  have G : mG p c cX12_readStatement s m args D cl tys ci cI cJ := ⟨hx, hb, hown, hwd, hK, hcl, ht0, ht1⟩
  replace hl : lv_has ls 3 [(0, .ref o)] := hl
  obtain ⟨q16, q17, q18, q19⟩ := id hpo
  replace X := wh_eq (zp_self σ) X
  refine lv_aload_n hx hb dX12_readStatement_0 rfl (lv_at hl 0 rfl) ?_
  refine ctI_V (wf := []) (As := []) (rest := []) (n := 0) hx hb hml hown hts hK hA (ap_nil X) hl.1 (m_recv G X) (c_here hcl ht0 ht1 (σ := (zp σ (σ.1 18) (σ.1 19)))  (hpo)) (cwV 0 hts (mg_V mk_51 mk_57 mk_58 mk_59 mk_43) rfl rfl rfl (by decide +kernel) ⟨Nat.le_of_ble_eq_true rfl, Nat.le_of_ble_eq_true rfl⟩) rfl (Nat.le_of_ble_eq_true rfl) dX12_readStatement_1 ⟨Nat.le_refl _, Nat.le_refl _⟩ (fun H locs X => ?_)
  replace X := ap_nil' X
  refine gi_raw (y := (nI (zch σ ((σ.1 18))))) rfl ?_
  replace X := wh_eq (σ' := (zp σ (σ.1 18) (σ.1 19))) zp_zp X
  have hz9 := zch_lt σ (σ.1 18)
  by_cases e_114 : zch σ (σ.1 18) = 114
  ·
    refine gi_eq (a := 114) e_114 ?_
    have hlt9 : σ.1 18 < σ.1 17 := zch_in2 (by omega)
    refine lv_istore_n (lv' := [(1, .int (nI 114)), (0, .ref o)]) hx hb dX12_readStatement_4 rfl hl (by decide) rfl (fun ls hl => ?_)
    refine lv_aload_n hx hb dX12_readStatement_5 rfl (lv_at hl 1 rfl) ?_
    refine m_geti G X 20 rfl (hwd _ mk_67) rfl dX12_readStatement_6 ?_
    refine gi_eq (a := (σ.1 20)) rfl ?_
    refine lv_istore_n (lv' := [(2, .int (nI (σ.1 20))), (1, .int (nI 114)), (0, .ref o)]) hx hb dX12_readStatement_9 rfl hl (by decide) rfl (fun ls hl => ?_)
    refine lv_aload_n hx hb dX12_readStatement_10 rfl (lv_at hl 2 rfl) ?_
    refine lv_iload_n hx hb dX12_readStatement_11 rfl (lv_at hl 1 rfl) ?_
    refine lv_bipush (v := nI 114) hx hb dX12_readStatement_12 (by decide) ?_
    refine gn_icmp_eq (tgt := 51) hx hb dX12_readStatement_14 (by decide) (by decide) (by decide) (fun c_14 => ?_) (fun c_14 => absurd c_14 (by decide))
    refine lv_iconst (v := nI 0) hx hb dX12_readStatement_51 (by decide) ?_
    refine m_puti G X 19 rfl (hwd _ mk_56) rfl (ty := .boolean) (by decide +kernel) (zb_nar (by omega)) (zb_fit (by omega)) dX12_readStatement_52 (fun H locs X => ?_)
    replace X := wh_eq (zp_F19 (x := 0)) X
    refine lv_aload_n hx hb dX12_readStatement_55 rfl (lv_at hl 2 rfl) ?_
    refine m_geta G X 21 rfl (hwd _ mk_16) rfl dX12_readStatement_56 ?_
    refine lv_iload_n hx hb dX12_readStatement_59 rfl (lv_at hl 0 rfl) ?_
    refine lv_aload_n hx hb dX12_readStatement_60 rfl (lv_at hl 2 rfl) ?_
    refine m_geti G X 18 rfl (hwd _ mk_52) rfl dX12_readStatement_61 ?_
    refine gi_eq (a := (σ.1 18)) rfl ?_
    refine m_iast G X 21 rfl (i := (σ.1 20)) (v := (σ.1 18)) (by show _ < 50; omega) (by omega) dX12_readStatement_64 (fun H locs X => ?_)
    replace X := wh_eq (σ' := (zp (sE σ 21 (σ.1 20) (σ.1 18)) (σ.1 18) 0)) rfl X
    refine lv_aload_n hx hb dX12_readStatement_65 rfl (lv_at hl 2 rfl) ?_
    refine m_geta G X 22 rfl (hwd _ mk_17) rfl dX12_readStatement_66 ?_
    refine lv_iload_n hx hb dX12_readStatement_69 rfl (lv_at hl 0 rfl) ?_
    refine lv_iload_n hx hb dX12_readStatement_70 rfl (lv_at hl 1 rfl) ?_
    refine m_iast G X 22 rfl (i := (σ.1 20)) (v := 114) (by show _ < 50; omega) (by omega) dX12_readStatement_71 (fun H locs X => ?_)
    replace X := wh_eq (σ' := (zp (sE (sE σ 21 (σ.1 20) (σ.1 18)) 22 (σ.1 20) 114) (σ.1 18) 0)) rfl X
    refine lv_aload_n hx hb dX12_readStatement_72 rfl (lv_at hl 2 rfl) ?_
    refine lv_dup hx hb dX12_readStatement_73 rfl ?_
    refine m_geti G X 18 rfl (hwd _ mk_52) rfl dX12_readStatement_74 ?_
    refine gi_eq (a := (σ.1 18)) rfl ?_
    refine lv_aload_n hx hb dX12_readStatement_77 rfl (lv_at hl 2 rfl) ?_
    refine m_geti G X 19 rfl (hwd _ mk_56) rfl dX12_readStatement_78 ?_
    refine gi_eq (a := 0) rfl ?_
    refine gn_if_eq (tgt := 88) hx hb dX12_readStatement_81 (by decide) (by omega) (fun c_81 => ?_) (fun c_81 => ?_)
    ·
      refine lv_iconst (v := nI 1) hx hb dX12_readStatement_88 (by decide) ?_
      refine gn_iadd hx hb dX12_readStatement_89  ?_
      refine m_puti G X 18 rfl (hwd _ mk_52) rfl (ty := .int) (by decide +kernel) rfl rfl dX12_readStatement_90 (fun H locs X => ?_)
      replace X := wh_eq (zp_F18 (x := ((σ.1 18) + 1))) X
      refine lv_aload_n hx hb dX12_readStatement_93 rfl (lv_at hl 2 rfl) ?_
      refine m_geta G X 23 rfl (hwd _ mk_18) rfl dX12_readStatement_94 ?_
      refine lv_iload_n hx hb dX12_readStatement_97 rfl (lv_at hl 0 rfl) ?_
      refine lv_aload_n hx hb dX12_readStatement_98 rfl (lv_at hl 2 rfl) ?_
      refine m_geti G X 19 rfl (hwd _ mk_56) rfl dX12_readStatement_99 ?_
      refine gi_eq (a := 0) rfl ?_
      refine gn_if_eq (tgt := 109) hx hb dX12_readStatement_102 (by decide) (by omega) (fun c_102 => ?_) (fun c_102 => ?_)
      ·
        refine lv_iload_n hx hb dX12_readStatement_109 rfl (lv_at hl 1 rfl) ?_
        refine lv_bipush (v := nI 119) hx hb dX12_readStatement_110 (by decide) ?_
        refine gn_icmp_eq (tgt := 121) hx hb dX12_readStatement_112 (by decide) (by decide) (by decide) (fun c_112 => absurd c_112 (by decide)) (fun c_112 => ?_)
        refine lv_iload_n hx hb dX12_readStatement_115 rfl (lv_at hl 1 rfl) ?_
        refine lv_bipush (v := nI 97) hx hb dX12_readStatement_116 (by decide) ?_
        refine gn_icmp_ne (tgt := 128) hx hb dX12_readStatement_118 (by decide) (by decide) (by decide) (fun c_118 => ?_) (fun c_118 => absurd c_118 (by decide))
        refine lv_aload_n hx hb dX12_readStatement_128 rfl (lv_at hl 2 rfl) ?_
        refine ctI_V (wf := []) (As := []) (rest := [.int (nI (σ.1 20)), .ref (q 23)]) (n := 0) hx hb hml hown hts hK hA (ap_nil X) hl.1 (m_recv G X) (c_readDigit hcl ht0 ht1 (σ := (zp (sE (sE σ 21 (σ.1 20) (σ.1 18)) 22 (σ.1 20) 114) ((σ.1 18) + 1) 0)) (show zpOk (zp (sE (sE σ 21 (σ.1 20) (σ.1 18)) 22 (σ.1 20) 114) ((σ.1 18) + 1) 0) from ⟨q16, q17, (show zpp (σ.1 18 + 1, 0) from ⟨by show σ.1 18 + 1 ≤ 100; omega, by show 0 < 2; decide⟩).1, (show zpp (σ.1 18 + 1, 0) from ⟨by show σ.1 18 + 1 ≤ 100; omega, by show 0 < 2; decide⟩).2⟩) (show zby8 (zp (sE (sE σ 21 (σ.1 20) (σ.1 18)) 22 (σ.1 20) 114) ((σ.1 18) + 1) 0) from hby)) (cwV 0 hts (mg_V mk_60 mk_64 mk_65 mk_66 mk_43) rfl rfl rfl (by decide +kernel) ⟨Nat.le_of_ble_eq_true rfl, Nat.le_of_ble_eq_true rfl⟩) rfl (Nat.le_of_ble_eq_true rfl) dX12_readStatement_129 ⟨Nat.le_refl _, Nat.le_refl _⟩ (fun H locs X => ?_)
        replace X := ap_nil' X
        refine gi_raw (y := nI (zsv σ 100 ((σ.1 18) + 1, 0))) rfl ?_
        replace X := wh_eq (σ' := (zp (sE (sE σ 21 (σ.1 20) (σ.1 18)) 22 (σ.1 20) 114) ((zst σ 100 ((σ.1 18) + 1, 0)).1) ((zst σ 100 ((σ.1 18) + 1, 0)).2))) zp_zp X
        refine m_iast G X 23 rfl (i := (σ.1 20)) (v := (zsv σ 100 ((σ.1 18) + 1, 0))) (by show _ < 50; omega) (by omega) dX12_readStatement_132 (fun H locs X => ?_)
        replace X := wh_eq (σ' := (zp (sE (sE (sE σ 21 (σ.1 20) (σ.1 18)) 22 (σ.1 20) 114) 23 (σ.1 20) (zsv σ 100 ((σ.1 18) + 1, 0))) ((zst σ 100 ((σ.1 18) + 1, 0)).1) ((zst σ 100 ((σ.1 18) + 1, 0)).2))) rfl X
        refine lv_iload_n hx hb dX12_readStatement_133 rfl (lv_at hl 1 rfl) ?_
        refine lv_bipush (v := nI 114) hx hb dX12_readStatement_134 (by decide) ?_
        refine gn_icmp_eq (tgt := 145) hx hb dX12_readStatement_136 (by decide) (by decide) (by decide) (fun c_136 => ?_) (fun c_136 => absurd c_136 (by decide))
        refine lv_aload_n hx hb dX12_readStatement_145 rfl (lv_at hl 2 rfl) ?_
        refine m_geta G X 24 rfl (hwd _ mk_19) rfl dX12_readStatement_146 ?_
        refine lv_iload_n hx hb dX12_readStatement_149 rfl (lv_at hl 0 rfl) ?_
        refine lv_aload_n hx hb dX12_readStatement_150 rfl (lv_at hl 2 rfl) ?_
        refine ctI_V (wf := []) (As := []) (rest := [.int (nI (σ.1 20)), .ref (q 24)]) (n := 0) hx hb hml hown hts hK hA (ap_nil X) hl.1 (m_recv G X) (c_readDigit hcl ht0 ht1 (σ := (zp (sE (sE (sE σ 21 (σ.1 20) (σ.1 18)) 22 (σ.1 20) 114) 23 (σ.1 20) (zsv σ 100 ((σ.1 18) + 1, 0))) ((zst σ 100 ((σ.1 18) + 1, 0)).1) ((zst σ 100 ((σ.1 18) + 1, 0)).2))) (show zpOk (zp (sE (sE (sE σ 21 (σ.1 20) (σ.1 18)) 22 (σ.1 20) 114) 23 (σ.1 20) (zsv σ 100 ((σ.1 18) + 1, 0))) ((zst σ 100 ((σ.1 18) + 1, 0)).1) ((zst σ 100 ((σ.1 18) + 1, 0)).2)) from ⟨q16, q17, (zst_po hby q17 (show zwo 100 by decide) (show zpp (σ.1 18 + 1, 0) from ⟨by show σ.1 18 + 1 ≤ 100; omega, by show 0 < 2; decide⟩)).1, (zst_po hby q17 (show zwo 100 by decide) (show zpp (σ.1 18 + 1, 0) from ⟨by show σ.1 18 + 1 ≤ 100; omega, by show 0 < 2; decide⟩)).2⟩) (show zby8 (zp (sE (sE (sE σ 21 (σ.1 20) (σ.1 18)) 22 (σ.1 20) 114) 23 (σ.1 20) (zsv σ 100 ((σ.1 18) + 1, 0))) ((zst σ 100 ((σ.1 18) + 1, 0)).1) ((zst σ 100 ((σ.1 18) + 1, 0)).2)) from hby)) (cwV 0 hts (mg_V mk_60 mk_64 mk_65 mk_66 mk_43) rfl rfl rfl (by decide +kernel) ⟨Nat.le_of_ble_eq_true rfl, Nat.le_of_ble_eq_true rfl⟩) rfl (Nat.le_of_ble_eq_true rfl) dX12_readStatement_151 ⟨Nat.le_refl _, Nat.le_refl _⟩ (fun H locs X => ?_)
        replace X := ap_nil' X
        refine gi_raw (y := nI (zsv σ 100 (zst σ 100 ((σ.1 18) + 1, 0)))) rfl ?_
        replace X := wh_eq (σ' := (zp (sE (sE (sE σ 21 (σ.1 20) (σ.1 18)) 22 (σ.1 20) 114) 23 (σ.1 20) (zsv σ 100 ((σ.1 18) + 1, 0))) ((zst σ 100 (zst σ 100 ((σ.1 18) + 1, 0))).1) ((zst σ 100 (zst σ 100 ((σ.1 18) + 1, 0))).2))) zp_zp X
        refine m_iast G X 24 rfl (i := (σ.1 20)) (v := (zsv σ 100 (zst σ 100 ((σ.1 18) + 1, 0)))) (by show _ < 50; omega) (by omega) dX12_readStatement_154 (fun H locs X => ?_)
        replace X := wh_eq (σ' := (zp (sE (sE (sE (sE σ 21 (σ.1 20) (σ.1 18)) 22 (σ.1 20) 114) 23 (σ.1 20) (zsv σ 100 ((σ.1 18) + 1, 0))) 24 (σ.1 20) (zsv σ 100 (zst σ 100 ((σ.1 18) + 1, 0)))) ((zst σ 100 (zst σ 100 ((σ.1 18) + 1, 0))).1) ((zst σ 100 (zst σ 100 ((σ.1 18) + 1, 0))).2))) rfl X
        refine lv_iload_n hx hb dX12_readStatement_155 rfl (lv_at hl 1 rfl) ?_
        refine lv_bipush (v := nI 119) hx hb dX12_readStatement_156 (by decide) ?_
        refine gn_icmp_ne (tgt := 177) hx hb dX12_readStatement_158 (by decide) (by decide) (by decide) (fun c_158 => ?_) (fun c_158 => absurd c_158 (by decide))
        refine lv_aload_n hx hb dX12_readStatement_177 rfl (lv_at hl 2 rfl) ?_
        refine m_geti G X 19 rfl (hwd _ mk_56) rfl dX12_readStatement_178 ?_
        refine gi_eq (a := ((zst σ 100 (zst σ 100 ((σ.1 18) + 1, 0))).2)) rfl ?_
        have hb9 : (zst σ 100 (zst σ 100 ((σ.1 18) + 1, 0))).2 < 2 := (zst_po hby q17 (show zwo 100 by decide) (zst_po hby q17 (show zwo 100 by decide) (show zpp (σ.1 18 + 1, 0) from ⟨by show σ.1 18 + 1 ≤ 100; omega, by show 0 < 2; decide⟩))).2
        refine gn_if_ne (tgt := 212) hx hb dX12_readStatement_181 (by decide) (by omega) (fun c_181 => ?_) (fun c_181 => ?_)
        ·
          refine lv_aload_n hx hb dX12_readStatement_212 rfl (lv_at hl 2 rfl) ?_
          refine lv_bipush (v := nI 59) hx hb dX12_readStatement_213 (by decide) ?_
          refine ctV_V (wf := []) (As := [.int (nI 59)]) (rest := []) (n := 1) hx hb hml hown hts hK hA (ap_nil X) hl.1 (m_recv G X) (c_take hcl ht0 ht1 (σ := (zp (sE (sE (sE (sE σ 21 (σ.1 20) (σ.1 18)) 22 (σ.1 20) 114) 23 (σ.1 20) (zsv σ 100 ((σ.1 18) + 1, 0))) 24 (σ.1 20) (zsv σ 100 (zst σ 100 ((σ.1 18) + 1, 0)))) ((zst σ 100 (zst σ 100 ((σ.1 18) + 1, 0))).1) ((zst σ 100 (zst σ 100 ((σ.1 18) + 1, 0))).2))) 59 (show zpOk (zp (sE (sE (sE (sE σ 21 (σ.1 20) (σ.1 18)) 22 (σ.1 20) 114) 23 (σ.1 20) (zsv σ 100 ((σ.1 18) + 1, 0))) 24 (σ.1 20) (zsv σ 100 (zst σ 100 ((σ.1 18) + 1, 0)))) ((zst σ 100 (zst σ 100 ((σ.1 18) + 1, 0))).1) ((zst σ 100 (zst σ 100 ((σ.1 18) + 1, 0))).2)) from ⟨q16, q17, (zst_po hby q17 (show zwo 100 by decide) (zst_po hby q17 (show zwo 100 by decide) (show zpp (σ.1 18 + 1, 0) from ⟨by show σ.1 18 + 1 ≤ 100; omega, by show 0 < 2; decide⟩))).1, (zst_po hby q17 (show zwo 100 by decide) (zst_po hby q17 (show zwo 100 by decide) (show zpp (σ.1 18 + 1, 0) from ⟨by show σ.1 18 + 1 ≤ 100; omega, by show 0 < 2; decide⟩))).2⟩) (by decide)) (cwV 1 hts (mg_V mk_55 mk_71 mk_72 mk_73 mk_43) rfl rfl rfl (by decide +kernel) ⟨Nat.le_of_ble_eq_true rfl, Nat.le_of_ble_eq_true rfl⟩) rfl (Nat.le_of_ble_eq_true rfl) dX12_readStatement_215 ⟨Nat.le_refl _, Nat.le_refl _⟩ (fun H locs X => ?_)
          replace X := ap_nil' X
          replace X := wh_eq (σ' := (zp (sE (sE (sE (sE σ 21 (σ.1 20) (σ.1 18)) 22 (σ.1 20) 114) 23 (σ.1 20) (zsv σ 100 ((σ.1 18) + 1, 0))) 24 (σ.1 20) (zsv σ 100 (zst σ 100 ((σ.1 18) + 1, 0)))) ((zst σ 59 (zst σ 100 (zst σ 100 ((σ.1 18) + 1, 0)))).1) ((zst σ 59 (zst σ 100 (zst σ 100 ((σ.1 18) + 1, 0)))).2))) zp_zp X
          refine lv_aload_n hx hb dX12_readStatement_218 rfl (lv_at hl 2 rfl) ?_
          refine lv_dup hx hb dX12_readStatement_219 rfl ?_
          refine m_geti G X 20 rfl (hwd _ mk_67) rfl dX12_readStatement_220 ?_
          refine gi_eq (a := (σ.1 20)) rfl ?_
          refine lv_iconst (v := nI 1) hx hb dX12_readStatement_223 (by decide) ?_
          refine gn_iadd hx hb dX12_readStatement_224  ?_
          refine m_puti G X 20 rfl (hwd _ mk_67) rfl (ty := .int) (by decide +kernel) rfl rfl dX12_readStatement_225 (fun H locs X => ?_)
          exact fin _ _ _ _ (sF (zp (sE (sE (sE (sE σ 21 (σ.1 20) (σ.1 18)) 22 (σ.1 20) 114) 23 (σ.1 20) (zsv σ 100 ((σ.1 18) + 1, 0))) 24 (σ.1 20) (zsv σ 100 (zst σ 100 ((σ.1 18) + 1, 0)))) ((zst σ 59 (zst σ 100 (zst σ 100 ((σ.1 18) + 1, 0)))).1) ((zst σ 59 (zst σ 100 (zst σ 100 ((σ.1 18) + 1, 0)))).2)) 20 ((σ.1 20) + 1)) (zrs_main (S := (sE (sE (sE (sE σ 21 (σ.1 20) (σ.1 18)) 22 (σ.1 20) 114) 23 (σ.1 20) (zsv σ 100 ((σ.1 18) + 1, 0))) 24 (σ.1 20) (zsv σ 100 (zst σ 100 ((σ.1 18) + 1, 0))))) (P := (zst σ 59 (zst σ 100 (zst σ 100 ((σ.1 18) + 1, 0))))) (c := 114) (L := [100, 100, 32, 110, 59]) hby hpo e_114 (by decide) (by decide) (by decide) (by decide) (by decide) (zfr_E (zfr_E (zfr_E (zfr_E zfr_0 (by decide) (by decide)) (by decide) (by decide)) (by decide) (by decide)) (by decide) (by decide)) (zfd_skip (w := 32) (l := [110, 59]) (Nat.ne_of_gt c_181)) (zst_po hby q17 (show zwo 59 by decide) (zst_po hby q17 (show zwo 100 by decide) (zst_po hby q17 (show zwo 100 by decide) (show zpp (σ.1 18 + 1, 0) from ⟨by show σ.1 18 + 1 ≤ 100; omega, by show 0 < 2; decide⟩)))) (show (sE (sE (sE (sE σ 21 (σ.1 20) (σ.1 18)) 22 (σ.1 20) 114) 23 (σ.1 20) (zsv σ 100 ((σ.1 18) + 1, 0))) 24 (σ.1 20) (zsv σ 100 (zst σ 100 ((σ.1 18) + 1, 0)))).2 21 (σ.1 20) = σ.1 18 from sE_att (S := σ) (k := 21) (i := σ.1 20)) (show (sE (sE (sE (sE σ 21 (σ.1 20) (σ.1 18)) 22 (σ.1 20) 114) 23 (σ.1 20) (zsv σ 100 ((σ.1 18) + 1, 0))) 24 (σ.1 20) (zsv σ 100 (zst σ 100 ((σ.1 18) + 1, 0)))).2 22 (σ.1 20) = 114 from sE_att (S := (sE σ 21 (σ.1 20) (σ.1 18))) (k := 22) (i := σ.1 20)) (fun h9 => absurd h9 (zst_bad2 (Nat.ne_of_gt c_181)))) X dX12_readStatement_228
        ·
          refine lv_iload_n hx hb dX12_readStatement_184 rfl (lv_at hl 1 rfl) ?_
          refine lv_bipush (v := nI 98) hx hb dX12_readStatement_185 (by decide) ?_
          refine gn_icmp_eq (tgt := 212) hx hb dX12_readStatement_187 (by decide) (by decide) (by decide) (fun c_187 => absurd c_187 (by decide)) (fun c_187 => ?_)
          refine lv_iload_n hx hb dX12_readStatement_190 rfl (lv_at hl 1 rfl) ?_
          refine lv_bipush (v := nI 97) hx hb dX12_readStatement_191 (by decide) ?_
          refine gn_icmp_eq (tgt := 212) hx hb dX12_readStatement_193 (by decide) (by decide) (by decide) (fun c_193 => absurd c_193 (by decide)) (fun c_193 => ?_)
          refine lv_aload_n hx hb dX12_readStatement_196 rfl (lv_at hl 2 rfl) ?_
          refine lv_bipush (v := nI 32) hx hb dX12_readStatement_197 (by decide) ?_
          refine ctV_V (wf := []) (As := [.int (nI 32)]) (rest := []) (n := 1) hx hb hml hown hts hK hA (ap_nil X) hl.1 (m_recv G X) (c_take hcl ht0 ht1 (σ := (zp (sE (sE (sE (sE σ 21 (σ.1 20) (σ.1 18)) 22 (σ.1 20) 114) 23 (σ.1 20) (zsv σ 100 ((σ.1 18) + 1, 0))) 24 (σ.1 20) (zsv σ 100 (zst σ 100 ((σ.1 18) + 1, 0)))) ((zst σ 100 (zst σ 100 ((σ.1 18) + 1, 0))).1) ((zst σ 100 (zst σ 100 ((σ.1 18) + 1, 0))).2))) 32 (show zpOk (zp (sE (sE (sE (sE σ 21 (σ.1 20) (σ.1 18)) 22 (σ.1 20) 114) 23 (σ.1 20) (zsv σ 100 ((σ.1 18) + 1, 0))) 24 (σ.1 20) (zsv σ 100 (zst σ 100 ((σ.1 18) + 1, 0)))) ((zst σ 100 (zst σ 100 ((σ.1 18) + 1, 0))).1) ((zst σ 100 (zst σ 100 ((σ.1 18) + 1, 0))).2)) from ⟨q16, q17, (zst_po hby q17 (show zwo 100 by decide) (zst_po hby q17 (show zwo 100 by decide) (show zpp (σ.1 18 + 1, 0) from ⟨by show σ.1 18 + 1 ≤ 100; omega, by show 0 < 2; decide⟩))).1, (zst_po hby q17 (show zwo 100 by decide) (zst_po hby q17 (show zwo 100 by decide) (show zpp (σ.1 18 + 1, 0) from ⟨by show σ.1 18 + 1 ≤ 100; omega, by show 0 < 2; decide⟩))).2⟩) (by decide)) (cwV 1 hts (mg_V mk_55 mk_71 mk_72 mk_73 mk_43) rfl rfl rfl (by decide +kernel) ⟨Nat.le_of_ble_eq_true rfl, Nat.le_of_ble_eq_true rfl⟩) rfl (Nat.le_of_ble_eq_true rfl) dX12_readStatement_199 ⟨Nat.le_refl _, Nat.le_refl _⟩ (fun H locs X => ?_)
          replace X := ap_nil' X
          replace X := wh_eq (σ' := (zp (sE (sE (sE (sE σ 21 (σ.1 20) (σ.1 18)) 22 (σ.1 20) 114) 23 (σ.1 20) (zsv σ 100 ((σ.1 18) + 1, 0))) 24 (σ.1 20) (zsv σ 100 (zst σ 100 ((σ.1 18) + 1, 0)))) ((zst σ 32 (zst σ 100 (zst σ 100 ((σ.1 18) + 1, 0)))).1) ((zst σ 32 (zst σ 100 (zst σ 100 ((σ.1 18) + 1, 0)))).2))) zp_zp X
          refine lv_aload_n hx hb dX12_readStatement_202 rfl (lv_at hl 2 rfl) ?_
          refine m_geta G X 25 rfl (hwd _ mk_20) rfl dX12_readStatement_203 ?_
          refine lv_iload_n hx hb dX12_readStatement_206 rfl (lv_at hl 0 rfl) ?_
          refine lv_aload_n hx hb dX12_readStatement_207 rfl (lv_at hl 2 rfl) ?_
          refine ctI_V (wf := []) (As := []) (rest := [.int (nI (σ.1 20)), .ref (q 25)]) (n := 0) hx hb hml hown hts hK hA (ap_nil X) hl.1 (m_recv G X) (c_readNumber hcl ht0 ht1 (σ := (zp (sE (sE (sE (sE σ 21 (σ.1 20) (σ.1 18)) 22 (σ.1 20) 114) 23 (σ.1 20) (zsv σ 100 ((σ.1 18) + 1, 0))) 24 (σ.1 20) (zsv σ 100 (zst σ 100 ((σ.1 18) + 1, 0)))) ((zst σ 32 (zst σ 100 (zst σ 100 ((σ.1 18) + 1, 0)))).1) ((zst σ 32 (zst σ 100 (zst σ 100 ((σ.1 18) + 1, 0)))).2))) (show zpOk (zp (sE (sE (sE (sE σ 21 (σ.1 20) (σ.1 18)) 22 (σ.1 20) 114) 23 (σ.1 20) (zsv σ 100 ((σ.1 18) + 1, 0))) 24 (σ.1 20) (zsv σ 100 (zst σ 100 ((σ.1 18) + 1, 0)))) ((zst σ 32 (zst σ 100 (zst σ 100 ((σ.1 18) + 1, 0)))).1) ((zst σ 32 (zst σ 100 (zst σ 100 ((σ.1 18) + 1, 0)))).2)) from ⟨q16, q17, (zst_po hby q17 (show zwo 32 by decide) (zst_po hby q17 (show zwo 100 by decide) (zst_po hby q17 (show zwo 100 by decide) (show zpp (σ.1 18 + 1, 0) from ⟨by show σ.1 18 + 1 ≤ 100; omega, by show 0 < 2; decide⟩)))).1, (zst_po hby q17 (show zwo 32 by decide) (zst_po hby q17 (show zwo 100 by decide) (zst_po hby q17 (show zwo 100 by decide) (show zpp (σ.1 18 + 1, 0) from ⟨by show σ.1 18 + 1 ≤ 100; omega, by show 0 < 2; decide⟩)))).2⟩) (show zby8 (zp (sE (sE (sE (sE σ 21 (σ.1 20) (σ.1 18)) 22 (σ.1 20) 114) 23 (σ.1 20) (zsv σ 100 ((σ.1 18) + 1, 0))) 24 (σ.1 20) (zsv σ 100 (zst σ 100 ((σ.1 18) + 1, 0)))) ((zst σ 32 (zst σ 100 (zst σ 100 ((σ.1 18) + 1, 0)))).1) ((zst σ 32 (zst σ 100 (zst σ 100 ((σ.1 18) + 1, 0)))).2)) from hby)) (cwV 0 hts (mg_V mk_63 mk_68 mk_69 mk_70 mk_43) rfl rfl rfl (by decide +kernel) ⟨Nat.le_of_ble_eq_true rfl, Nat.le_of_ble_eq_true rfl⟩) rfl (Nat.le_of_ble_eq_true rfl) dX12_readStatement_208 ⟨Nat.le_refl _, Nat.le_refl _⟩ (fun H locs X => ?_)
          replace X := ap_nil' X
          refine gi_raw (y := nI (zsv σ 110 (zst σ 32 (zst σ 100 (zst σ 100 ((σ.1 18) + 1, 0)))))) rfl ?_
          replace X := wh_eq (σ' := (zp (sE (sE (sE (sE σ 21 (σ.1 20) (σ.1 18)) 22 (σ.1 20) 114) 23 (σ.1 20) (zsv σ 100 ((σ.1 18) + 1, 0))) 24 (σ.1 20) (zsv σ 100 (zst σ 100 ((σ.1 18) + 1, 0)))) ((zst σ 110 (zst σ 32 (zst σ 100 (zst σ 100 ((σ.1 18) + 1, 0))))).1) ((zst σ 110 (zst σ 32 (zst σ 100 (zst σ 100 ((σ.1 18) + 1, 0))))).2))) zp_zp X
          refine m_iast G X 25 rfl (i := (σ.1 20)) (v := (zsv σ 110 (zst σ 32 (zst σ 100 (zst σ 100 ((σ.1 18) + 1, 0)))))) (by show _ < 50; omega) (by omega) dX12_readStatement_211 (fun H locs X => ?_)
          replace X := wh_eq (σ' := (zp (sE (sE (sE (sE (sE σ 21 (σ.1 20) (σ.1 18)) 22 (σ.1 20) 114) 23 (σ.1 20) (zsv σ 100 ((σ.1 18) + 1, 0))) 24 (σ.1 20) (zsv σ 100 (zst σ 100 ((σ.1 18) + 1, 0)))) 25 (σ.1 20) (zsv σ 110 (zst σ 32 (zst σ 100 (zst σ 100 ((σ.1 18) + 1, 0)))))) ((zst σ 110 (zst σ 32 (zst σ 100 (zst σ 100 ((σ.1 18) + 1, 0))))).1) ((zst σ 110 (zst σ 32 (zst σ 100 (zst σ 100 ((σ.1 18) + 1, 0))))).2))) rfl X
          refine lv_aload_n hx hb dX12_readStatement_212 rfl (lv_at hl 2 rfl) ?_
          refine lv_bipush (v := nI 59) hx hb dX12_readStatement_213 (by decide) ?_
          refine ctV_V (wf := []) (As := [.int (nI 59)]) (rest := []) (n := 1) hx hb hml hown hts hK hA (ap_nil X) hl.1 (m_recv G X) (c_take hcl ht0 ht1 (σ := (zp (sE (sE (sE (sE (sE σ 21 (σ.1 20) (σ.1 18)) 22 (σ.1 20) 114) 23 (σ.1 20) (zsv σ 100 ((σ.1 18) + 1, 0))) 24 (σ.1 20) (zsv σ 100 (zst σ 100 ((σ.1 18) + 1, 0)))) 25 (σ.1 20) (zsv σ 110 (zst σ 32 (zst σ 100 (zst σ 100 ((σ.1 18) + 1, 0)))))) ((zst σ 110 (zst σ 32 (zst σ 100 (zst σ 100 ((σ.1 18) + 1, 0))))).1) ((zst σ 110 (zst σ 32 (zst σ 100 (zst σ 100 ((σ.1 18) + 1, 0))))).2))) 59 (show zpOk (zp (sE (sE (sE (sE (sE σ 21 (σ.1 20) (σ.1 18)) 22 (σ.1 20) 114) 23 (σ.1 20) (zsv σ 100 ((σ.1 18) + 1, 0))) 24 (σ.1 20) (zsv σ 100 (zst σ 100 ((σ.1 18) + 1, 0)))) 25 (σ.1 20) (zsv σ 110 (zst σ 32 (zst σ 100 (zst σ 100 ((σ.1 18) + 1, 0)))))) ((zst σ 110 (zst σ 32 (zst σ 100 (zst σ 100 ((σ.1 18) + 1, 0))))).1) ((zst σ 110 (zst σ 32 (zst σ 100 (zst σ 100 ((σ.1 18) + 1, 0))))).2)) from ⟨q16, q17, (zst_po hby q17 (show zwo 110 by decide) (zst_po hby q17 (show zwo 32 by decide) (zst_po hby q17 (show zwo 100 by decide) (zst_po hby q17 (show zwo 100 by decide) (show zpp (σ.1 18 + 1, 0) from ⟨by show σ.1 18 + 1 ≤ 100; omega, by show 0 < 2; decide⟩))))).1, (zst_po hby q17 (show zwo 110 by decide) (zst_po hby q17 (show zwo 32 by decide) (zst_po hby q17 (show zwo 100 by decide) (zst_po hby q17 (show zwo 100 by decide) (show zpp (σ.1 18 + 1, 0) from ⟨by show σ.1 18 + 1 ≤ 100; omega, by show 0 < 2; decide⟩))))).2⟩) (by decide)) (cwV 1 hts (mg_V mk_55 mk_71 mk_72 mk_73 mk_43) rfl rfl rfl (by decide +kernel) ⟨Nat.le_of_ble_eq_true rfl, Nat.le_of_ble_eq_true rfl⟩) rfl (Nat.le_of_ble_eq_true rfl) dX12_readStatement_215 ⟨Nat.le_refl _, Nat.le_refl _⟩ (fun H locs X => ?_)
          replace X := ap_nil' X
          replace X := wh_eq (σ' := (zp (sE (sE (sE (sE (sE σ 21 (σ.1 20) (σ.1 18)) 22 (σ.1 20) 114) 23 (σ.1 20) (zsv σ 100 ((σ.1 18) + 1, 0))) 24 (σ.1 20) (zsv σ 100 (zst σ 100 ((σ.1 18) + 1, 0)))) 25 (σ.1 20) (zsv σ 110 (zst σ 32 (zst σ 100 (zst σ 100 ((σ.1 18) + 1, 0)))))) ((zst σ 59 (zst σ 110 (zst σ 32 (zst σ 100 (zst σ 100 ((σ.1 18) + 1, 0)))))).1) ((zst σ 59 (zst σ 110 (zst σ 32 (zst σ 100 (zst σ 100 ((σ.1 18) + 1, 0)))))).2))) zp_zp X
          refine lv_aload_n hx hb dX12_readStatement_218 rfl (lv_at hl 2 rfl) ?_
          refine lv_dup hx hb dX12_readStatement_219 rfl ?_
          refine m_geti G X 20 rfl (hwd _ mk_67) rfl dX12_readStatement_220 ?_
          refine gi_eq (a := (σ.1 20)) rfl ?_
          refine lv_iconst (v := nI 1) hx hb dX12_readStatement_223 (by decide) ?_
          refine gn_iadd hx hb dX12_readStatement_224  ?_
          refine m_puti G X 20 rfl (hwd _ mk_67) rfl (ty := .int) (by decide +kernel) rfl rfl dX12_readStatement_225 (fun H locs X => ?_)
          exact fin _ _ _ _ (sF (zp (sE (sE (sE (sE (sE σ 21 (σ.1 20) (σ.1 18)) 22 (σ.1 20) 114) 23 (σ.1 20) (zsv σ 100 ((σ.1 18) + 1, 0))) 24 (σ.1 20) (zsv σ 100 (zst σ 100 ((σ.1 18) + 1, 0)))) 25 (σ.1 20) (zsv σ 110 (zst σ 32 (zst σ 100 (zst σ 100 ((σ.1 18) + 1, 0)))))) ((zst σ 59 (zst σ 110 (zst σ 32 (zst σ 100 (zst σ 100 ((σ.1 18) + 1, 0)))))).1) ((zst σ 59 (zst σ 110 (zst σ 32 (zst σ 100 (zst σ 100 ((σ.1 18) + 1, 0)))))).2)) 20 ((σ.1 20) + 1)) (zrs_main (S := (sE (sE (sE (sE (sE σ 21 (σ.1 20) (σ.1 18)) 22 (σ.1 20) 114) 23 (σ.1 20) (zsv σ 100 ((σ.1 18) + 1, 0))) 24 (σ.1 20) (zsv σ 100 (zst σ 100 ((σ.1 18) + 1, 0)))) 25 (σ.1 20) (zsv σ 110 (zst σ 32 (zst σ 100 (zst σ 100 ((σ.1 18) + 1, 0))))))) (P := (zst σ 59 (zst σ 110 (zst σ 32 (zst σ 100 (zst σ 100 ((σ.1 18) + 1, 0))))))) (c := 114) (L := [100, 100, 32, 110, 59]) hby hpo e_114 (by decide) (by decide) (by decide) (by decide) (by decide) (zfr_E (zfr_E (zfr_E (zfr_E (zfr_E zfr_0 (by decide) (by decide)) (by decide) (by decide)) (by decide) (by decide)) (by decide) (by decide)) (by decide) (by decide)) rfl (zst_po hby q17 (show zwo 59 by decide) (zst_po hby q17 (show zwo 110 by decide) (zst_po hby q17 (show zwo 32 by decide) (zst_po hby q17 (show zwo 100 by decide) (zst_po hby q17 (show zwo 100 by decide) (show zpp (σ.1 18 + 1, 0) from ⟨by show σ.1 18 + 1 ≤ 100; omega, by show 0 < 2; decide⟩)))))) (show (sE (sE (sE (sE (sE σ 21 (σ.1 20) (σ.1 18)) 22 (σ.1 20) 114) 23 (σ.1 20) (zsv σ 100 ((σ.1 18) + 1, 0))) 24 (σ.1 20) (zsv σ 100 (zst σ 100 ((σ.1 18) + 1, 0)))) 25 (σ.1 20) (zsv σ 110 (zst σ 32 (zst σ 100 (zst σ 100 ((σ.1 18) + 1, 0)))))).2 21 (σ.1 20) = σ.1 18 from sE_att (S := σ) (k := 21) (i := σ.1 20)) (show (sE (sE (sE (sE (sE σ 21 (σ.1 20) (σ.1 18)) 22 (σ.1 20) 114) 23 (σ.1 20) (zsv σ 100 ((σ.1 18) + 1, 0))) 24 (σ.1 20) (zsv σ 100 (zst σ 100 ((σ.1 18) + 1, 0)))) 25 (σ.1 20) (zsv σ 110 (zst σ 32 (zst σ 100 (zst σ 100 ((σ.1 18) + 1, 0)))))).2 22 (σ.1 20) = 114 from sE_att (S := (sE σ 21 (σ.1 20) (σ.1 18))) (k := 22) (i := σ.1 20)) (fun _ => ⟨by rw [(show (sE (sE (sE (sE (sE σ 21 (σ.1 20) (σ.1 18)) 22 (σ.1 20) 114) 23 (σ.1 20) (zsv σ 100 ((σ.1 18) + 1, 0))) 24 (σ.1 20) (zsv σ 100 (zst σ 100 ((σ.1 18) + 1, 0)))) 25 (σ.1 20) (zsv σ 110 (zst σ 32 (zst σ 100 (zst σ 100 ((σ.1 18) + 1, 0)))))).2 23 (σ.1 20) = zsv σ 100 ((σ.1 18) + 1, 0) from sE_att (S := (sE (sE σ 21 (σ.1 20) (σ.1 18)) 22 (σ.1 20) 114)) (k := 23) (i := σ.1 20))]; exact Nat.lt_trans (zsv_lt hby).1 (by decide), Or.inl ⟨by decide, by rw [(show (sE (sE (sE (sE (sE σ 21 (σ.1 20) (σ.1 18)) 22 (σ.1 20) 114) 23 (σ.1 20) (zsv σ 100 ((σ.1 18) + 1, 0))) 24 (σ.1 20) (zsv σ 100 (zst σ 100 ((σ.1 18) + 1, 0)))) 25 (σ.1 20) (zsv σ 110 (zst σ 32 (zst σ 100 (zst σ 100 ((σ.1 18) + 1, 0)))))).2 24 (σ.1 20) = zsv σ 100 (zst σ 100 ((σ.1 18) + 1, 0)) from sE_att (S := (sE (sE (sE σ 21 (σ.1 20) (σ.1 18)) 22 (σ.1 20) 114) 23 (σ.1 20) (zsv σ 100 ((σ.1 18) + 1, 0)))) (k := 24) (i := σ.1 20))]; exact (zsv_lt hby).1, by rw [(show (sE (sE (sE (sE (sE σ 21 (σ.1 20) (σ.1 18)) 22 (σ.1 20) 114) 23 (σ.1 20) (zsv σ 100 ((σ.1 18) + 1, 0))) 24 (σ.1 20) (zsv σ 100 (zst σ 100 ((σ.1 18) + 1, 0)))) 25 (σ.1 20) (zsv σ 110 (zst σ 32 (zst σ 100 (zst σ 100 ((σ.1 18) + 1, 0)))))).2 25 (σ.1 20) = zsv σ 110 (zst σ 32 (zst σ 100 (zst σ 100 ((σ.1 18) + 1, 0)))) from sE_att (S := (sE (sE (sE (sE σ 21 (σ.1 20) (σ.1 18)) 22 (σ.1 20) 114) 23 (σ.1 20) (zsv σ 100 ((σ.1 18) + 1, 0))) 24 (σ.1 20) (zsv σ 100 (zst σ 100 ((σ.1 18) + 1, 0))))) (k := 25) (i := σ.1 20))]; exact (zsv_lt hby).2, fun t => ⟨(show (sE (sE (sE (sE (sE σ 21 (σ.1 20) (σ.1 18)) 22 (σ.1 20) 114) 23 (σ.1 20) (zsv σ 100 ((σ.1 18) + 1, 0))) 24 (σ.1 20) (zsv σ 100 (zst σ 100 ((σ.1 18) + 1, 0)))) 25 (σ.1 20) (zsv σ 110 (zst σ 32 (zst σ 100 (zst σ 100 ((σ.1 18) + 1, 0)))))).2 23 (σ.1 20) = zsv σ 100 ((σ.1 18) + 1, 0) from sE_att (S := (sE (sE σ 21 (σ.1 20) (σ.1 18)) 22 (σ.1 20) 114)) (k := 23) (i := σ.1 20)).symm, (show (sE (sE (sE (sE (sE σ 21 (σ.1 20) (σ.1 18)) 22 (σ.1 20) 114) 23 (σ.1 20) (zsv σ 100 ((σ.1 18) + 1, 0))) 24 (σ.1 20) (zsv σ 100 (zst σ 100 ((σ.1 18) + 1, 0)))) 25 (σ.1 20) (zsv σ 110 (zst σ 32 (zst σ 100 (zst σ 100 ((σ.1 18) + 1, 0)))))).2 24 (σ.1 20) = zsv σ 100 (zst σ 100 ((σ.1 18) + 1, 0)) from sE_att (S := (sE (sE (sE σ 21 (σ.1 20) (σ.1 18)) 22 (σ.1 20) 114) 23 (σ.1 20) (zsv σ 100 ((σ.1 18) + 1, 0)))) (k := 24) (i := σ.1 20)).symm, (show (sE (sE (sE (sE (sE σ 21 (σ.1 20) (σ.1 18)) 22 (σ.1 20) 114) 23 (σ.1 20) (zsv σ 100 ((σ.1 18) + 1, 0))) 24 (σ.1 20) (zsv σ 100 (zst σ 100 ((σ.1 18) + 1, 0)))) 25 (σ.1 20) (zsv σ 110 (zst σ 32 (zst σ 100 (zst σ 100 ((σ.1 18) + 1, 0)))))).2 25 (σ.1 20) = zsv σ 110 (zst σ 32 (zst σ 100 (zst σ 100 ((σ.1 18) + 1, 0)))) from sE_att (S := (sE (sE (sE (sE σ 21 (σ.1 20) (σ.1 18)) 22 (σ.1 20) 114) 23 (σ.1 20) (zsv σ 100 ((σ.1 18) + 1, 0))) 24 (σ.1 20) (zsv σ 100 (zst σ 100 ((σ.1 18) + 1, 0))))) (k := 25) (i := σ.1 20)).symm⟩⟩⟩)) X dX12_readStatement_228
      · exact absurd c_102 (by decide)
    · exact absurd c_81 (by decide)
  by_cases e_119 : zch σ (σ.1 18) = 119
  ·
    refine gi_eq (a := 119) e_119 ?_
    have hlt9 : σ.1 18 < σ.1 17 := zch_in2 (by omega)
    refine lv_istore_n (lv' := [(1, .int (nI 119)), (0, .ref o)]) hx hb dX12_readStatement_4 rfl hl (by decide) rfl (fun ls hl => ?_)
    refine lv_aload_n hx hb dX12_readStatement_5 rfl (lv_at hl 1 rfl) ?_
    refine m_geti G X 20 rfl (hwd _ mk_67) rfl dX12_readStatement_6 ?_
    refine gi_eq (a := (σ.1 20)) rfl ?_
    refine lv_istore_n (lv' := [(2, .int (nI (σ.1 20))), (1, .int (nI 119)), (0, .ref o)]) hx hb dX12_readStatement_9 rfl hl (by decide) rfl (fun ls hl => ?_)
    refine lv_aload_n hx hb dX12_readStatement_10 rfl (lv_at hl 2 rfl) ?_
    refine lv_iload_n hx hb dX12_readStatement_11 rfl (lv_at hl 1 rfl) ?_
    refine lv_bipush (v := nI 114) hx hb dX12_readStatement_12 (by decide) ?_
    refine gn_icmp_eq (tgt := 51) hx hb dX12_readStatement_14 (by decide) (by decide) (by decide) (fun c_14 => absurd c_14 (by decide)) (fun c_14 => ?_)
    refine lv_iload_n hx hb dX12_readStatement_17 rfl (lv_at hl 1 rfl) ?_
    refine lv_bipush (v := nI 119) hx hb dX12_readStatement_18 (by decide) ?_
    refine gn_icmp_eq (tgt := 51) hx hb dX12_readStatement_20 (by decide) (by decide) (by decide) (fun c_20 => ?_) (fun c_20 => absurd c_20 (by decide))
    refine lv_iconst (v := nI 0) hx hb dX12_readStatement_51 (by decide) ?_
    refine m_puti G X 19 rfl (hwd _ mk_56) rfl (ty := .boolean) (by decide +kernel) (zb_nar (by omega)) (zb_fit (by omega)) dX12_readStatement_52 (fun H locs X => ?_)
    replace X := wh_eq (zp_F19 (x := 0)) X
    refine lv_aload_n hx hb dX12_readStatement_55 rfl (lv_at hl 2 rfl) ?_
    refine m_geta G X 21 rfl (hwd _ mk_16) rfl dX12_readStatement_56 ?_
    refine lv_iload_n hx hb dX12_readStatement_59 rfl (lv_at hl 0 rfl) ?_
    refine lv_aload_n hx hb dX12_readStatement_60 rfl (lv_at hl 2 rfl) ?_
    refine m_geti G X 18 rfl (hwd _ mk_52) rfl dX12_readStatement_61 ?_
    refine gi_eq (a := (σ.1 18)) rfl ?_
    refine m_iast G X 21 rfl (i := (σ.1 20)) (v := (σ.1 18)) (by show _ < 50; omega) (by omega) dX12_readStatement_64 (fun H locs X => ?_)
    replace X := wh_eq (σ' := (zp (sE σ 21 (σ.1 20) (σ.1 18)) (σ.1 18) 0)) rfl X
    refine lv_aload_n hx hb dX12_readStatement_65 rfl (lv_at hl 2 rfl) ?_
    refine m_geta G X 22 rfl (hwd _ mk_17) rfl dX12_readStatement_66 ?_
    refine lv_iload_n hx hb dX12_readStatement_69 rfl (lv_at hl 0 rfl) ?_
    refine lv_iload_n hx hb dX12_readStatement_70 rfl (lv_at hl 1 rfl) ?_
    refine m_iast G X 22 rfl (i := (σ.1 20)) (v := 119) (by show _ < 50; omega) (by omega) dX12_readStatement_71 (fun H locs X => ?_)
    replace X := wh_eq (σ' := (zp (sE (sE σ 21 (σ.1 20) (σ.1 18)) 22 (σ.1 20) 119) (σ.1 18) 0)) rfl X
    refine lv_aload_n hx hb dX12_readStatement_72 rfl (lv_at hl 2 rfl) ?_
    refine lv_dup hx hb dX12_readStatement_73 rfl ?_
    refine m_geti G X 18 rfl (hwd _ mk_52) rfl dX12_readStatement_74 ?_
    refine gi_eq (a := (σ.1 18)) rfl ?_
    refine lv_aload_n hx hb dX12_readStatement_77 rfl (lv_at hl 2 rfl) ?_
    refine m_geti G X 19 rfl (hwd _ mk_56) rfl dX12_readStatement_78 ?_
    refine gi_eq (a := 0) rfl ?_
    refine gn_if_eq (tgt := 88) hx hb dX12_readStatement_81 (by decide) (by omega) (fun c_81 => ?_) (fun c_81 => ?_)
    ·
      refine lv_iconst (v := nI 1) hx hb dX12_readStatement_88 (by decide) ?_
      refine gn_iadd hx hb dX12_readStatement_89  ?_
      refine m_puti G X 18 rfl (hwd _ mk_52) rfl (ty := .int) (by decide +kernel) rfl rfl dX12_readStatement_90 (fun H locs X => ?_)
      replace X := wh_eq (zp_F18 (x := ((σ.1 18) + 1))) X
      refine lv_aload_n hx hb dX12_readStatement_93 rfl (lv_at hl 2 rfl) ?_
      refine m_geta G X 23 rfl (hwd _ mk_18) rfl dX12_readStatement_94 ?_
      refine lv_iload_n hx hb dX12_readStatement_97 rfl (lv_at hl 0 rfl) ?_
      refine lv_aload_n hx hb dX12_readStatement_98 rfl (lv_at hl 2 rfl) ?_
      refine m_geti G X 19 rfl (hwd _ mk_56) rfl dX12_readStatement_99 ?_
      refine gi_eq (a := 0) rfl ?_
      refine gn_if_eq (tgt := 109) hx hb dX12_readStatement_102 (by decide) (by omega) (fun c_102 => ?_) (fun c_102 => ?_)
      ·
        refine lv_iload_n hx hb dX12_readStatement_109 rfl (lv_at hl 1 rfl) ?_
        refine lv_bipush (v := nI 119) hx hb dX12_readStatement_110 (by decide) ?_
        refine gn_icmp_eq (tgt := 121) hx hb dX12_readStatement_112 (by decide) (by decide) (by decide) (fun c_112 => ?_) (fun c_112 => absurd c_112 (by decide))
        refine lv_aload_n hx hb dX12_readStatement_121 rfl (lv_at hl 2 rfl) ?_
        refine ctI_V (wf := []) (As := []) (rest := [.int (nI (σ.1 20)), .ref (q 23)]) (n := 0) hx hb hml hown hts hK hA (ap_nil X) hl.1 (m_recv G X) (c_readNumber hcl ht0 ht1 (σ := (zp (sE (sE σ 21 (σ.1 20) (σ.1 18)) 22 (σ.1 20) 119) ((σ.1 18) + 1) 0)) (show zpOk (zp (sE (sE σ 21 (σ.1 20) (σ.1 18)) 22 (σ.1 20) 119) ((σ.1 18) + 1) 0) from ⟨q16, q17, (show zpp (σ.1 18 + 1, 0) from ⟨by show σ.1 18 + 1 ≤ 100; omega, by show 0 < 2; decide⟩).1, (show zpp (σ.1 18 + 1, 0) from ⟨by show σ.1 18 + 1 ≤ 100; omega, by show 0 < 2; decide⟩).2⟩) (show zby8 (zp (sE (sE σ 21 (σ.1 20) (σ.1 18)) 22 (σ.1 20) 119) ((σ.1 18) + 1) 0) from hby)) (cwV 0 hts (mg_V mk_63 mk_68 mk_69 mk_70 mk_43) rfl rfl rfl (by decide +kernel) ⟨Nat.le_of_ble_eq_true rfl, Nat.le_of_ble_eq_true rfl⟩) rfl (Nat.le_of_ble_eq_true rfl) dX12_readStatement_122 ⟨Nat.le_refl _, Nat.le_refl _⟩ (fun H locs X => ?_)
        replace X := ap_nil' X
        refine gi_raw (y := nI (zsv σ 110 ((σ.1 18) + 1, 0))) rfl ?_
        replace X := wh_eq (σ' := (zp (sE (sE σ 21 (σ.1 20) (σ.1 18)) 22 (σ.1 20) 119) ((zst σ 110 ((σ.1 18) + 1, 0)).1) ((zst σ 110 ((σ.1 18) + 1, 0)).2))) zp_zp X
        refine lv_goto (tgt := 132) hx hb dX12_readStatement_125 (by decide) ?_
        refine m_iast G X 23 rfl (i := (σ.1 20)) (v := (zsv σ 110 ((σ.1 18) + 1, 0))) (by show _ < 50; omega) (by omega) dX12_readStatement_132 (fun H locs X => ?_)
        replace X := wh_eq (σ' := (zp (sE (sE (sE σ 21 (σ.1 20) (σ.1 18)) 22 (σ.1 20) 119) 23 (σ.1 20) (zsv σ 110 ((σ.1 18) + 1, 0))) ((zst σ 110 ((σ.1 18) + 1, 0)).1) ((zst σ 110 ((σ.1 18) + 1, 0)).2))) rfl X
        refine lv_iload_n hx hb dX12_readStatement_133 rfl (lv_at hl 1 rfl) ?_
        refine lv_bipush (v := nI 114) hx hb dX12_readStatement_134 (by decide) ?_
        refine gn_icmp_eq (tgt := 145) hx hb dX12_readStatement_136 (by decide) (by decide) (by decide) (fun c_136 => absurd c_136 (by decide)) (fun c_136 => ?_)
        refine lv_iload_n hx hb dX12_readStatement_139 rfl (lv_at hl 1 rfl) ?_
        refine lv_bipush (v := nI 109) hx hb dX12_readStatement_140 (by decide) ?_
        refine gn_icmp_ne (tgt := 155) hx hb dX12_readStatement_142 (by decide) (by decide) (by decide) (fun c_142 => ?_) (fun c_142 => absurd c_142 (by decide))
        refine lv_iload_n hx hb dX12_readStatement_155 rfl (lv_at hl 1 rfl) ?_
        refine lv_bipush (v := nI 119) hx hb dX12_readStatement_156 (by decide) ?_
        refine gn_icmp_ne (tgt := 177) hx hb dX12_readStatement_158 (by decide) (by decide) (by decide) (fun c_158 => absurd c_158 (by decide)) (fun c_158 => ?_)
        refine lv_aload_n hx hb dX12_readStatement_161 rfl (lv_at hl 2 rfl) ?_
        refine lv_bipush (v := nI 32) hx hb dX12_readStatement_162 (by decide) ?_
        refine ctV_V (wf := []) (As := [.int (nI 32)]) (rest := []) (n := 1) hx hb hml hown hts hK hA (ap_nil X) hl.1 (m_recv G X) (c_take hcl ht0 ht1 (σ := (zp (sE (sE (sE σ 21 (σ.1 20) (σ.1 18)) 22 (σ.1 20) 119) 23 (σ.1 20) (zsv σ 110 ((σ.1 18) + 1, 0))) ((zst σ 110 ((σ.1 18) + 1, 0)).1) ((zst σ 110 ((σ.1 18) + 1, 0)).2))) 32 (show zpOk (zp (sE (sE (sE σ 21 (σ.1 20) (σ.1 18)) 22 (σ.1 20) 119) 23 (σ.1 20) (zsv σ 110 ((σ.1 18) + 1, 0))) ((zst σ 110 ((σ.1 18) + 1, 0)).1) ((zst σ 110 ((σ.1 18) + 1, 0)).2)) from ⟨q16, q17, (zst_po hby q17 (show zwo 110 by decide) (show zpp (σ.1 18 + 1, 0) from ⟨by show σ.1 18 + 1 ≤ 100; omega, by show 0 < 2; decide⟩)).1, (zst_po hby q17 (show zwo 110 by decide) (show zpp (σ.1 18 + 1, 0) from ⟨by show σ.1 18 + 1 ≤ 100; omega, by show 0 < 2; decide⟩)).2⟩) (by decide)) (cwV 1 hts (mg_V mk_55 mk_71 mk_72 mk_73 mk_43) rfl rfl rfl (by decide +kernel) ⟨Nat.le_of_ble_eq_true rfl, Nat.le_of_ble_eq_true rfl⟩) rfl (Nat.le_of_ble_eq_true rfl) dX12_readStatement_164 ⟨Nat.le_refl _, Nat.le_refl _⟩ (fun H locs X => ?_)
        replace X := ap_nil' X
        replace X := wh_eq (σ' := (zp (sE (sE (sE σ 21 (σ.1 20) (σ.1 18)) 22 (σ.1 20) 119) 23 (σ.1 20) (zsv σ 110 ((σ.1 18) + 1, 0))) ((zst σ 32 (zst σ 110 ((σ.1 18) + 1, 0))).1) ((zst σ 32 (zst σ 110 ((σ.1 18) + 1, 0))).2))) zp_zp X
        refine lv_aload_n hx hb dX12_readStatement_167 rfl (lv_at hl 2 rfl) ?_
        refine m_geta G X 24 rfl (hwd _ mk_19) rfl dX12_readStatement_168 ?_
        refine lv_iload_n hx hb dX12_readStatement_171 rfl (lv_at hl 0 rfl) ?_
        refine lv_aload_n hx hb dX12_readStatement_172 rfl (lv_at hl 2 rfl) ?_
        refine ctI_V (wf := []) (As := []) (rest := [.int (nI (σ.1 20)), .ref (q 24)]) (n := 0) hx hb hml hown hts hK hA (ap_nil X) hl.1 (m_recv G X) (c_readDigit hcl ht0 ht1 (σ := (zp (sE (sE (sE σ 21 (σ.1 20) (σ.1 18)) 22 (σ.1 20) 119) 23 (σ.1 20) (zsv σ 110 ((σ.1 18) + 1, 0))) ((zst σ 32 (zst σ 110 ((σ.1 18) + 1, 0))).1) ((zst σ 32 (zst σ 110 ((σ.1 18) + 1, 0))).2))) (show zpOk (zp (sE (sE (sE σ 21 (σ.1 20) (σ.1 18)) 22 (σ.1 20) 119) 23 (σ.1 20) (zsv σ 110 ((σ.1 18) + 1, 0))) ((zst σ 32 (zst σ 110 ((σ.1 18) + 1, 0))).1) ((zst σ 32 (zst σ 110 ((σ.1 18) + 1, 0))).2)) from ⟨q16, q17, (zst_po hby q17 (show zwo 32 by decide) (zst_po hby q17 (show zwo 110 by decide) (show zpp (σ.1 18 + 1, 0) from ⟨by show σ.1 18 + 1 ≤ 100; omega, by show 0 < 2; decide⟩))).1, (zst_po hby q17 (show zwo 32 by decide) (zst_po hby q17 (show zwo 110 by decide) (show zpp (σ.1 18 + 1, 0) from ⟨by show σ.1 18 + 1 ≤ 100; omega, by show 0 < 2; decide⟩))).2⟩) (show zby8 (zp (sE (sE (sE σ 21 (σ.1 20) (σ.1 18)) 22 (σ.1 20) 119) 23 (σ.1 20) (zsv σ 110 ((σ.1 18) + 1, 0))) ((zst σ 32 (zst σ 110 ((σ.1 18) + 1, 0))).1) ((zst σ 32 (zst σ 110 ((σ.1 18) + 1, 0))).2)) from hby)) (cwV 0 hts (mg_V mk_60 mk_64 mk_65 mk_66 mk_43) rfl rfl rfl (by decide +kernel) ⟨Nat.le_of_ble_eq_true rfl, Nat.le_of_ble_eq_true rfl⟩) rfl (Nat.le_of_ble_eq_true rfl) dX12_readStatement_173 ⟨Nat.le_refl _, Nat.le_refl _⟩ (fun H locs X => ?_)
        replace X := ap_nil' X
        refine gi_raw (y := nI (zsv σ 100 (zst σ 32 (zst σ 110 ((σ.1 18) + 1, 0))))) rfl ?_
        replace X := wh_eq (σ' := (zp (sE (sE (sE σ 21 (σ.1 20) (σ.1 18)) 22 (σ.1 20) 119) 23 (σ.1 20) (zsv σ 110 ((σ.1 18) + 1, 0))) ((zst σ 100 (zst σ 32 (zst σ 110 ((σ.1 18) + 1, 0)))).1) ((zst σ 100 (zst σ 32 (zst σ 110 ((σ.1 18) + 1, 0)))).2))) zp_zp X
        refine m_iast G X 24 rfl (i := (σ.1 20)) (v := (zsv σ 100 (zst σ 32 (zst σ 110 ((σ.1 18) + 1, 0))))) (by show _ < 50; omega) (by omega) dX12_readStatement_176 (fun H locs X => ?_)
        replace X := wh_eq (σ' := (zp (sE (sE (sE (sE σ 21 (σ.1 20) (σ.1 18)) 22 (σ.1 20) 119) 23 (σ.1 20) (zsv σ 110 ((σ.1 18) + 1, 0))) 24 (σ.1 20) (zsv σ 100 (zst σ 32 (zst σ 110 ((σ.1 18) + 1, 0))))) ((zst σ 100 (zst σ 32 (zst σ 110 ((σ.1 18) + 1, 0)))).1) ((zst σ 100 (zst σ 32 (zst σ 110 ((σ.1 18) + 1, 0)))).2))) rfl X
        refine lv_aload_n hx hb dX12_readStatement_177 rfl (lv_at hl 2 rfl) ?_
        refine m_geti G X 19 rfl (hwd _ mk_56) rfl dX12_readStatement_178 ?_
        refine gi_eq (a := ((zst σ 100 (zst σ 32 (zst σ 110 ((σ.1 18) + 1, 0)))).2)) rfl ?_
        have hb9 : (zst σ 100 (zst σ 32 (zst σ 110 ((σ.1 18) + 1, 0)))).2 < 2 := (zst_po hby q17 (show zwo 100 by decide) (zst_po hby q17 (show zwo 32 by decide) (zst_po hby q17 (show zwo 110 by decide) (show zpp (σ.1 18 + 1, 0) from ⟨by show σ.1 18 + 1 ≤ 100; omega, by show 0 < 2; decide⟩)))).2
        refine gn_if_ne (tgt := 212) hx hb dX12_readStatement_181 (by decide) (by omega) (fun c_181 => ?_) (fun c_181 => ?_)
        ·
          refine lv_aload_n hx hb dX12_readStatement_212 rfl (lv_at hl 2 rfl) ?_
          refine lv_bipush (v := nI 59) hx hb dX12_readStatement_213 (by decide) ?_
          refine ctV_V (wf := []) (As := [.int (nI 59)]) (rest := []) (n := 1) hx hb hml hown hts hK hA (ap_nil X) hl.1 (m_recv G X) (c_take hcl ht0 ht1 (σ := (zp (sE (sE (sE (sE σ 21 (σ.1 20) (σ.1 18)) 22 (σ.1 20) 119) 23 (σ.1 20) (zsv σ 110 ((σ.1 18) + 1, 0))) 24 (σ.1 20) (zsv σ 100 (zst σ 32 (zst σ 110 ((σ.1 18) + 1, 0))))) ((zst σ 100 (zst σ 32 (zst σ 110 ((σ.1 18) + 1, 0)))).1) ((zst σ 100 (zst σ 32 (zst σ 110 ((σ.1 18) + 1, 0)))).2))) 59 (show zpOk (zp (sE (sE (sE (sE σ 21 (σ.1 20) (σ.1 18)) 22 (σ.1 20) 119) 23 (σ.1 20) (zsv σ 110 ((σ.1 18) + 1, 0))) 24 (σ.1 20) (zsv σ 100 (zst σ 32 (zst σ 110 ((σ.1 18) + 1, 0))))) ((zst σ 100 (zst σ 32 (zst σ 110 ((σ.1 18) + 1, 0)))).1) ((zst σ 100 (zst σ 32 (zst σ 110 ((σ.1 18) + 1, 0)))).2)) from ⟨q16, q17, (zst_po hby q17 (show zwo 100 by decide) (zst_po hby q17 (show zwo 32 by decide) (zst_po hby q17 (show zwo 110 by decide) (show zpp (σ.1 18 + 1, 0) from ⟨by show σ.1 18 + 1 ≤ 100; omega, by show 0 < 2; decide⟩)))).1, (zst_po hby q17 (show zwo 100 by decide) (zst_po hby q17 (show zwo 32 by decide) (zst_po hby q17 (show zwo 110 by decide) (show zpp (σ.1 18 + 1, 0) from ⟨by show σ.1 18 + 1 ≤ 100; omega, by show 0 < 2; decide⟩)))).2⟩) (by decide)) (cwV 1 hts (mg_V mk_55 mk_71 mk_72 mk_73 mk_43) rfl rfl rfl (by decide +kernel) ⟨Nat.le_of_ble_eq_true rfl, Nat.le_of_ble_eq_true rfl⟩) rfl (Nat.le_of_ble_eq_true rfl) dX12_readStatement_215 ⟨Nat.le_refl _, Nat.le_refl _⟩ (fun H locs X => ?_)
          replace X := ap_nil' X
          replace X := wh_eq (σ' := (zp (sE (sE (sE (sE σ 21 (σ.1 20) (σ.1 18)) 22 (σ.1 20) 119) 23 (σ.1 20) (zsv σ 110 ((σ.1 18) + 1, 0))) 24 (σ.1 20) (zsv σ 100 (zst σ 32 (zst σ 110 ((σ.1 18) + 1, 0))))) ((zst σ 59 (zst σ 100 (zst σ 32 (zst σ 110 ((σ.1 18) + 1, 0))))).1) ((zst σ 59 (zst σ 100 (zst σ 32 (zst σ 110 ((σ.1 18) + 1, 0))))).2))) zp_zp X
          refine lv_aload_n hx hb dX12_readStatement_218 rfl (lv_at hl 2 rfl) ?_
          refine lv_dup hx hb dX12_readStatement_219 rfl ?_
          refine m_geti G X 20 rfl (hwd _ mk_67) rfl dX12_readStatement_220 ?_
          refine gi_eq (a := (σ.1 20)) rfl ?_
          refine lv_iconst (v := nI 1) hx hb dX12_readStatement_223 (by decide) ?_
          refine gn_iadd hx hb dX12_readStatement_224  ?_
          refine m_puti G X 20 rfl (hwd _ mk_67) rfl (ty := .int) (by decide +kernel) rfl rfl dX12_readStatement_225 (fun H locs X => ?_)
          exact fin _ _ _ _ (sF (zp (sE (sE (sE (sE σ 21 (σ.1 20) (σ.1 18)) 22 (σ.1 20) 119) 23 (σ.1 20) (zsv σ 110 ((σ.1 18) + 1, 0))) 24 (σ.1 20) (zsv σ 100 (zst σ 32 (zst σ 110 ((σ.1 18) + 1, 0))))) ((zst σ 59 (zst σ 100 (zst σ 32 (zst σ 110 ((σ.1 18) + 1, 0))))).1) ((zst σ 59 (zst σ 100 (zst σ 32 (zst σ 110 ((σ.1 18) + 1, 0))))).2)) 20 ((σ.1 20) + 1)) (zrs_main (S := (sE (sE (sE (sE σ 21 (σ.1 20) (σ.1 18)) 22 (σ.1 20) 119) 23 (σ.1 20) (zsv σ 110 ((σ.1 18) + 1, 0))) 24 (σ.1 20) (zsv σ 100 (zst σ 32 (zst σ 110 ((σ.1 18) + 1, 0)))))) (P := (zst σ 59 (zst σ 100 (zst σ 32 (zst σ 110 ((σ.1 18) + 1, 0)))))) (c := 119) (L := [110, 32, 100, 32, 110, 59]) hby hpo e_119 (by decide) (by decide) (by decide) (by decide) (by decide) (zfr_E (zfr_E (zfr_E (zfr_E zfr_0 (by decide) (by decide)) (by decide) (by decide)) (by decide) (by decide)) (by decide) (by decide)) (zfd_skip (w := 32) (l := [110, 59]) (Nat.ne_of_gt c_181)) (zst_po hby q17 (show zwo 59 by decide) (zst_po hby q17 (show zwo 100 by decide) (zst_po hby q17 (show zwo 32 by decide) (zst_po hby q17 (show zwo 110 by decide) (show zpp (σ.1 18 + 1, 0) from ⟨by show σ.1 18 + 1 ≤ 100; omega, by show 0 < 2; decide⟩))))) (show (sE (sE (sE (sE σ 21 (σ.1 20) (σ.1 18)) 22 (σ.1 20) 119) 23 (σ.1 20) (zsv σ 110 ((σ.1 18) + 1, 0))) 24 (σ.1 20) (zsv σ 100 (zst σ 32 (zst σ 110 ((σ.1 18) + 1, 0))))).2 21 (σ.1 20) = σ.1 18 from sE_att (S := σ) (k := 21) (i := σ.1 20)) (show (sE (sE (sE (sE σ 21 (σ.1 20) (σ.1 18)) 22 (σ.1 20) 119) 23 (σ.1 20) (zsv σ 110 ((σ.1 18) + 1, 0))) 24 (σ.1 20) (zsv σ 100 (zst σ 32 (zst σ 110 ((σ.1 18) + 1, 0))))).2 22 (σ.1 20) = 119 from sE_att (S := (sE σ 21 (σ.1 20) (σ.1 18))) (k := 22) (i := σ.1 20)) (fun h9 => absurd h9 (zst_bad2 (Nat.ne_of_gt c_181)))) X dX12_readStatement_228
        ·
          refine lv_iload_n hx hb dX12_readStatement_184 rfl (lv_at hl 1 rfl) ?_
          refine lv_bipush (v := nI 98) hx hb dX12_readStatement_185 (by decide) ?_
          refine gn_icmp_eq (tgt := 212) hx hb dX12_readStatement_187 (by decide) (by decide) (by decide) (fun c_187 => absurd c_187 (by decide)) (fun c_187 => ?_)
          refine lv_iload_n hx hb dX12_readStatement_190 rfl (lv_at hl 1 rfl) ?_
          refine lv_bipush (v := nI 97) hx hb dX12_readStatement_191 (by decide) ?_
          refine gn_icmp_eq (tgt := 212) hx hb dX12_readStatement_193 (by decide) (by decide) (by decide) (fun c_193 => absurd c_193 (by decide)) (fun c_193 => ?_)
          refine lv_aload_n hx hb dX12_readStatement_196 rfl (lv_at hl 2 rfl) ?_
          refine lv_bipush (v := nI 32) hx hb dX12_readStatement_197 (by decide) ?_
          refine ctV_V (wf := []) (As := [.int (nI 32)]) (rest := []) (n := 1) hx hb hml hown hts hK hA (ap_nil X) hl.1 (m_recv G X) (c_take hcl ht0 ht1 (σ := (zp (sE (sE (sE (sE σ 21 (σ.1 20) (σ.1 18)) 22 (σ.1 20) 119) 23 (σ.1 20) (zsv σ 110 ((σ.1 18) + 1, 0))) 24 (σ.1 20) (zsv σ 100 (zst σ 32 (zst σ 110 ((σ.1 18) + 1, 0))))) ((zst σ 100 (zst σ 32 (zst σ 110 ((σ.1 18) + 1, 0)))).1) ((zst σ 100 (zst σ 32 (zst σ 110 ((σ.1 18) + 1, 0)))).2))) 32 (show zpOk (zp (sE (sE (sE (sE σ 21 (σ.1 20) (σ.1 18)) 22 (σ.1 20) 119) 23 (σ.1 20) (zsv σ 110 ((σ.1 18) + 1, 0))) 24 (σ.1 20) (zsv σ 100 (zst σ 32 (zst σ 110 ((σ.1 18) + 1, 0))))) ((zst σ 100 (zst σ 32 (zst σ 110 ((σ.1 18) + 1, 0)))).1) ((zst σ 100 (zst σ 32 (zst σ 110 ((σ.1 18) + 1, 0)))).2)) from ⟨q16, q17, (zst_po hby q17 (show zwo 100 by decide) (zst_po hby q17 (show zwo 32 by decide) (zst_po hby q17 (show zwo 110 by decide) (show zpp (σ.1 18 + 1, 0) from ⟨by show σ.1 18 + 1 ≤ 100; omega, by show 0 < 2; decide⟩)))).1, (zst_po hby q17 (show zwo 100 by decide) (zst_po hby q17 (show zwo 32 by decide) (zst_po hby q17 (show zwo 110 by decide) (show zpp (σ.1 18 + 1, 0) from ⟨by show σ.1 18 + 1 ≤ 100; omega, by show 0 < 2; decide⟩)))).2⟩) (by decide)) (cwV 1 hts (mg_V mk_55 mk_71 mk_72 mk_73 mk_43) rfl rfl rfl (by decide +kernel) ⟨Nat.le_of_ble_eq_true rfl, Nat.le_of_ble_eq_true rfl⟩) rfl (Nat.le_of_ble_eq_true rfl) dX12_readStatement_199 ⟨Nat.le_refl _, Nat.le_refl _⟩ (fun H locs X => ?_)
          replace X := ap_nil' X
          replace X := wh_eq (σ' := (zp (sE (sE (sE (sE σ 21 (σ.1 20) (σ.1 18)) 22 (σ.1 20) 119) 23 (σ.1 20) (zsv σ 110 ((σ.1 18) + 1, 0))) 24 (σ.1 20) (zsv σ 100 (zst σ 32 (zst σ 110 ((σ.1 18) + 1, 0))))) ((zst σ 32 (zst σ 100 (zst σ 32 (zst σ 110 ((σ.1 18) + 1, 0))))).1) ((zst σ 32 (zst σ 100 (zst σ 32 (zst σ 110 ((σ.1 18) + 1, 0))))).2))) zp_zp X
          refine lv_aload_n hx hb dX12_readStatement_202 rfl (lv_at hl 2 rfl) ?_
          refine m_geta G X 25 rfl (hwd _ mk_20) rfl dX12_readStatement_203 ?_
          refine lv_iload_n hx hb dX12_readStatement_206 rfl (lv_at hl 0 rfl) ?_
          refine lv_aload_n hx hb dX12_readStatement_207 rfl (lv_at hl 2 rfl) ?_
          refine ctI_V (wf := []) (As := []) (rest := [.int (nI (σ.1 20)), .ref (q 25)]) (n := 0) hx hb hml hown hts hK hA (ap_nil X) hl.1 (m_recv G X) (c_readNumber hcl ht0 ht1 (σ := (zp (sE (sE (sE (sE σ 21 (σ.1 20) (σ.1 18)) 22 (σ.1 20) 119) 23 (σ.1 20) (zsv σ 110 ((σ.1 18) + 1, 0))) 24 (σ.1 20) (zsv σ 100 (zst σ 32 (zst σ 110 ((σ.1 18) + 1, 0))))) ((zst σ 32 (zst σ 100 (zst σ 32 (zst σ 110 ((σ.1 18) + 1, 0))))).1) ((zst σ 32 (zst σ 100 (zst σ 32 (zst σ 110 ((σ.1 18) + 1, 0))))).2))) (show zpOk (zp (sE (sE (sE (sE σ 21 (σ.1 20) (σ.1 18)) 22 (σ.1 20) 119) 23 (σ.1 20) (zsv σ 110 ((σ.1 18) + 1, 0))) 24 (σ.1 20) (zsv σ 100 (zst σ 32 (zst σ 110 ((σ.1 18) + 1, 0))))) ((zst σ 32 (zst σ 100 (zst σ 32 (zst σ 110 ((σ.1 18) + 1, 0))))).1) ((zst σ 32 (zst σ 100 (zst σ 32 (zst σ 110 ((σ.1 18) + 1, 0))))).2)) from ⟨q16, q17, (zst_po hby q17 (show zwo 32 by decide) (zst_po hby q17 (show zwo 100 by decide) (zst_po hby q17 (show zwo 32 by decide) (zst_po hby q17 (show zwo 110 by decide) (show zpp (σ.1 18 + 1, 0) from ⟨by show σ.1 18 + 1 ≤ 100; omega, by show 0 < 2; decide⟩))))).1, (zst_po hby q17 (show zwo 32 by decide) (zst_po hby q17 (show zwo 100 by decide) (zst_po hby q17 (show zwo 32 by decide) (zst_po hby q17 (show zwo 110 by decide) (show zpp (σ.1 18 + 1, 0) from ⟨by show σ.1 18 + 1 ≤ 100; omega, by show 0 < 2; decide⟩))))).2⟩) (show zby8 (zp (sE (sE (sE (sE σ 21 (σ.1 20) (σ.1 18)) 22 (σ.1 20) 119) 23 (σ.1 20) (zsv σ 110 ((σ.1 18) + 1, 0))) 24 (σ.1 20) (zsv σ 100 (zst σ 32 (zst σ 110 ((σ.1 18) + 1, 0))))) ((zst σ 32 (zst σ 100 (zst σ 32 (zst σ 110 ((σ.1 18) + 1, 0))))).1) ((zst σ 32 (zst σ 100 (zst σ 32 (zst σ 110 ((σ.1 18) + 1, 0))))).2)) from hby)) (cwV 0 hts (mg_V mk_63 mk_68 mk_69 mk_70 mk_43) rfl rfl rfl (by decide +kernel) ⟨Nat.le_of_ble_eq_true rfl, Nat.le_of_ble_eq_true rfl⟩) rfl (Nat.le_of_ble_eq_true rfl) dX12_readStatement_208 ⟨Nat.le_refl _, Nat.le_refl _⟩ (fun H locs X => ?_)
          replace X := ap_nil' X
          refine gi_raw (y := nI (zsv σ 110 (zst σ 32 (zst σ 100 (zst σ 32 (zst σ 110 ((σ.1 18) + 1, 0))))))) rfl ?_
          replace X := wh_eq (σ' := (zp (sE (sE (sE (sE σ 21 (σ.1 20) (σ.1 18)) 22 (σ.1 20) 119) 23 (σ.1 20) (zsv σ 110 ((σ.1 18) + 1, 0))) 24 (σ.1 20) (zsv σ 100 (zst σ 32 (zst σ 110 ((σ.1 18) + 1, 0))))) ((zst σ 110 (zst σ 32 (zst σ 100 (zst σ 32 (zst σ 110 ((σ.1 18) + 1, 0)))))).1) ((zst σ 110 (zst σ 32 (zst σ 100 (zst σ 32 (zst σ 110 ((σ.1 18) + 1, 0)))))).2))) zp_zp X
          refine m_iast G X 25 rfl (i := (σ.1 20)) (v := (zsv σ 110 (zst σ 32 (zst σ 100 (zst σ 32 (zst σ 110 ((σ.1 18) + 1, 0))))))) (by show _ < 50; omega) (by omega) dX12_readStatement_211 (fun H locs X => ?_)
          replace X := wh_eq (σ' := (zp (sE (sE (sE (sE (sE σ 21 (σ.1 20) (σ.1 18)) 22 (σ.1 20) 119) 23 (σ.1 20) (zsv σ 110 ((σ.1 18) + 1, 0))) 24 (σ.1 20) (zsv σ 100 (zst σ 32 (zst σ 110 ((σ.1 18) + 1, 0))))) 25 (σ.1 20) (zsv σ 110 (zst σ 32 (zst σ 100 (zst σ 32 (zst σ 110 ((σ.1 18) + 1, 0))))))) ((zst σ 110 (zst σ 32 (zst σ 100 (zst σ 32 (zst σ 110 ((σ.1 18) + 1, 0)))))).1) ((zst σ 110 (zst σ 32 (zst σ 100 (zst σ 32 (zst σ 110 ((σ.1 18) + 1, 0)))))).2))) rfl X
          refine lv_aload_n hx hb dX12_readStatement_212 rfl (lv_at hl 2 rfl) ?_
          refine lv_bipush (v := nI 59) hx hb dX12_readStatement_213 (by decide) ?_
          refine ctV_V (wf := []) (As := [.int (nI 59)]) (rest := []) (n := 1) hx hb hml hown hts hK hA (ap_nil X) hl.1 (m_recv G X) (c_take hcl ht0 ht1 (σ := (zp (sE (sE (sE (sE (sE σ 21 (σ.1 20) (σ.1 18)) 22 (σ.1 20) 119) 23 (σ.1 20) (zsv σ 110 ((σ.1 18) + 1, 0))) 24 (σ.1 20) (zsv σ 100 (zst σ 32 (zst σ 110 ((σ.1 18) + 1, 0))))) 25 (σ.1 20) (zsv σ 110 (zst σ 32 (zst σ 100 (zst σ 32 (zst σ 110 ((σ.1 18) + 1, 0))))))) ((zst σ 110 (zst σ 32 (zst σ 100 (zst σ 32 (zst σ 110 ((σ.1 18) + 1, 0)))))).1) ((zst σ 110 (zst σ 32 (zst σ 100 (zst σ 32 (zst σ 110 ((σ.1 18) + 1, 0)))))).2))) 59 (show zpOk (zp (sE (sE (sE (sE (sE σ 21 (σ.1 20) (σ.1 18)) 22 (σ.1 20) 119) 23 (σ.1 20) (zsv σ 110 ((σ.1 18) + 1, 0))) 24 (σ.1 20) (zsv σ 100 (zst σ 32 (zst σ 110 ((σ.1 18) + 1, 0))))) 25 (σ.1 20) (zsv σ 110 (zst σ 32 (zst σ 100 (zst σ 32 (zst σ 110 ((σ.1 18) + 1, 0))))))) ((zst σ 110 (zst σ 32 (zst σ 100 (zst σ 32 (zst σ 110 ((σ.1 18) + 1, 0)))))).1) ((zst σ 110 (zst σ 32 (zst σ 100 (zst σ 32 (zst σ 110 ((σ.1 18) + 1, 0)))))).2)) from ⟨q16, q17, (zst_po hby q17 (show zwo 110 by decide) (zst_po hby q17 (show zwo 32 by decide) (zst_po hby q17 (show zwo 100 by decide) (zst_po hby q17 (show zwo 32 by decide) (zst_po hby q17 (show zwo 110 by decide) (show zpp (σ.1 18 + 1, 0) from ⟨by show σ.1 18 + 1 ≤ 100; omega, by show 0 < 2; decide⟩)))))).1, (zst_po hby q17 (show zwo 110 by decide) (zst_po hby q17 (show zwo 32 by decide) (zst_po hby q17 (show zwo 100 by decide) (zst_po hby q17 (show zwo 32 by decide) (zst_po hby q17 (show zwo 110 by decide) (show zpp (σ.1 18 + 1, 0) from ⟨by show σ.1 18 + 1 ≤ 100; omega, by show 0 < 2; decide⟩)))))).2⟩) (by decide)) (cwV 1 hts (mg_V mk_55 mk_71 mk_72 mk_73 mk_43) rfl rfl rfl (by decide +kernel) ⟨Nat.le_of_ble_eq_true rfl, Nat.le_of_ble_eq_true rfl⟩) rfl (Nat.le_of_ble_eq_true rfl) dX12_readStatement_215 ⟨Nat.le_refl _, Nat.le_refl _⟩ (fun H locs X => ?_)
          replace X := ap_nil' X
          replace X := wh_eq (σ' := (zp (sE (sE (sE (sE (sE σ 21 (σ.1 20) (σ.1 18)) 22 (σ.1 20) 119) 23 (σ.1 20) (zsv σ 110 ((σ.1 18) + 1, 0))) 24 (σ.1 20) (zsv σ 100 (zst σ 32 (zst σ 110 ((σ.1 18) + 1, 0))))) 25 (σ.1 20) (zsv σ 110 (zst σ 32 (zst σ 100 (zst σ 32 (zst σ 110 ((σ.1 18) + 1, 0))))))) ((zst σ 59 (zst σ 110 (zst σ 32 (zst σ 100 (zst σ 32 (zst σ 110 ((σ.1 18) + 1, 0))))))).1) ((zst σ 59 (zst σ 110 (zst σ 32 (zst σ 100 (zst σ 32 (zst σ 110 ((σ.1 18) + 1, 0))))))).2))) zp_zp X
          refine lv_aload_n hx hb dX12_readStatement_218 rfl (lv_at hl 2 rfl) ?_
          refine lv_dup hx hb dX12_readStatement_219 rfl ?_
          refine m_geti G X 20 rfl (hwd _ mk_67) rfl dX12_readStatement_220 ?_
          refine gi_eq (a := (σ.1 20)) rfl ?_
          refine lv_iconst (v := nI 1) hx hb dX12_readStatement_223 (by decide) ?_
          refine gn_iadd hx hb dX12_readStatement_224  ?_
          refine m_puti G X 20 rfl (hwd _ mk_67) rfl (ty := .int) (by decide +kernel) rfl rfl dX12_readStatement_225 (fun H locs X => ?_)
          exact fin _ _ _ _ (sF (zp (sE (sE (sE (sE (sE σ 21 (σ.1 20) (σ.1 18)) 22 (σ.1 20) 119) 23 (σ.1 20) (zsv σ 110 ((σ.1 18) + 1, 0))) 24 (σ.1 20) (zsv σ 100 (zst σ 32 (zst σ 110 ((σ.1 18) + 1, 0))))) 25 (σ.1 20) (zsv σ 110 (zst σ 32 (zst σ 100 (zst σ 32 (zst σ 110 ((σ.1 18) + 1, 0))))))) ((zst σ 59 (zst σ 110 (zst σ 32 (zst σ 100 (zst σ 32 (zst σ 110 ((σ.1 18) + 1, 0))))))).1) ((zst σ 59 (zst σ 110 (zst σ 32 (zst σ 100 (zst σ 32 (zst σ 110 ((σ.1 18) + 1, 0))))))).2)) 20 ((σ.1 20) + 1)) (zrs_main (S := (sE (sE (sE (sE (sE σ 21 (σ.1 20) (σ.1 18)) 22 (σ.1 20) 119) 23 (σ.1 20) (zsv σ 110 ((σ.1 18) + 1, 0))) 24 (σ.1 20) (zsv σ 100 (zst σ 32 (zst σ 110 ((σ.1 18) + 1, 0))))) 25 (σ.1 20) (zsv σ 110 (zst σ 32 (zst σ 100 (zst σ 32 (zst σ 110 ((σ.1 18) + 1, 0)))))))) (P := (zst σ 59 (zst σ 110 (zst σ 32 (zst σ 100 (zst σ 32 (zst σ 110 ((σ.1 18) + 1, 0)))))))) (c := 119) (L := [110, 32, 100, 32, 110, 59]) hby hpo e_119 (by decide) (by decide) (by decide) (by decide) (by decide) (zfr_E (zfr_E (zfr_E (zfr_E (zfr_E zfr_0 (by decide) (by decide)) (by decide) (by decide)) (by decide) (by decide)) (by decide) (by decide)) (by decide) (by decide)) rfl (zst_po hby q17 (show zwo 59 by decide) (zst_po hby q17 (show zwo 110 by decide) (zst_po hby q17 (show zwo 32 by decide) (zst_po hby q17 (show zwo 100 by decide) (zst_po hby q17 (show zwo 32 by decide) (zst_po hby q17 (show zwo 110 by decide) (show zpp (σ.1 18 + 1, 0) from ⟨by show σ.1 18 + 1 ≤ 100; omega, by show 0 < 2; decide⟩))))))) (show (sE (sE (sE (sE (sE σ 21 (σ.1 20) (σ.1 18)) 22 (σ.1 20) 119) 23 (σ.1 20) (zsv σ 110 ((σ.1 18) + 1, 0))) 24 (σ.1 20) (zsv σ 100 (zst σ 32 (zst σ 110 ((σ.1 18) + 1, 0))))) 25 (σ.1 20) (zsv σ 110 (zst σ 32 (zst σ 100 (zst σ 32 (zst σ 110 ((σ.1 18) + 1, 0))))))).2 21 (σ.1 20) = σ.1 18 from sE_att (S := σ) (k := 21) (i := σ.1 20)) (show (sE (sE (sE (sE (sE σ 21 (σ.1 20) (σ.1 18)) 22 (σ.1 20) 119) 23 (σ.1 20) (zsv σ 110 ((σ.1 18) + 1, 0))) 24 (σ.1 20) (zsv σ 100 (zst σ 32 (zst σ 110 ((σ.1 18) + 1, 0))))) 25 (σ.1 20) (zsv σ 110 (zst σ 32 (zst σ 100 (zst σ 32 (zst σ 110 ((σ.1 18) + 1, 0))))))).2 22 (σ.1 20) = 119 from sE_att (S := (sE σ 21 (σ.1 20) (σ.1 18))) (k := 22) (i := σ.1 20)) (fun _ => ⟨by rw [(show (sE (sE (sE (sE (sE σ 21 (σ.1 20) (σ.1 18)) 22 (σ.1 20) 119) 23 (σ.1 20) (zsv σ 110 ((σ.1 18) + 1, 0))) 24 (σ.1 20) (zsv σ 100 (zst σ 32 (zst σ 110 ((σ.1 18) + 1, 0))))) 25 (σ.1 20) (zsv σ 110 (zst σ 32 (zst σ 100 (zst σ 32 (zst σ 110 ((σ.1 18) + 1, 0))))))).2 23 (σ.1 20) = zsv σ 110 ((σ.1 18) + 1, 0) from sE_att (S := (sE (sE σ 21 (σ.1 20) (σ.1 18)) 22 (σ.1 20) 119)) (k := 23) (i := σ.1 20))]; exact (zsv_lt hby).2, Or.inl ⟨by decide, by rw [(show (sE (sE (sE (sE (sE σ 21 (σ.1 20) (σ.1 18)) 22 (σ.1 20) 119) 23 (σ.1 20) (zsv σ 110 ((σ.1 18) + 1, 0))) 24 (σ.1 20) (zsv σ 100 (zst σ 32 (zst σ 110 ((σ.1 18) + 1, 0))))) 25 (σ.1 20) (zsv σ 110 (zst σ 32 (zst σ 100 (zst σ 32 (zst σ 110 ((σ.1 18) + 1, 0))))))).2 24 (σ.1 20) = zsv σ 100 (zst σ 32 (zst σ 110 ((σ.1 18) + 1, 0))) from sE_att (S := (sE (sE (sE σ 21 (σ.1 20) (σ.1 18)) 22 (σ.1 20) 119) 23 (σ.1 20) (zsv σ 110 ((σ.1 18) + 1, 0)))) (k := 24) (i := σ.1 20))]; exact (zsv_lt hby).1, by rw [(show (sE (sE (sE (sE (sE σ 21 (σ.1 20) (σ.1 18)) 22 (σ.1 20) 119) 23 (σ.1 20) (zsv σ 110 ((σ.1 18) + 1, 0))) 24 (σ.1 20) (zsv σ 100 (zst σ 32 (zst σ 110 ((σ.1 18) + 1, 0))))) 25 (σ.1 20) (zsv σ 110 (zst σ 32 (zst σ 100 (zst σ 32 (zst σ 110 ((σ.1 18) + 1, 0))))))).2 25 (σ.1 20) = zsv σ 110 (zst σ 32 (zst σ 100 (zst σ 32 (zst σ 110 ((σ.1 18) + 1, 0))))) from sE_att (S := (sE (sE (sE (sE σ 21 (σ.1 20) (σ.1 18)) 22 (σ.1 20) 119) 23 (σ.1 20) (zsv σ 110 ((σ.1 18) + 1, 0))) 24 (σ.1 20) (zsv σ 100 (zst σ 32 (zst σ 110 ((σ.1 18) + 1, 0)))))) (k := 25) (i := σ.1 20))]; exact (zsv_lt hby).2, fun t => ⟨(show (sE (sE (sE (sE (sE σ 21 (σ.1 20) (σ.1 18)) 22 (σ.1 20) 119) 23 (σ.1 20) (zsv σ 110 ((σ.1 18) + 1, 0))) 24 (σ.1 20) (zsv σ 100 (zst σ 32 (zst σ 110 ((σ.1 18) + 1, 0))))) 25 (σ.1 20) (zsv σ 110 (zst σ 32 (zst σ 100 (zst σ 32 (zst σ 110 ((σ.1 18) + 1, 0))))))).2 23 (σ.1 20) = zsv σ 110 ((σ.1 18) + 1, 0) from sE_att (S := (sE (sE σ 21 (σ.1 20) (σ.1 18)) 22 (σ.1 20) 119)) (k := 23) (i := σ.1 20)).symm, (show (sE (sE (sE (sE (sE σ 21 (σ.1 20) (σ.1 18)) 22 (σ.1 20) 119) 23 (σ.1 20) (zsv σ 110 ((σ.1 18) + 1, 0))) 24 (σ.1 20) (zsv σ 100 (zst σ 32 (zst σ 110 ((σ.1 18) + 1, 0))))) 25 (σ.1 20) (zsv σ 110 (zst σ 32 (zst σ 100 (zst σ 32 (zst σ 110 ((σ.1 18) + 1, 0))))))).2 24 (σ.1 20) = zsv σ 100 (zst σ 32 (zst σ 110 ((σ.1 18) + 1, 0))) from sE_att (S := (sE (sE (sE σ 21 (σ.1 20) (σ.1 18)) 22 (σ.1 20) 119) 23 (σ.1 20) (zsv σ 110 ((σ.1 18) + 1, 0)))) (k := 24) (i := σ.1 20)).symm, (show (sE (sE (sE (sE (sE σ 21 (σ.1 20) (σ.1 18)) 22 (σ.1 20) 119) 23 (σ.1 20) (zsv σ 110 ((σ.1 18) + 1, 0))) 24 (σ.1 20) (zsv σ 100 (zst σ 32 (zst σ 110 ((σ.1 18) + 1, 0))))) 25 (σ.1 20) (zsv σ 110 (zst σ 32 (zst σ 100 (zst σ 32 (zst σ 110 ((σ.1 18) + 1, 0))))))).2 25 (σ.1 20) = zsv σ 110 (zst σ 32 (zst σ 100 (zst σ 32 (zst σ 110 ((σ.1 18) + 1, 0))))) from sE_att (S := (sE (sE (sE (sE σ 21 (σ.1 20) (σ.1 18)) 22 (σ.1 20) 119) 23 (σ.1 20) (zsv σ 110 ((σ.1 18) + 1, 0))) 24 (σ.1 20) (zsv σ 100 (zst σ 32 (zst σ 110 ((σ.1 18) + 1, 0)))))) (k := 25) (i := σ.1 20)).symm⟩⟩⟩)) X dX12_readStatement_228
      · exact absurd c_102 (by decide)
    · exact absurd c_81 (by decide)
  by_cases e_115 : zch σ (σ.1 18) = 115
  ·
    refine gi_eq (a := 115) e_115 ?_
    have hlt9 : σ.1 18 < σ.1 17 := zch_in2 (by omega)
    refine lv_istore_n (lv' := [(1, .int (nI 115)), (0, .ref o)]) hx hb dX12_readStatement_4 rfl hl (by decide) rfl (fun ls hl => ?_)
    refine lv_aload_n hx hb dX12_readStatement_5 rfl (lv_at hl 1 rfl) ?_
    refine m_geti G X 20 rfl (hwd _ mk_67) rfl dX12_readStatement_6 ?_
    refine gi_eq (a := (σ.1 20)) rfl ?_
    refine lv_istore_n (lv' := [(2, .int (nI (σ.1 20))), (1, .int (nI 115)), (0, .ref o)]) hx hb dX12_readStatement_9 rfl hl (by decide) rfl (fun ls hl => ?_)
    refine lv_aload_n hx hb dX12_readStatement_10 rfl (lv_at hl 2 rfl) ?_
    refine lv_iload_n hx hb dX12_readStatement_11 rfl (lv_at hl 1 rfl) ?_
    refine lv_bipush (v := nI 114) hx hb dX12_readStatement_12 (by decide) ?_
    refine gn_icmp_eq (tgt := 51) hx hb dX12_readStatement_14 (by decide) (by decide) (by decide) (fun c_14 => absurd c_14 (by decide)) (fun c_14 => ?_)
    refine lv_iload_n hx hb dX12_readStatement_17 rfl (lv_at hl 1 rfl) ?_
    refine lv_bipush (v := nI 119) hx hb dX12_readStatement_18 (by decide) ?_
    refine gn_icmp_eq (tgt := 51) hx hb dX12_readStatement_20 (by decide) (by decide) (by decide) (fun c_20 => absurd c_20 (by decide)) (fun c_20 => ?_)
    refine lv_iload_n hx hb dX12_readStatement_23 rfl (lv_at hl 1 rfl) ?_
    refine lv_bipush (v := nI 115) hx hb dX12_readStatement_24 (by decide) ?_
    refine gn_icmp_eq (tgt := 51) hx hb dX12_readStatement_26 (by decide) (by decide) (by decide) (fun c_26 => ?_) (fun c_26 => absurd c_26 (by decide))
    refine lv_iconst (v := nI 0) hx hb dX12_readStatement_51 (by decide) ?_
    refine m_puti G X 19 rfl (hwd _ mk_56) rfl (ty := .boolean) (by decide +kernel) (zb_nar (by omega)) (zb_fit (by omega)) dX12_readStatement_52 (fun H locs X => ?_)
    replace X := wh_eq (zp_F19 (x := 0)) X
    refine lv_aload_n hx hb dX12_readStatement_55 rfl (lv_at hl 2 rfl) ?_
    refine m_geta G X 21 rfl (hwd _ mk_16) rfl dX12_readStatement_56 ?_
    refine lv_iload_n hx hb dX12_readStatement_59 rfl (lv_at hl 0 rfl) ?_
    refine lv_aload_n hx hb dX12_readStatement_60 rfl (lv_at hl 2 rfl) ?_
    refine m_geti G X 18 rfl (hwd _ mk_52) rfl dX12_readStatement_61 ?_
    refine gi_eq (a := (σ.1 18)) rfl ?_
    refine m_iast G X 21 rfl (i := (σ.1 20)) (v := (σ.1 18)) (by show _ < 50; omega) (by omega) dX12_readStatement_64 (fun H locs X => ?_)
    replace X := wh_eq (σ' := (zp (sE σ 21 (σ.1 20) (σ.1 18)) (σ.1 18) 0)) rfl X
    refine lv_aload_n hx hb dX12_readStatement_65 rfl (lv_at hl 2 rfl) ?_
    refine m_geta G X 22 rfl (hwd _ mk_17) rfl dX12_readStatement_66 ?_
    refine lv_iload_n hx hb dX12_readStatement_69 rfl (lv_at hl 0 rfl) ?_
    refine lv_iload_n hx hb dX12_readStatement_70 rfl (lv_at hl 1 rfl) ?_
    refine m_iast G X 22 rfl (i := (σ.1 20)) (v := 115) (by show _ < 50; omega) (by omega) dX12_readStatement_71 (fun H locs X => ?_)
    replace X := wh_eq (σ' := (zp (sE (sE σ 21 (σ.1 20) (σ.1 18)) 22 (σ.1 20) 115) (σ.1 18) 0)) rfl X
    refine lv_aload_n hx hb dX12_readStatement_72 rfl (lv_at hl 2 rfl) ?_
    refine lv_dup hx hb dX12_readStatement_73 rfl ?_
    refine m_geti G X 18 rfl (hwd _ mk_52) rfl dX12_readStatement_74 ?_
    refine gi_eq (a := (σ.1 18)) rfl ?_
    refine lv_aload_n hx hb dX12_readStatement_77 rfl (lv_at hl 2 rfl) ?_
    refine m_geti G X 19 rfl (hwd _ mk_56) rfl dX12_readStatement_78 ?_
    refine gi_eq (a := 0) rfl ?_
    refine gn_if_eq (tgt := 88) hx hb dX12_readStatement_81 (by decide) (by omega) (fun c_81 => ?_) (fun c_81 => ?_)
    ·
      refine lv_iconst (v := nI 1) hx hb dX12_readStatement_88 (by decide) ?_
      refine gn_iadd hx hb dX12_readStatement_89  ?_
      refine m_puti G X 18 rfl (hwd _ mk_52) rfl (ty := .int) (by decide +kernel) rfl rfl dX12_readStatement_90 (fun H locs X => ?_)
      replace X := wh_eq (zp_F18 (x := ((σ.1 18) + 1))) X
      refine lv_aload_n hx hb dX12_readStatement_93 rfl (lv_at hl 2 rfl) ?_
      refine m_geta G X 23 rfl (hwd _ mk_18) rfl dX12_readStatement_94 ?_
      refine lv_iload_n hx hb dX12_readStatement_97 rfl (lv_at hl 0 rfl) ?_
      refine lv_aload_n hx hb dX12_readStatement_98 rfl (lv_at hl 2 rfl) ?_
      refine m_geti G X 19 rfl (hwd _ mk_56) rfl dX12_readStatement_99 ?_
      refine gi_eq (a := 0) rfl ?_
      refine gn_if_eq (tgt := 109) hx hb dX12_readStatement_102 (by decide) (by omega) (fun c_102 => ?_) (fun c_102 => ?_)
      ·
        refine lv_iload_n hx hb dX12_readStatement_109 rfl (lv_at hl 1 rfl) ?_
        refine lv_bipush (v := nI 119) hx hb dX12_readStatement_110 (by decide) ?_
        refine gn_icmp_eq (tgt := 121) hx hb dX12_readStatement_112 (by decide) (by decide) (by decide) (fun c_112 => absurd c_112 (by decide)) (fun c_112 => ?_)
        refine lv_iload_n hx hb dX12_readStatement_115 rfl (lv_at hl 1 rfl) ?_
        refine lv_bipush (v := nI 97) hx hb dX12_readStatement_116 (by decide) ?_
        refine gn_icmp_ne (tgt := 128) hx hb dX12_readStatement_118 (by decide) (by decide) (by decide) (fun c_118 => ?_) (fun c_118 => absurd c_118 (by decide))
        refine lv_aload_n hx hb dX12_readStatement_128 rfl (lv_at hl 2 rfl) ?_
        refine ctI_V (wf := []) (As := []) (rest := [.int (nI (σ.1 20)), .ref (q 23)]) (n := 0) hx hb hml hown hts hK hA (ap_nil X) hl.1 (m_recv G X) (c_readDigit hcl ht0 ht1 (σ := (zp (sE (sE σ 21 (σ.1 20) (σ.1 18)) 22 (σ.1 20) 115) ((σ.1 18) + 1) 0)) (show zpOk (zp (sE (sE σ 21 (σ.1 20) (σ.1 18)) 22 (σ.1 20) 115) ((σ.1 18) + 1) 0) from ⟨q16, q17, (show zpp (σ.1 18 + 1, 0) from ⟨by show σ.1 18 + 1 ≤ 100; omega, by show 0 < 2; decide⟩).1, (show zpp (σ.1 18 + 1, 0) from ⟨by show σ.1 18 + 1 ≤ 100; omega, by show 0 < 2; decide⟩).2⟩) (show zby8 (zp (sE (sE σ 21 (σ.1 20) (σ.1 18)) 22 (σ.1 20) 115) ((σ.1 18) + 1) 0) from hby)) (cwV 0 hts (mg_V mk_60 mk_64 mk_65 mk_66 mk_43) rfl rfl rfl (by decide +kernel) ⟨Nat.le_of_ble_eq_true rfl, Nat.le_of_ble_eq_true rfl⟩) rfl (Nat.le_of_ble_eq_true rfl) dX12_readStatement_129 ⟨Nat.le_refl _, Nat.le_refl _⟩ (fun H locs X => ?_)
        replace X := ap_nil' X
        refine gi_raw (y := nI (zsv σ 100 ((σ.1 18) + 1, 0))) rfl ?_
        replace X := wh_eq (σ' := (zp (sE (sE σ 21 (σ.1 20) (σ.1 18)) 22 (σ.1 20) 115) ((zst σ 100 ((σ.1 18) + 1, 0)).1) ((zst σ 100 ((σ.1 18) + 1, 0)).2))) zp_zp X
        refine m_iast G X 23 rfl (i := (σ.1 20)) (v := (zsv σ 100 ((σ.1 18) + 1, 0))) (by show _ < 50; omega) (by omega) dX12_readStatement_132 (fun H locs X => ?_)
        replace X := wh_eq (σ' := (zp (sE (sE (sE σ 21 (σ.1 20) (σ.1 18)) 22 (σ.1 20) 115) 23 (σ.1 20) (zsv σ 100 ((σ.1 18) + 1, 0))) ((zst σ 100 ((σ.1 18) + 1, 0)).1) ((zst σ 100 ((σ.1 18) + 1, 0)).2))) rfl X
        refine lv_iload_n hx hb dX12_readStatement_133 rfl (lv_at hl 1 rfl) ?_
        refine lv_bipush (v := nI 114) hx hb dX12_readStatement_134 (by decide) ?_
        refine gn_icmp_eq (tgt := 145) hx hb dX12_readStatement_136 (by decide) (by decide) (by decide) (fun c_136 => absurd c_136 (by decide)) (fun c_136 => ?_)
        refine lv_iload_n hx hb dX12_readStatement_139 rfl (lv_at hl 1 rfl) ?_
        refine lv_bipush (v := nI 109) hx hb dX12_readStatement_140 (by decide) ?_
        refine gn_icmp_ne (tgt := 155) hx hb dX12_readStatement_142 (by decide) (by decide) (by decide) (fun c_142 => ?_) (fun c_142 => absurd c_142 (by decide))
        refine lv_iload_n hx hb dX12_readStatement_155 rfl (lv_at hl 1 rfl) ?_
        refine lv_bipush (v := nI 119) hx hb dX12_readStatement_156 (by decide) ?_
        refine gn_icmp_ne (tgt := 177) hx hb dX12_readStatement_158 (by decide) (by decide) (by decide) (fun c_158 => ?_) (fun c_158 => absurd c_158 (by decide))
        refine lv_aload_n hx hb dX12_readStatement_177 rfl (lv_at hl 2 rfl) ?_
        refine m_geti G X 19 rfl (hwd _ mk_56) rfl dX12_readStatement_178 ?_
        refine gi_eq (a := ((zst σ 100 ((σ.1 18) + 1, 0)).2)) rfl ?_
        have hb9 : (zst σ 100 ((σ.1 18) + 1, 0)).2 < 2 := (zst_po hby q17 (show zwo 100 by decide) (show zpp (σ.1 18 + 1, 0) from ⟨by show σ.1 18 + 1 ≤ 100; omega, by show 0 < 2; decide⟩)).2
        refine gn_if_ne (tgt := 212) hx hb dX12_readStatement_181 (by decide) (by omega) (fun c_181 => ?_) (fun c_181 => ?_)
        ·
          refine lv_aload_n hx hb dX12_readStatement_212 rfl (lv_at hl 2 rfl) ?_
          refine lv_bipush (v := nI 59) hx hb dX12_readStatement_213 (by decide) ?_
          refine ctV_V (wf := []) (As := [.int (nI 59)]) (rest := []) (n := 1) hx hb hml hown hts hK hA (ap_nil X) hl.1 (m_recv G X) (c_take hcl ht0 ht1 (σ := (zp (sE (sE (sE σ 21 (σ.1 20) (σ.1 18)) 22 (σ.1 20) 115) 23 (σ.1 20) (zsv σ 100 ((σ.1 18) + 1, 0))) ((zst σ 100 ((σ.1 18) + 1, 0)).1) ((zst σ 100 ((σ.1 18) + 1, 0)).2))) 59 (show zpOk (zp (sE (sE (sE σ 21 (σ.1 20) (σ.1 18)) 22 (σ.1 20) 115) 23 (σ.1 20) (zsv σ 100 ((σ.1 18) + 1, 0))) ((zst σ 100 ((σ.1 18) + 1, 0)).1) ((zst σ 100 ((σ.1 18) + 1, 0)).2)) from ⟨q16, q17, (zst_po hby q17 (show zwo 100 by decide) (show zpp (σ.1 18 + 1, 0) from ⟨by show σ.1 18 + 1 ≤ 100; omega, by show 0 < 2; decide⟩)).1, (zst_po hby q17 (show zwo 100 by decide) (show zpp (σ.1 18 + 1, 0) from ⟨by show σ.1 18 + 1 ≤ 100; omega, by show 0 < 2; decide⟩)).2⟩) (by decide)) (cwV 1 hts (mg_V mk_55 mk_71 mk_72 mk_73 mk_43) rfl rfl rfl (by decide +kernel) ⟨Nat.le_of_ble_eq_true rfl, Nat.le_of_ble_eq_true rfl⟩) rfl (Nat.le_of_ble_eq_true rfl) dX12_readStatement_215 ⟨Nat.le_refl _, Nat.le_refl _⟩ (fun H locs X => ?_)
          replace X := ap_nil' X
          replace X := wh_eq (σ' := (zp (sE (sE (sE σ 21 (σ.1 20) (σ.1 18)) 22 (σ.1 20) 115) 23 (σ.1 20) (zsv σ 100 ((σ.1 18) + 1, 0))) ((zst σ 59 (zst σ 100 ((σ.1 18) + 1, 0))).1) ((zst σ 59 (zst σ 100 ((σ.1 18) + 1, 0))).2))) zp_zp X
          refine lv_aload_n hx hb dX12_readStatement_218 rfl (lv_at hl 2 rfl) ?_
          refine lv_dup hx hb dX12_readStatement_219 rfl ?_
          refine m_geti G X 20 rfl (hwd _ mk_67) rfl dX12_readStatement_220 ?_
          refine gi_eq (a := (σ.1 20)) rfl ?_
          refine lv_iconst (v := nI 1) hx hb dX12_readStatement_223 (by decide) ?_
          refine gn_iadd hx hb dX12_readStatement_224  ?_
          refine m_puti G X 20 rfl (hwd _ mk_67) rfl (ty := .int) (by decide +kernel) rfl rfl dX12_readStatement_225 (fun H locs X => ?_)
          exact fin _ _ _ _ (sF (zp (sE (sE (sE σ 21 (σ.1 20) (σ.1 18)) 22 (σ.1 20) 115) 23 (σ.1 20) (zsv σ 100 ((σ.1 18) + 1, 0))) ((zst σ 59 (zst σ 100 ((σ.1 18) + 1, 0))).1) ((zst σ 59 (zst σ 100 ((σ.1 18) + 1, 0))).2)) 20 ((σ.1 20) + 1)) (zrs_main (S := (sE (sE (sE σ 21 (σ.1 20) (σ.1 18)) 22 (σ.1 20) 115) 23 (σ.1 20) (zsv σ 100 ((σ.1 18) + 1, 0)))) (P := (zst σ 59 (zst σ 100 ((σ.1 18) + 1, 0)))) (c := 115) (L := [100, 32, 110, 59]) hby hpo e_115 (by decide) (by decide) (by decide) (by decide) (by decide) (zfr_E (zfr_E (zfr_E zfr_0 (by decide) (by decide)) (by decide) (by decide)) (by decide) (by decide)) (zfd_skip (w := 32) (l := [110, 59]) (Nat.ne_of_gt c_181)) (zst_po hby q17 (show zwo 59 by decide) (zst_po hby q17 (show zwo 100 by decide) (show zpp (σ.1 18 + 1, 0) from ⟨by show σ.1 18 + 1 ≤ 100; omega, by show 0 < 2; decide⟩))) (show (sE (sE (sE σ 21 (σ.1 20) (σ.1 18)) 22 (σ.1 20) 115) 23 (σ.1 20) (zsv σ 100 ((σ.1 18) + 1, 0))).2 21 (σ.1 20) = σ.1 18 from sE_att (S := σ) (k := 21) (i := σ.1 20)) (show (sE (sE (sE σ 21 (σ.1 20) (σ.1 18)) 22 (σ.1 20) 115) 23 (σ.1 20) (zsv σ 100 ((σ.1 18) + 1, 0))).2 22 (σ.1 20) = 115 from sE_att (S := (sE σ 21 (σ.1 20) (σ.1 18))) (k := 22) (i := σ.1 20)) (fun h9 => absurd h9 (zst_bad2 (Nat.ne_of_gt c_181)))) X dX12_readStatement_228
        ·
          refine lv_iload_n hx hb dX12_readStatement_184 rfl (lv_at hl 1 rfl) ?_
          refine lv_bipush (v := nI 98) hx hb dX12_readStatement_185 (by decide) ?_
          refine gn_icmp_eq (tgt := 212) hx hb dX12_readStatement_187 (by decide) (by decide) (by decide) (fun c_187 => absurd c_187 (by decide)) (fun c_187 => ?_)
          refine lv_iload_n hx hb dX12_readStatement_190 rfl (lv_at hl 1 rfl) ?_
          refine lv_bipush (v := nI 97) hx hb dX12_readStatement_191 (by decide) ?_
          refine gn_icmp_eq (tgt := 212) hx hb dX12_readStatement_193 (by decide) (by decide) (by decide) (fun c_193 => absurd c_193 (by decide)) (fun c_193 => ?_)
          refine lv_aload_n hx hb dX12_readStatement_196 rfl (lv_at hl 2 rfl) ?_
          refine lv_bipush (v := nI 32) hx hb dX12_readStatement_197 (by decide) ?_
          refine ctV_V (wf := []) (As := [.int (nI 32)]) (rest := []) (n := 1) hx hb hml hown hts hK hA (ap_nil X) hl.1 (m_recv G X) (c_take hcl ht0 ht1 (σ := (zp (sE (sE (sE σ 21 (σ.1 20) (σ.1 18)) 22 (σ.1 20) 115) 23 (σ.1 20) (zsv σ 100 ((σ.1 18) + 1, 0))) ((zst σ 100 ((σ.1 18) + 1, 0)).1) ((zst σ 100 ((σ.1 18) + 1, 0)).2))) 32 (show zpOk (zp (sE (sE (sE σ 21 (σ.1 20) (σ.1 18)) 22 (σ.1 20) 115) 23 (σ.1 20) (zsv σ 100 ((σ.1 18) + 1, 0))) ((zst σ 100 ((σ.1 18) + 1, 0)).1) ((zst σ 100 ((σ.1 18) + 1, 0)).2)) from ⟨q16, q17, (zst_po hby q17 (show zwo 100 by decide) (show zpp (σ.1 18 + 1, 0) from ⟨by show σ.1 18 + 1 ≤ 100; omega, by show 0 < 2; decide⟩)).1, (zst_po hby q17 (show zwo 100 by decide) (show zpp (σ.1 18 + 1, 0) from ⟨by show σ.1 18 + 1 ≤ 100; omega, by show 0 < 2; decide⟩)).2⟩) (by decide)) (cwV 1 hts (mg_V mk_55 mk_71 mk_72 mk_73 mk_43) rfl rfl rfl (by decide +kernel) ⟨Nat.le_of_ble_eq_true rfl, Nat.le_of_ble_eq_true rfl⟩) rfl (Nat.le_of_ble_eq_true rfl) dX12_readStatement_199 ⟨Nat.le_refl _, Nat.le_refl _⟩ (fun H locs X => ?_)
          replace X := ap_nil' X
          replace X := wh_eq (σ' := (zp (sE (sE (sE σ 21 (σ.1 20) (σ.1 18)) 22 (σ.1 20) 115) 23 (σ.1 20) (zsv σ 100 ((σ.1 18) + 1, 0))) ((zst σ 32 (zst σ 100 ((σ.1 18) + 1, 0))).1) ((zst σ 32 (zst σ 100 ((σ.1 18) + 1, 0))).2))) zp_zp X
          refine lv_aload_n hx hb dX12_readStatement_202 rfl (lv_at hl 2 rfl) ?_
          refine m_geta G X 25 rfl (hwd _ mk_20) rfl dX12_readStatement_203 ?_
          refine lv_iload_n hx hb dX12_readStatement_206 rfl (lv_at hl 0 rfl) ?_
          refine lv_aload_n hx hb dX12_readStatement_207 rfl (lv_at hl 2 rfl) ?_
          refine ctI_V (wf := []) (As := []) (rest := [.int (nI (σ.1 20)), .ref (q 25)]) (n := 0) hx hb hml hown hts hK hA (ap_nil X) hl.1 (m_recv G X) (c_readNumber hcl ht0 ht1 (σ := (zp (sE (sE (sE σ 21 (σ.1 20) (σ.1 18)) 22 (σ.1 20) 115) 23 (σ.1 20) (zsv σ 100 ((σ.1 18) + 1, 0))) ((zst σ 32 (zst σ 100 ((σ.1 18) + 1, 0))).1) ((zst σ 32 (zst σ 100 ((σ.1 18) + 1, 0))).2))) (show zpOk (zp (sE (sE (sE σ 21 (σ.1 20) (σ.1 18)) 22 (σ.1 20) 115) 23 (σ.1 20) (zsv σ 100 ((σ.1 18) + 1, 0))) ((zst σ 32 (zst σ 100 ((σ.1 18) + 1, 0))).1) ((zst σ 32 (zst σ 100 ((σ.1 18) + 1, 0))).2)) from ⟨q16, q17, (zst_po hby q17 (show zwo 32 by decide) (zst_po hby q17 (show zwo 100 by decide) (show zpp (σ.1 18 + 1, 0) from ⟨by show σ.1 18 + 1 ≤ 100; omega, by show 0 < 2; decide⟩))).1, (zst_po hby q17 (show zwo 32 by decide) (zst_po hby q17 (show zwo 100 by decide) (show zpp (σ.1 18 + 1, 0) from ⟨by show σ.1 18 + 1 ≤ 100; omega, by show 0 < 2; decide⟩))).2⟩) (show zby8 (zp (sE (sE (sE σ 21 (σ.1 20) (σ.1 18)) 22 (σ.1 20) 115) 23 (σ.1 20) (zsv σ 100 ((σ.1 18) + 1, 0))) ((zst σ 32 (zst σ 100 ((σ.1 18) + 1, 0))).1) ((zst σ 32 (zst σ 100 ((σ.1 18) + 1, 0))).2)) from hby)) (cwV 0 hts (mg_V mk_63 mk_68 mk_69 mk_70 mk_43) rfl rfl rfl (by decide +kernel) ⟨Nat.le_of_ble_eq_true rfl, Nat.le_of_ble_eq_true rfl⟩) rfl (Nat.le_of_ble_eq_true rfl) dX12_readStatement_208 ⟨Nat.le_refl _, Nat.le_refl _⟩ (fun H locs X => ?_)
          replace X := ap_nil' X
          refine gi_raw (y := nI (zsv σ 110 (zst σ 32 (zst σ 100 ((σ.1 18) + 1, 0))))) rfl ?_
          replace X := wh_eq (σ' := (zp (sE (sE (sE σ 21 (σ.1 20) (σ.1 18)) 22 (σ.1 20) 115) 23 (σ.1 20) (zsv σ 100 ((σ.1 18) + 1, 0))) ((zst σ 110 (zst σ 32 (zst σ 100 ((σ.1 18) + 1, 0)))).1) ((zst σ 110 (zst σ 32 (zst σ 100 ((σ.1 18) + 1, 0)))).2))) zp_zp X
          refine m_iast G X 25 rfl (i := (σ.1 20)) (v := (zsv σ 110 (zst σ 32 (zst σ 100 ((σ.1 18) + 1, 0))))) (by show _ < 50; omega) (by omega) dX12_readStatement_211 (fun H locs X => ?_)
          replace X := wh_eq (σ' := (zp (sE (sE (sE (sE σ 21 (σ.1 20) (σ.1 18)) 22 (σ.1 20) 115) 23 (σ.1 20) (zsv σ 100 ((σ.1 18) + 1, 0))) 25 (σ.1 20) (zsv σ 110 (zst σ 32 (zst σ 100 ((σ.1 18) + 1, 0))))) ((zst σ 110 (zst σ 32 (zst σ 100 ((σ.1 18) + 1, 0)))).1) ((zst σ 110 (zst σ 32 (zst σ 100 ((σ.1 18) + 1, 0)))).2))) rfl X
          refine lv_aload_n hx hb dX12_readStatement_212 rfl (lv_at hl 2 rfl) ?_
          refine lv_bipush (v := nI 59) hx hb dX12_readStatement_213 (by decide) ?_
          refine ctV_V (wf := []) (As := [.int (nI 59)]) (rest := []) (n := 1) hx hb hml hown hts hK hA (ap_nil X) hl.1 (m_recv G X) (c_take hcl ht0 ht1 (σ := (zp (sE (sE (sE (sE σ 21 (σ.1 20) (σ.1 18)) 22 (σ.1 20) 115) 23 (σ.1 20) (zsv σ 100 ((σ.1 18) + 1, 0))) 25 (σ.1 20) (zsv σ 110 (zst σ 32 (zst σ 100 ((σ.1 18) + 1, 0))))) ((zst σ 110 (zst σ 32 (zst σ 100 ((σ.1 18) + 1, 0)))).1) ((zst σ 110 (zst σ 32 (zst σ 100 ((σ.1 18) + 1, 0)))).2))) 59 (show zpOk (zp (sE (sE (sE (sE σ 21 (σ.1 20) (σ.1 18)) 22 (σ.1 20) 115) 23 (σ.1 20) (zsv σ 100 ((σ.1 18) + 1, 0))) 25 (σ.1 20) (zsv σ 110 (zst σ 32 (zst σ 100 ((σ.1 18) + 1, 0))))) ((zst σ 110 (zst σ 32 (zst σ 100 ((σ.1 18) + 1, 0)))).1) ((zst σ 110 (zst σ 32 (zst σ 100 ((σ.1 18) + 1, 0)))).2)) from ⟨q16, q17, (zst_po hby q17 (show zwo 110 by decide) (zst_po hby q17 (show zwo 32 by decide) (zst_po hby q17 (show zwo 100 by decide) (show zpp (σ.1 18 + 1, 0) from ⟨by show σ.1 18 + 1 ≤ 100; omega, by show 0 < 2; decide⟩)))).1, (zst_po hby q17 (show zwo 110 by decide) (zst_po hby q17 (show zwo 32 by decide) (zst_po hby q17 (show zwo 100 by decide) (show zpp (σ.1 18 + 1, 0) from ⟨by show σ.1 18 + 1 ≤ 100; omega, by show 0 < 2; decide⟩)))).2⟩) (by decide)) (cwV 1 hts (mg_V mk_55 mk_71 mk_72 mk_73 mk_43) rfl rfl rfl (by decide +kernel) ⟨Nat.le_of_ble_eq_true rfl, Nat.le_of_ble_eq_true rfl⟩) rfl (Nat.le_of_ble_eq_true rfl) dX12_readStatement_215 ⟨Nat.le_refl _, Nat.le_refl _⟩ (fun H locs X => ?_)
          replace X := ap_nil' X
          replace X := wh_eq (σ' := (zp (sE (sE (sE (sE σ 21 (σ.1 20) (σ.1 18)) 22 (σ.1 20) 115) 23 (σ.1 20) (zsv σ 100 ((σ.1 18) + 1, 0))) 25 (σ.1 20) (zsv σ 110 (zst σ 32 (zst σ 100 ((σ.1 18) + 1, 0))))) ((zst σ 59 (zst σ 110 (zst σ 32 (zst σ 100 ((σ.1 18) + 1, 0))))).1) ((zst σ 59 (zst σ 110 (zst σ 32 (zst σ 100 ((σ.1 18) + 1, 0))))).2))) zp_zp X
          refine lv_aload_n hx hb dX12_readStatement_218 rfl (lv_at hl 2 rfl) ?_
          refine lv_dup hx hb dX12_readStatement_219 rfl ?_
          refine m_geti G X 20 rfl (hwd _ mk_67) rfl dX12_readStatement_220 ?_
          refine gi_eq (a := (σ.1 20)) rfl ?_
          refine lv_iconst (v := nI 1) hx hb dX12_readStatement_223 (by decide) ?_
          refine gn_iadd hx hb dX12_readStatement_224  ?_
          refine m_puti G X 20 rfl (hwd _ mk_67) rfl (ty := .int) (by decide +kernel) rfl rfl dX12_readStatement_225 (fun H locs X => ?_)
          exact fin _ _ _ _ (sF (zp (sE (sE (sE (sE σ 21 (σ.1 20) (σ.1 18)) 22 (σ.1 20) 115) 23 (σ.1 20) (zsv σ 100 ((σ.1 18) + 1, 0))) 25 (σ.1 20) (zsv σ 110 (zst σ 32 (zst σ 100 ((σ.1 18) + 1, 0))))) ((zst σ 59 (zst σ 110 (zst σ 32 (zst σ 100 ((σ.1 18) + 1, 0))))).1) ((zst σ 59 (zst σ 110 (zst σ 32 (zst σ 100 ((σ.1 18) + 1, 0))))).2)) 20 ((σ.1 20) + 1)) (zrs_main (S := (sE (sE (sE (sE σ 21 (σ.1 20) (σ.1 18)) 22 (σ.1 20) 115) 23 (σ.1 20) (zsv σ 100 ((σ.1 18) + 1, 0))) 25 (σ.1 20) (zsv σ 110 (zst σ 32 (zst σ 100 ((σ.1 18) + 1, 0)))))) (P := (zst σ 59 (zst σ 110 (zst σ 32 (zst σ 100 ((σ.1 18) + 1, 0)))))) (c := 115) (L := [100, 32, 110, 59]) hby hpo e_115 (by decide) (by decide) (by decide) (by decide) (by decide) (zfr_E (zfr_E (zfr_E (zfr_E zfr_0 (by decide) (by decide)) (by decide) (by decide)) (by decide) (by decide)) (by decide) (by decide)) rfl (zst_po hby q17 (show zwo 59 by decide) (zst_po hby q17 (show zwo 110 by decide) (zst_po hby q17 (show zwo 32 by decide) (zst_po hby q17 (show zwo 100 by decide) (show zpp (σ.1 18 + 1, 0) from ⟨by show σ.1 18 + 1 ≤ 100; omega, by show 0 < 2; decide⟩))))) (show (sE (sE (sE (sE σ 21 (σ.1 20) (σ.1 18)) 22 (σ.1 20) 115) 23 (σ.1 20) (zsv σ 100 ((σ.1 18) + 1, 0))) 25 (σ.1 20) (zsv σ 110 (zst σ 32 (zst σ 100 ((σ.1 18) + 1, 0))))).2 21 (σ.1 20) = σ.1 18 from sE_att (S := σ) (k := 21) (i := σ.1 20)) (show (sE (sE (sE (sE σ 21 (σ.1 20) (σ.1 18)) 22 (σ.1 20) 115) 23 (σ.1 20) (zsv σ 100 ((σ.1 18) + 1, 0))) 25 (σ.1 20) (zsv σ 110 (zst σ 32 (zst σ 100 ((σ.1 18) + 1, 0))))).2 22 (σ.1 20) = 115 from sE_att (S := (sE σ 21 (σ.1 20) (σ.1 18))) (k := 22) (i := σ.1 20)) (fun _ => ⟨by rw [(show (sE (sE (sE (sE σ 21 (σ.1 20) (σ.1 18)) 22 (σ.1 20) 115) 23 (σ.1 20) (zsv σ 100 ((σ.1 18) + 1, 0))) 25 (σ.1 20) (zsv σ 110 (zst σ 32 (zst σ 100 ((σ.1 18) + 1, 0))))).2 23 (σ.1 20) = zsv σ 100 ((σ.1 18) + 1, 0) from sE_att (S := (sE (sE σ 21 (σ.1 20) (σ.1 18)) 22 (σ.1 20) 115)) (k := 23) (i := σ.1 20))]; exact Nat.lt_trans (zsv_lt hby).1 (by decide), Or.inr (Or.inl ⟨by decide, by rw [(show (sE (sE (sE (sE σ 21 (σ.1 20) (σ.1 18)) 22 (σ.1 20) 115) 23 (σ.1 20) (zsv σ 100 ((σ.1 18) + 1, 0))) 25 (σ.1 20) (zsv σ 110 (zst σ 32 (zst σ 100 ((σ.1 18) + 1, 0))))).2 25 (σ.1 20) = zsv σ 110 (zst σ 32 (zst σ 100 ((σ.1 18) + 1, 0))) from sE_att (S := (sE (sE (sE σ 21 (σ.1 20) (σ.1 18)) 22 (σ.1 20) 115) 23 (σ.1 20) (zsv σ 100 ((σ.1 18) + 1, 0)))) (k := 25) (i := σ.1 20))]; exact (zsv_lt hby).2, fun t => ⟨(show (sE (sE (sE (sE σ 21 (σ.1 20) (σ.1 18)) 22 (σ.1 20) 115) 23 (σ.1 20) (zsv σ 100 ((σ.1 18) + 1, 0))) 25 (σ.1 20) (zsv σ 110 (zst σ 32 (zst σ 100 ((σ.1 18) + 1, 0))))).2 23 (σ.1 20) = zsv σ 100 ((σ.1 18) + 1, 0) from sE_att (S := (sE (sE σ 21 (σ.1 20) (σ.1 18)) 22 (σ.1 20) 115)) (k := 23) (i := σ.1 20)).symm, (show (sE (sE (sE (sE σ 21 (σ.1 20) (σ.1 18)) 22 (σ.1 20) 115) 23 (σ.1 20) (zsv σ 100 ((σ.1 18) + 1, 0))) 25 (σ.1 20) (zsv σ 110 (zst σ 32 (zst σ 100 ((σ.1 18) + 1, 0))))).2 25 (σ.1 20) = zsv σ 110 (zst σ 32 (zst σ 100 ((σ.1 18) + 1, 0))) from sE_att (S := (sE (sE (sE σ 21 (σ.1 20) (σ.1 18)) 22 (σ.1 20) 115) 23 (σ.1 20) (zsv σ 100 ((σ.1 18) + 1, 0)))) (k := 25) (i := σ.1 20)).symm⟩⟩)⟩)) X dX12_readStatement_228
      · exact absurd c_102 (by decide)
    · exact absurd c_81 (by decide)
  by_cases e_109 : zch σ (σ.1 18) = 109
  ·
    refine gi_eq (a := 109) e_109 ?_
    have hlt9 : σ.1 18 < σ.1 17 := zch_in2 (by omega)
    refine lv_istore_n (lv' := [(1, .int (nI 109)), (0, .ref o)]) hx hb dX12_readStatement_4 rfl hl (by decide) rfl (fun ls hl => ?_)
    refine lv_aload_n hx hb dX12_readStatement_5 rfl (lv_at hl 1 rfl) ?_
    refine m_geti G X 20 rfl (hwd _ mk_67) rfl dX12_readStatement_6 ?_
    refine gi_eq (a := (σ.1 20)) rfl ?_
    refine lv_istore_n (lv' := [(2, .int (nI (σ.1 20))), (1, .int (nI 109)), (0, .ref o)]) hx hb dX12_readStatement_9 rfl hl (by decide) rfl (fun ls hl => ?_)
    refine lv_aload_n hx hb dX12_readStatement_10 rfl (lv_at hl 2 rfl) ?_
    refine lv_iload_n hx hb dX12_readStatement_11 rfl (lv_at hl 1 rfl) ?_
    refine lv_bipush (v := nI 114) hx hb dX12_readStatement_12 (by decide) ?_
    refine gn_icmp_eq (tgt := 51) hx hb dX12_readStatement_14 (by decide) (by decide) (by decide) (fun c_14 => absurd c_14 (by decide)) (fun c_14 => ?_)
    refine lv_iload_n hx hb dX12_readStatement_17 rfl (lv_at hl 1 rfl) ?_
    refine lv_bipush (v := nI 119) hx hb dX12_readStatement_18 (by decide) ?_
    refine gn_icmp_eq (tgt := 51) hx hb dX12_readStatement_20 (by decide) (by decide) (by decide) (fun c_20 => absurd c_20 (by decide)) (fun c_20 => ?_)
    refine lv_iload_n hx hb dX12_readStatement_23 rfl (lv_at hl 1 rfl) ?_
    refine lv_bipush (v := nI 115) hx hb dX12_readStatement_24 (by decide) ?_
    refine gn_icmp_eq (tgt := 51) hx hb dX12_readStatement_26 (by decide) (by decide) (by decide) (fun c_26 => absurd c_26 (by decide)) (fun c_26 => ?_)
    refine lv_iload_n hx hb dX12_readStatement_29 rfl (lv_at hl 1 rfl) ?_
    refine lv_bipush (v := nI 109) hx hb dX12_readStatement_30 (by decide) ?_
    refine gn_icmp_eq (tgt := 51) hx hb dX12_readStatement_32 (by decide) (by decide) (by decide) (fun c_32 => ?_) (fun c_32 => absurd c_32 (by decide))
    refine lv_iconst (v := nI 0) hx hb dX12_readStatement_51 (by decide) ?_
    refine m_puti G X 19 rfl (hwd _ mk_56) rfl (ty := .boolean) (by decide +kernel) (zb_nar (by omega)) (zb_fit (by omega)) dX12_readStatement_52 (fun H locs X => ?_)
    replace X := wh_eq (zp_F19 (x := 0)) X
    refine lv_aload_n hx hb dX12_readStatement_55 rfl (lv_at hl 2 rfl) ?_
    refine m_geta G X 21 rfl (hwd _ mk_16) rfl dX12_readStatement_56 ?_
    refine lv_iload_n hx hb dX12_readStatement_59 rfl (lv_at hl 0 rfl) ?_
    refine lv_aload_n hx hb dX12_readStatement_60 rfl (lv_at hl 2 rfl) ?_
    refine m_geti G X 18 rfl (hwd _ mk_52) rfl dX12_readStatement_61 ?_
    refine gi_eq (a := (σ.1 18)) rfl ?_
    refine m_iast G X 21 rfl (i := (σ.1 20)) (v := (σ.1 18)) (by show _ < 50; omega) (by omega) dX12_readStatement_64 (fun H locs X => ?_)
    replace X := wh_eq (σ' := (zp (sE σ 21 (σ.1 20) (σ.1 18)) (σ.1 18) 0)) rfl X
    refine lv_aload_n hx hb dX12_readStatement_65 rfl (lv_at hl 2 rfl) ?_
    refine m_geta G X 22 rfl (hwd _ mk_17) rfl dX12_readStatement_66 ?_
    refine lv_iload_n hx hb dX12_readStatement_69 rfl (lv_at hl 0 rfl) ?_
    refine lv_iload_n hx hb dX12_readStatement_70 rfl (lv_at hl 1 rfl) ?_
    refine m_iast G X 22 rfl (i := (σ.1 20)) (v := 109) (by show _ < 50; omega) (by omega) dX12_readStatement_71 (fun H locs X => ?_)
    replace X := wh_eq (σ' := (zp (sE (sE σ 21 (σ.1 20) (σ.1 18)) 22 (σ.1 20) 109) (σ.1 18) 0)) rfl X
    refine lv_aload_n hx hb dX12_readStatement_72 rfl (lv_at hl 2 rfl) ?_
    refine lv_dup hx hb dX12_readStatement_73 rfl ?_
    refine m_geti G X 18 rfl (hwd _ mk_52) rfl dX12_readStatement_74 ?_
    refine gi_eq (a := (σ.1 18)) rfl ?_
    refine lv_aload_n hx hb dX12_readStatement_77 rfl (lv_at hl 2 rfl) ?_
    refine m_geti G X 19 rfl (hwd _ mk_56) rfl dX12_readStatement_78 ?_
    refine gi_eq (a := 0) rfl ?_
    refine gn_if_eq (tgt := 88) hx hb dX12_readStatement_81 (by decide) (by omega) (fun c_81 => ?_) (fun c_81 => ?_)
    ·
      refine lv_iconst (v := nI 1) hx hb dX12_readStatement_88 (by decide) ?_
      refine gn_iadd hx hb dX12_readStatement_89  ?_
      refine m_puti G X 18 rfl (hwd _ mk_52) rfl (ty := .int) (by decide +kernel) rfl rfl dX12_readStatement_90 (fun H locs X => ?_)
      replace X := wh_eq (zp_F18 (x := ((σ.1 18) + 1))) X
      refine lv_aload_n hx hb dX12_readStatement_93 rfl (lv_at hl 2 rfl) ?_
      refine m_geta G X 23 rfl (hwd _ mk_18) rfl dX12_readStatement_94 ?_
      refine lv_iload_n hx hb dX12_readStatement_97 rfl (lv_at hl 0 rfl) ?_
      refine lv_aload_n hx hb dX12_readStatement_98 rfl (lv_at hl 2 rfl) ?_
      refine m_geti G X 19 rfl (hwd _ mk_56) rfl dX12_readStatement_99 ?_
      refine gi_eq (a := 0) rfl ?_
      refine gn_if_eq (tgt := 109) hx hb dX12_readStatement_102 (by decide) (by omega) (fun c_102 => ?_) (fun c_102 => ?_)
      ·
        refine lv_iload_n hx hb dX12_readStatement_109 rfl (lv_at hl 1 rfl) ?_
        refine lv_bipush (v := nI 119) hx hb dX12_readStatement_110 (by decide) ?_
        refine gn_icmp_eq (tgt := 121) hx hb dX12_readStatement_112 (by decide) (by decide) (by decide) (fun c_112 => absurd c_112 (by decide)) (fun c_112 => ?_)
        refine lv_iload_n hx hb dX12_readStatement_115 rfl (lv_at hl 1 rfl) ?_
        refine lv_bipush (v := nI 97) hx hb dX12_readStatement_116 (by decide) ?_
        refine gn_icmp_ne (tgt := 128) hx hb dX12_readStatement_118 (by decide) (by decide) (by decide) (fun c_118 => ?_) (fun c_118 => absurd c_118 (by decide))
        refine lv_aload_n hx hb dX12_readStatement_128 rfl (lv_at hl 2 rfl) ?_
        refine ctI_V (wf := []) (As := []) (rest := [.int (nI (σ.1 20)), .ref (q 23)]) (n := 0) hx hb hml hown hts hK hA (ap_nil X) hl.1 (m_recv G X) (c_readDigit hcl ht0 ht1 (σ := (zp (sE (sE σ 21 (σ.1 20) (σ.1 18)) 22 (σ.1 20) 109) ((σ.1 18) + 1) 0)) (show zpOk (zp (sE (sE σ 21 (σ.1 20) (σ.1 18)) 22 (σ.1 20) 109) ((σ.1 18) + 1) 0) from ⟨q16, q17, (show zpp (σ.1 18 + 1, 0) from ⟨by show σ.1 18 + 1 ≤ 100; omega, by show 0 < 2; decide⟩).1, (show zpp (σ.1 18 + 1, 0) from ⟨by show σ.1 18 + 1 ≤ 100; omega, by show 0 < 2; decide⟩).2⟩) (show zby8 (zp (sE (sE σ 21 (σ.1 20) (σ.1 18)) 22 (σ.1 20) 109) ((σ.1 18) + 1) 0) from hby)) (cwV 0 hts (mg_V mk_60 mk_64 mk_65 mk_66 mk_43) rfl rfl rfl (by decide +kernel) ⟨Nat.le_of_ble_eq_true rfl, Nat.le_of_ble_eq_true rfl⟩) rfl (Nat.le_of_ble_eq_true rfl) dX12_readStatement_129 ⟨Nat.le_refl _, Nat.le_refl _⟩ (fun H locs X => ?_)
        replace X := ap_nil' X
        refine gi_raw (y := nI (zsv σ 100 ((σ.1 18) + 1, 0))) rfl ?_
        replace X := wh_eq (σ' := (zp (sE (sE σ 21 (σ.1 20) (σ.1 18)) 22 (σ.1 20) 109) ((zst σ 100 ((σ.1 18) + 1, 0)).1) ((zst σ 100 ((σ.1 18) + 1, 0)).2))) zp_zp X
        refine m_iast G X 23 rfl (i := (σ.1 20)) (v := (zsv σ 100 ((σ.1 18) + 1, 0))) (by show _ < 50; omega) (by omega) dX12_readStatement_132 (fun H locs X => ?_)
        replace X := wh_eq (σ' := (zp (sE (sE (sE σ 21 (σ.1 20) (σ.1 18)) 22 (σ.1 20) 109) 23 (σ.1 20) (zsv σ 100 ((σ.1 18) + 1, 0))) ((zst σ 100 ((σ.1 18) + 1, 0)).1) ((zst σ 100 ((σ.1 18) + 1, 0)).2))) rfl X
        refine lv_iload_n hx hb dX12_readStatement_133 rfl (lv_at hl 1 rfl) ?_
        refine lv_bipush (v := nI 114) hx hb dX12_readStatement_134 (by decide) ?_
        refine gn_icmp_eq (tgt := 145) hx hb dX12_readStatement_136 (by decide) (by decide) (by decide) (fun c_136 => absurd c_136 (by decide)) (fun c_136 => ?_)
        refine lv_iload_n hx hb dX12_readStatement_139 rfl (lv_at hl 1 rfl) ?_
        refine lv_bipush (v := nI 109) hx hb dX12_readStatement_140 (by decide) ?_
        refine gn_icmp_ne (tgt := 155) hx hb dX12_readStatement_142 (by decide) (by decide) (by decide) (fun c_142 => absurd c_142 (by decide)) (fun c_142 => ?_)
        refine lv_aload_n hx hb dX12_readStatement_145 rfl (lv_at hl 2 rfl) ?_
        refine m_geta G X 24 rfl (hwd _ mk_19) rfl dX12_readStatement_146 ?_
        refine lv_iload_n hx hb dX12_readStatement_149 rfl (lv_at hl 0 rfl) ?_
        refine lv_aload_n hx hb dX12_readStatement_150 rfl (lv_at hl 2 rfl) ?_
        refine ctI_V (wf := []) (As := []) (rest := [.int (nI (σ.1 20)), .ref (q 24)]) (n := 0) hx hb hml hown hts hK hA (ap_nil X) hl.1 (m_recv G X) (c_readDigit hcl ht0 ht1 (σ := (zp (sE (sE (sE σ 21 (σ.1 20) (σ.1 18)) 22 (σ.1 20) 109) 23 (σ.1 20) (zsv σ 100 ((σ.1 18) + 1, 0))) ((zst σ 100 ((σ.1 18) + 1, 0)).1) ((zst σ 100 ((σ.1 18) + 1, 0)).2))) (show zpOk (zp (sE (sE (sE σ 21 (σ.1 20) (σ.1 18)) 22 (σ.1 20) 109) 23 (σ.1 20) (zsv σ 100 ((σ.1 18) + 1, 0))) ((zst σ 100 ((σ.1 18) + 1, 0)).1) ((zst σ 100 ((σ.1 18) + 1, 0)).2)) from ⟨q16, q17, (zst_po hby q17 (show zwo 100 by decide) (show zpp (σ.1 18 + 1, 0) from ⟨by show σ.1 18 + 1 ≤ 100; omega, by show 0 < 2; decide⟩)).1, (zst_po hby q17 (show zwo 100 by decide) (show zpp (σ.1 18 + 1, 0) from ⟨by show σ.1 18 + 1 ≤ 100; omega, by show 0 < 2; decide⟩)).2⟩) (show zby8 (zp (sE (sE (sE σ 21 (σ.1 20) (σ.1 18)) 22 (σ.1 20) 109) 23 (σ.1 20) (zsv σ 100 ((σ.1 18) + 1, 0))) ((zst σ 100 ((σ.1 18) + 1, 0)).1) ((zst σ 100 ((σ.1 18) + 1, 0)).2)) from hby)) (cwV 0 hts (mg_V mk_60 mk_64 mk_65 mk_66 mk_43) rfl rfl rfl (by decide +kernel) ⟨Nat.le_of_ble_eq_true rfl, Nat.le_of_ble_eq_true rfl⟩) rfl (Nat.le_of_ble_eq_true rfl) dX12_readStatement_151 ⟨Nat.le_refl _, Nat.le_refl _⟩ (fun H locs X => ?_)
        replace X := ap_nil' X
        refine gi_raw (y := nI (zsv σ 100 (zst σ 100 ((σ.1 18) + 1, 0)))) rfl ?_
        replace X := wh_eq (σ' := (zp (sE (sE (sE σ 21 (σ.1 20) (σ.1 18)) 22 (σ.1 20) 109) 23 (σ.1 20) (zsv σ 100 ((σ.1 18) + 1, 0))) ((zst σ 100 (zst σ 100 ((σ.1 18) + 1, 0))).1) ((zst σ 100 (zst σ 100 ((σ.1 18) + 1, 0))).2))) zp_zp X
        refine m_iast G X 24 rfl (i := (σ.1 20)) (v := (zsv σ 100 (zst σ 100 ((σ.1 18) + 1, 0)))) (by show _ < 50; omega) (by omega) dX12_readStatement_154 (fun H locs X => ?_)
        replace X := wh_eq (σ' := (zp (sE (sE (sE (sE σ 21 (σ.1 20) (σ.1 18)) 22 (σ.1 20) 109) 23 (σ.1 20) (zsv σ 100 ((σ.1 18) + 1, 0))) 24 (σ.1 20) (zsv σ 100 (zst σ 100 ((σ.1 18) + 1, 0)))) ((zst σ 100 (zst σ 100 ((σ.1 18) + 1, 0))).1) ((zst σ 100 (zst σ 100 ((σ.1 18) + 1, 0))).2))) rfl X
        refine lv_iload_n hx hb dX12_readStatement_155 rfl (lv_at hl 1 rfl) ?_
        refine lv_bipush (v := nI 119) hx hb dX12_readStatement_156 (by decide) ?_
        refine gn_icmp_ne (tgt := 177) hx hb dX12_readStatement_158 (by decide) (by decide) (by decide) (fun c_158 => ?_) (fun c_158 => absurd c_158 (by decide))
        refine lv_aload_n hx hb dX12_readStatement_177 rfl (lv_at hl 2 rfl) ?_
        refine m_geti G X 19 rfl (hwd _ mk_56) rfl dX12_readStatement_178 ?_
        refine gi_eq (a := ((zst σ 100 (zst σ 100 ((σ.1 18) + 1, 0))).2)) rfl ?_
        have hb9 : (zst σ 100 (zst σ 100 ((σ.1 18) + 1, 0))).2 < 2 := (zst_po hby q17 (show zwo 100 by decide) (zst_po hby q17 (show zwo 100 by decide) (show zpp (σ.1 18 + 1, 0) from ⟨by show σ.1 18 + 1 ≤ 100; omega, by show 0 < 2; decide⟩))).2
        refine gn_if_ne (tgt := 212) hx hb dX12_readStatement_181 (by decide) (by omega) (fun c_181 => ?_) (fun c_181 => ?_)
        ·
          refine lv_aload_n hx hb dX12_readStatement_212 rfl (lv_at hl 2 rfl) ?_
          refine lv_bipush (v := nI 59) hx hb dX12_readStatement_213 (by decide) ?_
          refine ctV_V (wf := []) (As := [.int (nI 59)]) (rest := []) (n := 1) hx hb hml hown hts hK hA (ap_nil X) hl.1 (m_recv G X) (c_take hcl ht0 ht1 (σ := (zp (sE (sE (sE (sE σ 21 (σ.1 20) (σ.1 18)) 22 (σ.1 20) 109) 23 (σ.1 20) (zsv σ 100 ((σ.1 18) + 1, 0))) 24 (σ.1 20) (zsv σ 100 (zst σ 100 ((σ.1 18) + 1, 0)))) ((zst σ 100 (zst σ 100 ((σ.1 18) + 1, 0))).1) ((zst σ 100 (zst σ 100 ((σ.1 18) + 1, 0))).2))) 59 (show zpOk (zp (sE (sE (sE (sE σ 21 (σ.1 20) (σ.1 18)) 22 (σ.1 20) 109) 23 (σ.1 20) (zsv σ 100 ((σ.1 18) + 1, 0))) 24 (σ.1 20) (zsv σ 100 (zst σ 100 ((σ.1 18) + 1, 0)))) ((zst σ 100 (zst σ 100 ((σ.1 18) + 1, 0))).1) ((zst σ 100 (zst σ 100 ((σ.1 18) + 1, 0))).2)) from ⟨q16, q17, (zst_po hby q17 (show zwo 100 by decide) (zst_po hby q17 (show zwo 100 by decide) (show zpp (σ.1 18 + 1, 0) from ⟨by show σ.1 18 + 1 ≤ 100; omega, by show 0 < 2; decide⟩))).1, (zst_po hby q17 (show zwo 100 by decide) (zst_po hby q17 (show zwo 100 by decide) (show zpp (σ.1 18 + 1, 0) from ⟨by show σ.1 18 + 1 ≤ 100; omega, by show 0 < 2; decide⟩))).2⟩) (by decide)) (cwV 1 hts (mg_V mk_55 mk_71 mk_72 mk_73 mk_43) rfl rfl rfl (by decide +kernel) ⟨Nat.le_of_ble_eq_true rfl, Nat.le_of_ble_eq_true rfl⟩) rfl (Nat.le_of_ble_eq_true rfl) dX12_readStatement_215 ⟨Nat.le_refl _, Nat.le_refl _⟩ (fun H locs X => ?_)
          replace X := ap_nil' X
          replace X := wh_eq (σ' := (zp (sE (sE (sE (sE σ 21 (σ.1 20) (σ.1 18)) 22 (σ.1 20) 109) 23 (σ.1 20) (zsv σ 100 ((σ.1 18) + 1, 0))) 24 (σ.1 20) (zsv σ 100 (zst σ 100 ((σ.1 18) + 1, 0)))) ((zst σ 59 (zst σ 100 (zst σ 100 ((σ.1 18) + 1, 0)))).1) ((zst σ 59 (zst σ 100 (zst σ 100 ((σ.1 18) + 1, 0)))).2))) zp_zp X
          refine lv_aload_n hx hb dX12_readStatement_218 rfl (lv_at hl 2 rfl) ?_
          refine lv_dup hx hb dX12_readStatement_219 rfl ?_
          refine m_geti G X 20 rfl (hwd _ mk_67) rfl dX12_readStatement_220 ?_
          refine gi_eq (a := (σ.1 20)) rfl ?_
          refine lv_iconst (v := nI 1) hx hb dX12_readStatement_223 (by decide) ?_
          refine gn_iadd hx hb dX12_readStatement_224  ?_
          refine m_puti G X 20 rfl (hwd _ mk_67) rfl (ty := .int) (by decide +kernel) rfl rfl dX12_readStatement_225 (fun H locs X => ?_)
          exact fin _ _ _ _ (sF (zp (sE (sE (sE (sE σ 21 (σ.1 20) (σ.1 18)) 22 (σ.1 20) 109) 23 (σ.1 20) (zsv σ 100 ((σ.1 18) + 1, 0))) 24 (σ.1 20) (zsv σ 100 (zst σ 100 ((σ.1 18) + 1, 0)))) ((zst σ 59 (zst σ 100 (zst σ 100 ((σ.1 18) + 1, 0)))).1) ((zst σ 59 (zst σ 100 (zst σ 100 ((σ.1 18) + 1, 0)))).2)) 20 ((σ.1 20) + 1)) (zrs_main (S := (sE (sE (sE (sE σ 21 (σ.1 20) (σ.1 18)) 22 (σ.1 20) 109) 23 (σ.1 20) (zsv σ 100 ((σ.1 18) + 1, 0))) 24 (σ.1 20) (zsv σ 100 (zst σ 100 ((σ.1 18) + 1, 0))))) (P := (zst σ 59 (zst σ 100 (zst σ 100 ((σ.1 18) + 1, 0))))) (c := 109) (L := [100, 100, 32, 110, 59]) hby hpo e_109 (by decide) (by decide) (by decide) (by decide) (by decide) (zfr_E (zfr_E (zfr_E (zfr_E zfr_0 (by decide) (by decide)) (by decide) (by decide)) (by decide) (by decide)) (by decide) (by decide)) (zfd_skip (w := 32) (l := [110, 59]) (Nat.ne_of_gt c_181)) (zst_po hby q17 (show zwo 59 by decide) (zst_po hby q17 (show zwo 100 by decide) (zst_po hby q17 (show zwo 100 by decide) (show zpp (σ.1 18 + 1, 0) from ⟨by show σ.1 18 + 1 ≤ 100; omega, by show 0 < 2; decide⟩)))) (show (sE (sE (sE (sE σ 21 (σ.1 20) (σ.1 18)) 22 (σ.1 20) 109) 23 (σ.1 20) (zsv σ 100 ((σ.1 18) + 1, 0))) 24 (σ.1 20) (zsv σ 100 (zst σ 100 ((σ.1 18) + 1, 0)))).2 21 (σ.1 20) = σ.1 18 from sE_att (S := σ) (k := 21) (i := σ.1 20)) (show (sE (sE (sE (sE σ 21 (σ.1 20) (σ.1 18)) 22 (σ.1 20) 109) 23 (σ.1 20) (zsv σ 100 ((σ.1 18) + 1, 0))) 24 (σ.1 20) (zsv σ 100 (zst σ 100 ((σ.1 18) + 1, 0)))).2 22 (σ.1 20) = 109 from sE_att (S := (sE σ 21 (σ.1 20) (σ.1 18))) (k := 22) (i := σ.1 20)) (fun h9 => absurd h9 (zst_bad2 (Nat.ne_of_gt c_181)))) X dX12_readStatement_228
        ·
          refine lv_iload_n hx hb dX12_readStatement_184 rfl (lv_at hl 1 rfl) ?_
          refine lv_bipush (v := nI 98) hx hb dX12_readStatement_185 (by decide) ?_
          refine gn_icmp_eq (tgt := 212) hx hb dX12_readStatement_187 (by decide) (by decide) (by decide) (fun c_187 => absurd c_187 (by decide)) (fun c_187 => ?_)
          refine lv_iload_n hx hb dX12_readStatement_190 rfl (lv_at hl 1 rfl) ?_
          refine lv_bipush (v := nI 97) hx hb dX12_readStatement_191 (by decide) ?_
          refine gn_icmp_eq (tgt := 212) hx hb dX12_readStatement_193 (by decide) (by decide) (by decide) (fun c_193 => absurd c_193 (by decide)) (fun c_193 => ?_)
          refine lv_aload_n hx hb dX12_readStatement_196 rfl (lv_at hl 2 rfl) ?_
          refine lv_bipush (v := nI 32) hx hb dX12_readStatement_197 (by decide) ?_
          refine ctV_V (wf := []) (As := [.int (nI 32)]) (rest := []) (n := 1) hx hb hml hown hts hK hA (ap_nil X) hl.1 (m_recv G X) (c_take hcl ht0 ht1 (σ := (zp (sE (sE (sE (sE σ 21 (σ.1 20) (σ.1 18)) 22 (σ.1 20) 109) 23 (σ.1 20) (zsv σ 100 ((σ.1 18) + 1, 0))) 24 (σ.1 20) (zsv σ 100 (zst σ 100 ((σ.1 18) + 1, 0)))) ((zst σ 100 (zst σ 100 ((σ.1 18) + 1, 0))).1) ((zst σ 100 (zst σ 100 ((σ.1 18) + 1, 0))).2))) 32 (show zpOk (zp (sE (sE (sE (sE σ 21 (σ.1 20) (σ.1 18)) 22 (σ.1 20) 109) 23 (σ.1 20) (zsv σ 100 ((σ.1 18) + 1, 0))) 24 (σ.1 20) (zsv σ 100 (zst σ 100 ((σ.1 18) + 1, 0)))) ((zst σ 100 (zst σ 100 ((σ.1 18) + 1, 0))).1) ((zst σ 100 (zst σ 100 ((σ.1 18) + 1, 0))).2)) from ⟨q16, q17, (zst_po hby q17 (show zwo 100 by decide) (zst_po hby q17 (show zwo 100 by decide) (show zpp (σ.1 18 + 1, 0) from ⟨by show σ.1 18 + 1 ≤ 100; omega, by show 0 < 2; decide⟩))).1, (zst_po hby q17 (show zwo 100 by decide) (zst_po hby q17 (show zwo 100 by decide) (show zpp (σ.1 18 + 1, 0) from ⟨by show σ.1 18 + 1 ≤ 100; omega, by show 0 < 2; decide⟩))).2⟩) (by decide)) (cwV 1 hts (mg_V mk_55 mk_71 mk_72 mk_73 mk_43) rfl rfl rfl (by decide +kernel) ⟨Nat.le_of_ble_eq_true rfl, Nat.le_of_ble_eq_true rfl⟩) rfl (Nat.le_of_ble_eq_true rfl) dX12_readStatement_199 ⟨Nat.le_refl _, Nat.le_refl _⟩ (fun H locs X => ?_)
          replace X := ap_nil' X
          replace X := wh_eq (σ' := (zp (sE (sE (sE (sE σ 21 (σ.1 20) (σ.1 18)) 22 (σ.1 20) 109) 23 (σ.1 20) (zsv σ 100 ((σ.1 18) + 1, 0))) 24 (σ.1 20) (zsv σ 100 (zst σ 100 ((σ.1 18) + 1, 0)))) ((zst σ 32 (zst σ 100 (zst σ 100 ((σ.1 18) + 1, 0)))).1) ((zst σ 32 (zst σ 100 (zst σ 100 ((σ.1 18) + 1, 0)))).2))) zp_zp X
          refine lv_aload_n hx hb dX12_readStatement_202 rfl (lv_at hl 2 rfl) ?_
          refine m_geta G X 25 rfl (hwd _ mk_20) rfl dX12_readStatement_203 ?_
          refine lv_iload_n hx hb dX12_readStatement_206 rfl (lv_at hl 0 rfl) ?_
          refine lv_aload_n hx hb dX12_readStatement_207 rfl (lv_at hl 2 rfl) ?_
          refine ctI_V (wf := []) (As := []) (rest := [.int (nI (σ.1 20)), .ref (q 25)]) (n := 0) hx hb hml hown hts hK hA (ap_nil X) hl.1 (m_recv G X) (c_readNumber hcl ht0 ht1 (σ := (zp (sE (sE (sE (sE σ 21 (σ.1 20) (σ.1 18)) 22 (σ.1 20) 109) 23 (σ.1 20) (zsv σ 100 ((σ.1 18) + 1, 0))) 24 (σ.1 20) (zsv σ 100 (zst σ 100 ((σ.1 18) + 1, 0)))) ((zst σ 32 (zst σ 100 (zst σ 100 ((σ.1 18) + 1, 0)))).1) ((zst σ 32 (zst σ 100 (zst σ 100 ((σ.1 18) + 1, 0)))).2))) (show zpOk (zp (sE (sE (sE (sE σ 21 (σ.1 20) (σ.1 18)) 22 (σ.1 20) 109) 23 (σ.1 20) (zsv σ 100 ((σ.1 18) + 1, 0))) 24 (σ.1 20) (zsv σ 100 (zst σ 100 ((σ.1 18) + 1, 0)))) ((zst σ 32 (zst σ 100 (zst σ 100 ((σ.1 18) + 1, 0)))).1) ((zst σ 32 (zst σ 100 (zst σ 100 ((σ.1 18) + 1, 0)))).2)) from ⟨q16, q17, (zst_po hby q17 (show zwo 32 by decide) (zst_po hby q17 (show zwo 100 by decide) (zst_po hby q17 (show zwo 100 by decide) (show zpp (σ.1 18 + 1, 0) from ⟨by show σ.1 18 + 1 ≤ 100; omega, by show 0 < 2; decide⟩)))).1, (zst_po hby q17 (show zwo 32 by decide) (zst_po hby q17 (show zwo 100 by decide) (zst_po hby q17 (show zwo 100 by decide) (show zpp (σ.1 18 + 1, 0) from ⟨by show σ.1 18 + 1 ≤ 100; omega, by show 0 < 2; decide⟩)))).2⟩) (show zby8 (zp (sE (sE (sE (sE σ 21 (σ.1 20) (σ.1 18)) 22 (σ.1 20) 109) 23 (σ.1 20) (zsv σ 100 ((σ.1 18) + 1, 0))) 24 (σ.1 20) (zsv σ 100 (zst σ 100 ((σ.1 18) + 1, 0)))) ((zst σ 32 (zst σ 100 (zst σ 100 ((σ.1 18) + 1, 0)))).1) ((zst σ 32 (zst σ 100 (zst σ 100 ((σ.1 18) + 1, 0)))).2)) from hby)) (cwV 0 hts (mg_V mk_63 mk_68 mk_69 mk_70 mk_43) rfl rfl rfl (by decide +kernel) ⟨Nat.le_of_ble_eq_true rfl, Nat.le_of_ble_eq_true rfl⟩) rfl (Nat.le_of_ble_eq_true rfl) dX12_readStatement_208 ⟨Nat.le_refl _, Nat.le_refl _⟩ (fun H locs X => ?_)
          replace X := ap_nil' X
          refine gi_raw (y := nI (zsv σ 110 (zst σ 32 (zst σ 100 (zst σ 100 ((σ.1 18) + 1, 0)))))) rfl ?_
          replace X := wh_eq (σ' := (zp (sE (sE (sE (sE σ 21 (σ.1 20) (σ.1 18)) 22 (σ.1 20) 109) 23 (σ.1 20) (zsv σ 100 ((σ.1 18) + 1, 0))) 24 (σ.1 20) (zsv σ 100 (zst σ 100 ((σ.1 18) + 1, 0)))) ((zst σ 110 (zst σ 32 (zst σ 100 (zst σ 100 ((σ.1 18) + 1, 0))))).1) ((zst σ 110 (zst σ 32 (zst σ 100 (zst σ 100 ((σ.1 18) + 1, 0))))).2))) zp_zp X
          refine m_iast G X 25 rfl (i := (σ.1 20)) (v := (zsv σ 110 (zst σ 32 (zst σ 100 (zst σ 100 ((σ.1 18) + 1, 0)))))) (by show _ < 50; omega) (by omega) dX12_readStatement_211 (fun H locs X => ?_)
          replace X := wh_eq (σ' := (zp (sE (sE (sE (sE (sE σ 21 (σ.1 20) (σ.1 18)) 22 (σ.1 20) 109) 23 (σ.1 20) (zsv σ 100 ((σ.1 18) + 1, 0))) 24 (σ.1 20) (zsv σ 100 (zst σ 100 ((σ.1 18) + 1, 0)))) 25 (σ.1 20) (zsv σ 110 (zst σ 32 (zst σ 100 (zst σ 100 ((σ.1 18) + 1, 0)))))) ((zst σ 110 (zst σ 32 (zst σ 100 (zst σ 100 ((σ.1 18) + 1, 0))))).1) ((zst σ 110 (zst σ 32 (zst σ 100 (zst σ 100 ((σ.1 18) + 1, 0))))).2))) rfl X
          refine lv_aload_n hx hb dX12_readStatement_212 rfl (lv_at hl 2 rfl) ?_
          refine lv_bipush (v := nI 59) hx hb dX12_readStatement_213 (by decide) ?_
          refine ctV_V (wf := []) (As := [.int (nI 59)]) (rest := []) (n := 1) hx hb hml hown hts hK hA (ap_nil X) hl.1 (m_recv G X) (c_take hcl ht0 ht1 (σ := (zp (sE (sE (sE (sE (sE σ 21 (σ.1 20) (σ.1 18)) 22 (σ.1 20) 109) 23 (σ.1 20) (zsv σ 100 ((σ.1 18) + 1, 0))) 24 (σ.1 20) (zsv σ 100 (zst σ 100 ((σ.1 18) + 1, 0)))) 25 (σ.1 20) (zsv σ 110 (zst σ 32 (zst σ 100 (zst σ 100 ((σ.1 18) + 1, 0)))))) ((zst σ 110 (zst σ 32 (zst σ 100 (zst σ 100 ((σ.1 18) + 1, 0))))).1) ((zst σ 110 (zst σ 32 (zst σ 100 (zst σ 100 ((σ.1 18) + 1, 0))))).2))) 59 (show zpOk (zp (sE (sE (sE (sE (sE σ 21 (σ.1 20) (σ.1 18)) 22 (σ.1 20) 109) 23 (σ.1 20) (zsv σ 100 ((σ.1 18) + 1, 0))) 24 (σ.1 20) (zsv σ 100 (zst σ 100 ((σ.1 18) + 1, 0)))) 25 (σ.1 20) (zsv σ 110 (zst σ 32 (zst σ 100 (zst σ 100 ((σ.1 18) + 1, 0)))))) ((zst σ 110 (zst σ 32 (zst σ 100 (zst σ 100 ((σ.1 18) + 1, 0))))).1) ((zst σ 110 (zst σ 32 (zst σ 100 (zst σ 100 ((σ.1 18) + 1, 0))))).2)) from ⟨q16, q17, (zst_po hby q17 (show zwo 110 by decide) (zst_po hby q17 (show zwo 32 by decide) (zst_po hby q17 (show zwo 100 by decide) (zst_po hby q17 (show zwo 100 by decide) (show zpp (σ.1 18 + 1, 0) from ⟨by show σ.1 18 + 1 ≤ 100; omega, by show 0 < 2; decide⟩))))).1, (zst_po hby q17 (show zwo 110 by decide) (zst_po hby q17 (show zwo 32 by decide) (zst_po hby q17 (show zwo 100 by decide) (zst_po hby q17 (show zwo 100 by decide) (show zpp (σ.1 18 + 1, 0) from ⟨by show σ.1 18 + 1 ≤ 100; omega, by show 0 < 2; decide⟩))))).2⟩) (by decide)) (cwV 1 hts (mg_V mk_55 mk_71 mk_72 mk_73 mk_43) rfl rfl rfl (by decide +kernel) ⟨Nat.le_of_ble_eq_true rfl, Nat.le_of_ble_eq_true rfl⟩) rfl (Nat.le_of_ble_eq_true rfl) dX12_readStatement_215 ⟨Nat.le_refl _, Nat.le_refl _⟩ (fun H locs X => ?_)
          replace X := ap_nil' X
          replace X := wh_eq (σ' := (zp (sE (sE (sE (sE (sE σ 21 (σ.1 20) (σ.1 18)) 22 (σ.1 20) 109) 23 (σ.1 20) (zsv σ 100 ((σ.1 18) + 1, 0))) 24 (σ.1 20) (zsv σ 100 (zst σ 100 ((σ.1 18) + 1, 0)))) 25 (σ.1 20) (zsv σ 110 (zst σ 32 (zst σ 100 (zst σ 100 ((σ.1 18) + 1, 0)))))) ((zst σ 59 (zst σ 110 (zst σ 32 (zst σ 100 (zst σ 100 ((σ.1 18) + 1, 0)))))).1) ((zst σ 59 (zst σ 110 (zst σ 32 (zst σ 100 (zst σ 100 ((σ.1 18) + 1, 0)))))).2))) zp_zp X
          refine lv_aload_n hx hb dX12_readStatement_218 rfl (lv_at hl 2 rfl) ?_
          refine lv_dup hx hb dX12_readStatement_219 rfl ?_
          refine m_geti G X 20 rfl (hwd _ mk_67) rfl dX12_readStatement_220 ?_
          refine gi_eq (a := (σ.1 20)) rfl ?_
          refine lv_iconst (v := nI 1) hx hb dX12_readStatement_223 (by decide) ?_
          refine gn_iadd hx hb dX12_readStatement_224  ?_
          refine m_puti G X 20 rfl (hwd _ mk_67) rfl (ty := .int) (by decide +kernel) rfl rfl dX12_readStatement_225 (fun H locs X => ?_)
          exact fin _ _ _ _ (sF (zp (sE (sE (sE (sE (sE σ 21 (σ.1 20) (σ.1 18)) 22 (σ.1 20) 109) 23 (σ.1 20) (zsv σ 100 ((σ.1 18) + 1, 0))) 24 (σ.1 20) (zsv σ 100 (zst σ 100 ((σ.1 18) + 1, 0)))) 25 (σ.1 20) (zsv σ 110 (zst σ 32 (zst σ 100 (zst σ 100 ((σ.1 18) + 1, 0)))))) ((zst σ 59 (zst σ 110 (zst σ 32 (zst σ 100 (zst σ 100 ((σ.1 18) + 1, 0)))))).1) ((zst σ 59 (zst σ 110 (zst σ 32 (zst σ 100 (zst σ 100 ((σ.1 18) + 1, 0)))))).2)) 20 ((σ.1 20) + 1)) (zrs_main (S := (sE (sE (sE (sE (sE σ 21 (σ.1 20) (σ.1 18)) 22 (σ.1 20) 109) 23 (σ.1 20) (zsv σ 100 ((σ.1 18) + 1, 0))) 24 (σ.1 20) (zsv σ 100 (zst σ 100 ((σ.1 18) + 1, 0)))) 25 (σ.1 20) (zsv σ 110 (zst σ 32 (zst σ 100 (zst σ 100 ((σ.1 18) + 1, 0))))))) (P := (zst σ 59 (zst σ 110 (zst σ 32 (zst σ 100 (zst σ 100 ((σ.1 18) + 1, 0))))))) (c := 109) (L := [100, 100, 32, 110, 59]) hby hpo e_109 (by decide) (by decide) (by decide) (by decide) (by decide) (zfr_E (zfr_E (zfr_E (zfr_E (zfr_E zfr_0 (by decide) (by decide)) (by decide) (by decide)) (by decide) (by decide)) (by decide) (by decide)) (by decide) (by decide)) rfl (zst_po hby q17 (show zwo 59 by decide) (zst_po hby q17 (show zwo 110 by decide) (zst_po hby q17 (show zwo 32 by decide) (zst_po hby q17 (show zwo 100 by decide) (zst_po hby q17 (show zwo 100 by decide) (show zpp (σ.1 18 + 1, 0) from ⟨by show σ.1 18 + 1 ≤ 100; omega, by show 0 < 2; decide⟩)))))) (show (sE (sE (sE (sE (sE σ 21 (σ.1 20) (σ.1 18)) 22 (σ.1 20) 109) 23 (σ.1 20) (zsv σ 100 ((σ.1 18) + 1, 0))) 24 (σ.1 20) (zsv σ 100 (zst σ 100 ((σ.1 18) + 1, 0)))) 25 (σ.1 20) (zsv σ 110 (zst σ 32 (zst σ 100 (zst σ 100 ((σ.1 18) + 1, 0)))))).2 21 (σ.1 20) = σ.1 18 from sE_att (S := σ) (k := 21) (i := σ.1 20)) (show (sE (sE (sE (sE (sE σ 21 (σ.1 20) (σ.1 18)) 22 (σ.1 20) 109) 23 (σ.1 20) (zsv σ 100 ((σ.1 18) + 1, 0))) 24 (σ.1 20) (zsv σ 100 (zst σ 100 ((σ.1 18) + 1, 0)))) 25 (σ.1 20) (zsv σ 110 (zst σ 32 (zst σ 100 (zst σ 100 ((σ.1 18) + 1, 0)))))).2 22 (σ.1 20) = 109 from sE_att (S := (sE σ 21 (σ.1 20) (σ.1 18))) (k := 22) (i := σ.1 20)) (fun _ => ⟨by rw [(show (sE (sE (sE (sE (sE σ 21 (σ.1 20) (σ.1 18)) 22 (σ.1 20) 109) 23 (σ.1 20) (zsv σ 100 ((σ.1 18) + 1, 0))) 24 (σ.1 20) (zsv σ 100 (zst σ 100 ((σ.1 18) + 1, 0)))) 25 (σ.1 20) (zsv σ 110 (zst σ 32 (zst σ 100 (zst σ 100 ((σ.1 18) + 1, 0)))))).2 23 (σ.1 20) = zsv σ 100 ((σ.1 18) + 1, 0) from sE_att (S := (sE (sE σ 21 (σ.1 20) (σ.1 18)) 22 (σ.1 20) 109)) (k := 23) (i := σ.1 20))]; exact Nat.lt_trans (zsv_lt hby).1 (by decide), Or.inl ⟨by decide, by rw [(show (sE (sE (sE (sE (sE σ 21 (σ.1 20) (σ.1 18)) 22 (σ.1 20) 109) 23 (σ.1 20) (zsv σ 100 ((σ.1 18) + 1, 0))) 24 (σ.1 20) (zsv σ 100 (zst σ 100 ((σ.1 18) + 1, 0)))) 25 (σ.1 20) (zsv σ 110 (zst σ 32 (zst σ 100 (zst σ 100 ((σ.1 18) + 1, 0)))))).2 24 (σ.1 20) = zsv σ 100 (zst σ 100 ((σ.1 18) + 1, 0)) from sE_att (S := (sE (sE (sE σ 21 (σ.1 20) (σ.1 18)) 22 (σ.1 20) 109) 23 (σ.1 20) (zsv σ 100 ((σ.1 18) + 1, 0)))) (k := 24) (i := σ.1 20))]; exact (zsv_lt hby).1, by rw [(show (sE (sE (sE (sE (sE σ 21 (σ.1 20) (σ.1 18)) 22 (σ.1 20) 109) 23 (σ.1 20) (zsv σ 100 ((σ.1 18) + 1, 0))) 24 (σ.1 20) (zsv σ 100 (zst σ 100 ((σ.1 18) + 1, 0)))) 25 (σ.1 20) (zsv σ 110 (zst σ 32 (zst σ 100 (zst σ 100 ((σ.1 18) + 1, 0)))))).2 25 (σ.1 20) = zsv σ 110 (zst σ 32 (zst σ 100 (zst σ 100 ((σ.1 18) + 1, 0)))) from sE_att (S := (sE (sE (sE (sE σ 21 (σ.1 20) (σ.1 18)) 22 (σ.1 20) 109) 23 (σ.1 20) (zsv σ 100 ((σ.1 18) + 1, 0))) 24 (σ.1 20) (zsv σ 100 (zst σ 100 ((σ.1 18) + 1, 0))))) (k := 25) (i := σ.1 20))]; exact (zsv_lt hby).2, fun t => ⟨(show (sE (sE (sE (sE (sE σ 21 (σ.1 20) (σ.1 18)) 22 (σ.1 20) 109) 23 (σ.1 20) (zsv σ 100 ((σ.1 18) + 1, 0))) 24 (σ.1 20) (zsv σ 100 (zst σ 100 ((σ.1 18) + 1, 0)))) 25 (σ.1 20) (zsv σ 110 (zst σ 32 (zst σ 100 (zst σ 100 ((σ.1 18) + 1, 0)))))).2 23 (σ.1 20) = zsv σ 100 ((σ.1 18) + 1, 0) from sE_att (S := (sE (sE σ 21 (σ.1 20) (σ.1 18)) 22 (σ.1 20) 109)) (k := 23) (i := σ.1 20)).symm, (show (sE (sE (sE (sE (sE σ 21 (σ.1 20) (σ.1 18)) 22 (σ.1 20) 109) 23 (σ.1 20) (zsv σ 100 ((σ.1 18) + 1, 0))) 24 (σ.1 20) (zsv σ 100 (zst σ 100 ((σ.1 18) + 1, 0)))) 25 (σ.1 20) (zsv σ 110 (zst σ 32 (zst σ 100 (zst σ 100 ((σ.1 18) + 1, 0)))))).2 24 (σ.1 20) = zsv σ 100 (zst σ 100 ((σ.1 18) + 1, 0)) from sE_att (S := (sE (sE (sE σ 21 (σ.1 20) (σ.1 18)) 22 (σ.1 20) 109) 23 (σ.1 20) (zsv σ 100 ((σ.1 18) + 1, 0)))) (k := 24) (i := σ.1 20)).symm, (show (sE (sE (sE (sE (sE σ 21 (σ.1 20) (σ.1 18)) 22 (σ.1 20) 109) 23 (σ.1 20) (zsv σ 100 ((σ.1 18) + 1, 0))) 24 (σ.1 20) (zsv σ 100 (zst σ 100 ((σ.1 18) + 1, 0)))) 25 (σ.1 20) (zsv σ 110 (zst σ 32 (zst σ 100 (zst σ 100 ((σ.1 18) + 1, 0)))))).2 25 (σ.1 20) = zsv σ 110 (zst σ 32 (zst σ 100 (zst σ 100 ((σ.1 18) + 1, 0)))) from sE_att (S := (sE (sE (sE (sE σ 21 (σ.1 20) (σ.1 18)) 22 (σ.1 20) 109) 23 (σ.1 20) (zsv σ 100 ((σ.1 18) + 1, 0))) 24 (σ.1 20) (zsv σ 100 (zst σ 100 ((σ.1 18) + 1, 0))))) (k := 25) (i := σ.1 20)).symm⟩⟩⟩)) X dX12_readStatement_228
      · exact absurd c_102 (by decide)
    · exact absurd c_81 (by decide)
  by_cases e_98 : zch σ (σ.1 18) = 98
  ·
    refine gi_eq (a := 98) e_98 ?_
    have hlt9 : σ.1 18 < σ.1 17 := zch_in2 (by omega)
    refine lv_istore_n (lv' := [(1, .int (nI 98)), (0, .ref o)]) hx hb dX12_readStatement_4 rfl hl (by decide) rfl (fun ls hl => ?_)
    refine lv_aload_n hx hb dX12_readStatement_5 rfl (lv_at hl 1 rfl) ?_
    refine m_geti G X 20 rfl (hwd _ mk_67) rfl dX12_readStatement_6 ?_
    refine gi_eq (a := (σ.1 20)) rfl ?_
    refine lv_istore_n (lv' := [(2, .int (nI (σ.1 20))), (1, .int (nI 98)), (0, .ref o)]) hx hb dX12_readStatement_9 rfl hl (by decide) rfl (fun ls hl => ?_)
    refine lv_aload_n hx hb dX12_readStatement_10 rfl (lv_at hl 2 rfl) ?_
    refine lv_iload_n hx hb dX12_readStatement_11 rfl (lv_at hl 1 rfl) ?_
    refine lv_bipush (v := nI 114) hx hb dX12_readStatement_12 (by decide) ?_
    refine gn_icmp_eq (tgt := 51) hx hb dX12_readStatement_14 (by decide) (by decide) (by decide) (fun c_14 => absurd c_14 (by decide)) (fun c_14 => ?_)
    refine lv_iload_n hx hb dX12_readStatement_17 rfl (lv_at hl 1 rfl) ?_
    refine lv_bipush (v := nI 119) hx hb dX12_readStatement_18 (by decide) ?_
    refine gn_icmp_eq (tgt := 51) hx hb dX12_readStatement_20 (by decide) (by decide) (by decide) (fun c_20 => absurd c_20 (by decide)) (fun c_20 => ?_)
    refine lv_iload_n hx hb dX12_readStatement_23 rfl (lv_at hl 1 rfl) ?_
    refine lv_bipush (v := nI 115) hx hb dX12_readStatement_24 (by decide) ?_
    refine gn_icmp_eq (tgt := 51) hx hb dX12_readStatement_26 (by decide) (by decide) (by decide) (fun c_26 => absurd c_26 (by decide)) (fun c_26 => ?_)
    refine lv_iload_n hx hb dX12_readStatement_29 rfl (lv_at hl 1 rfl) ?_
    refine lv_bipush (v := nI 109) hx hb dX12_readStatement_30 (by decide) ?_
    refine gn_icmp_eq (tgt := 51) hx hb dX12_readStatement_32 (by decide) (by decide) (by decide) (fun c_32 => absurd c_32 (by decide)) (fun c_32 => ?_)
    refine lv_iload_n hx hb dX12_readStatement_35 rfl (lv_at hl 1 rfl) ?_
    refine lv_bipush (v := nI 98) hx hb dX12_readStatement_36 (by decide) ?_
    refine gn_icmp_eq (tgt := 51) hx hb dX12_readStatement_38 (by decide) (by decide) (by decide) (fun c_38 => ?_) (fun c_38 => absurd c_38 (by decide))
    refine lv_iconst (v := nI 0) hx hb dX12_readStatement_51 (by decide) ?_
    refine m_puti G X 19 rfl (hwd _ mk_56) rfl (ty := .boolean) (by decide +kernel) (zb_nar (by omega)) (zb_fit (by omega)) dX12_readStatement_52 (fun H locs X => ?_)
    replace X := wh_eq (zp_F19 (x := 0)) X
    refine lv_aload_n hx hb dX12_readStatement_55 rfl (lv_at hl 2 rfl) ?_
    refine m_geta G X 21 rfl (hwd _ mk_16) rfl dX12_readStatement_56 ?_
    refine lv_iload_n hx hb dX12_readStatement_59 rfl (lv_at hl 0 rfl) ?_
    refine lv_aload_n hx hb dX12_readStatement_60 rfl (lv_at hl 2 rfl) ?_
    refine m_geti G X 18 rfl (hwd _ mk_52) rfl dX12_readStatement_61 ?_
    refine gi_eq (a := (σ.1 18)) rfl ?_
    refine m_iast G X 21 rfl (i := (σ.1 20)) (v := (σ.1 18)) (by show _ < 50; omega) (by omega) dX12_readStatement_64 (fun H locs X => ?_)
    replace X := wh_eq (σ' := (zp (sE σ 21 (σ.1 20) (σ.1 18)) (σ.1 18) 0)) rfl X
    refine lv_aload_n hx hb dX12_readStatement_65 rfl (lv_at hl 2 rfl) ?_
    refine m_geta G X 22 rfl (hwd _ mk_17) rfl dX12_readStatement_66 ?_
    refine lv_iload_n hx hb dX12_readStatement_69 rfl (lv_at hl 0 rfl) ?_
    refine lv_iload_n hx hb dX12_readStatement_70 rfl (lv_at hl 1 rfl) ?_
    refine m_iast G X 22 rfl (i := (σ.1 20)) (v := 98) (by show _ < 50; omega) (by omega) dX12_readStatement_71 (fun H locs X => ?_)
    replace X := wh_eq (σ' := (zp (sE (sE σ 21 (σ.1 20) (σ.1 18)) 22 (σ.1 20) 98) (σ.1 18) 0)) rfl X
    refine lv_aload_n hx hb dX12_readStatement_72 rfl (lv_at hl 2 rfl) ?_
    refine lv_dup hx hb dX12_readStatement_73 rfl ?_
    refine m_geti G X 18 rfl (hwd _ mk_52) rfl dX12_readStatement_74 ?_
    refine gi_eq (a := (σ.1 18)) rfl ?_
    refine lv_aload_n hx hb dX12_readStatement_77 rfl (lv_at hl 2 rfl) ?_
    refine m_geti G X 19 rfl (hwd _ mk_56) rfl dX12_readStatement_78 ?_
    refine gi_eq (a := 0) rfl ?_
    refine gn_if_eq (tgt := 88) hx hb dX12_readStatement_81 (by decide) (by omega) (fun c_81 => ?_) (fun c_81 => ?_)
    ·
      refine lv_iconst (v := nI 1) hx hb dX12_readStatement_88 (by decide) ?_
      refine gn_iadd hx hb dX12_readStatement_89  ?_
      refine m_puti G X 18 rfl (hwd _ mk_52) rfl (ty := .int) (by decide +kernel) rfl rfl dX12_readStatement_90 (fun H locs X => ?_)
      replace X := wh_eq (zp_F18 (x := ((σ.1 18) + 1))) X
      refine lv_aload_n hx hb dX12_readStatement_93 rfl (lv_at hl 2 rfl) ?_
      refine m_geta G X 23 rfl (hwd _ mk_18) rfl dX12_readStatement_94 ?_
      refine lv_iload_n hx hb dX12_readStatement_97 rfl (lv_at hl 0 rfl) ?_
      refine lv_aload_n hx hb dX12_readStatement_98 rfl (lv_at hl 2 rfl) ?_
      refine m_geti G X 19 rfl (hwd _ mk_56) rfl dX12_readStatement_99 ?_
      refine gi_eq (a := 0) rfl ?_
      refine gn_if_eq (tgt := 109) hx hb dX12_readStatement_102 (by decide) (by omega) (fun c_102 => ?_) (fun c_102 => ?_)
      ·
        refine lv_iload_n hx hb dX12_readStatement_109 rfl (lv_at hl 1 rfl) ?_
        refine lv_bipush (v := nI 119) hx hb dX12_readStatement_110 (by decide) ?_
        refine gn_icmp_eq (tgt := 121) hx hb dX12_readStatement_112 (by decide) (by decide) (by decide) (fun c_112 => absurd c_112 (by decide)) (fun c_112 => ?_)
        refine lv_iload_n hx hb dX12_readStatement_115 rfl (lv_at hl 1 rfl) ?_
        refine lv_bipush (v := nI 97) hx hb dX12_readStatement_116 (by decide) ?_
        refine gn_icmp_ne (tgt := 128) hx hb dX12_readStatement_118 (by decide) (by decide) (by decide) (fun c_118 => ?_) (fun c_118 => absurd c_118 (by decide))
        refine lv_aload_n hx hb dX12_readStatement_128 rfl (lv_at hl 2 rfl) ?_
        refine ctI_V (wf := []) (As := []) (rest := [.int (nI (σ.1 20)), .ref (q 23)]) (n := 0) hx hb hml hown hts hK hA (ap_nil X) hl.1 (m_recv G X) (c_readDigit hcl ht0 ht1 (σ := (zp (sE (sE σ 21 (σ.1 20) (σ.1 18)) 22 (σ.1 20) 98) ((σ.1 18) + 1) 0)) (show zpOk (zp (sE (sE σ 21 (σ.1 20) (σ.1 18)) 22 (σ.1 20) 98) ((σ.1 18) + 1) 0) from ⟨q16, q17, (show zpp (σ.1 18 + 1, 0) from ⟨by show σ.1 18 + 1 ≤ 100; omega, by show 0 < 2; decide⟩).1, (show zpp (σ.1 18 + 1, 0) from ⟨by show σ.1 18 + 1 ≤ 100; omega, by show 0 < 2; decide⟩).2⟩) (show zby8 (zp (sE (sE σ 21 (σ.1 20) (σ.1 18)) 22 (σ.1 20) 98) ((σ.1 18) + 1) 0) from hby)) (cwV 0 hts (mg_V mk_60 mk_64 mk_65 mk_66 mk_43) rfl rfl rfl (by decide +kernel) ⟨Nat.le_of_ble_eq_true rfl, Nat.le_of_ble_eq_true rfl⟩) rfl (Nat.le_of_ble_eq_true rfl) dX12_readStatement_129 ⟨Nat.le_refl _, Nat.le_refl _⟩ (fun H locs X => ?_)
        replace X := ap_nil' X
        refine gi_raw (y := nI (zsv σ 100 ((σ.1 18) + 1, 0))) rfl ?_
        replace X := wh_eq (σ' := (zp (sE (sE σ 21 (σ.1 20) (σ.1 18)) 22 (σ.1 20) 98) ((zst σ 100 ((σ.1 18) + 1, 0)).1) ((zst σ 100 ((σ.1 18) + 1, 0)).2))) zp_zp X
        refine m_iast G X 23 rfl (i := (σ.1 20)) (v := (zsv σ 100 ((σ.1 18) + 1, 0))) (by show _ < 50; omega) (by omega) dX12_readStatement_132 (fun H locs X => ?_)
        replace X := wh_eq (σ' := (zp (sE (sE (sE σ 21 (σ.1 20) (σ.1 18)) 22 (σ.1 20) 98) 23 (σ.1 20) (zsv σ 100 ((σ.1 18) + 1, 0))) ((zst σ 100 ((σ.1 18) + 1, 0)).1) ((zst σ 100 ((σ.1 18) + 1, 0)).2))) rfl X
        refine lv_iload_n hx hb dX12_readStatement_133 rfl (lv_at hl 1 rfl) ?_
        refine lv_bipush (v := nI 114) hx hb dX12_readStatement_134 (by decide) ?_
        refine gn_icmp_eq (tgt := 145) hx hb dX12_readStatement_136 (by decide) (by decide) (by decide) (fun c_136 => absurd c_136 (by decide)) (fun c_136 => ?_)
        refine lv_iload_n hx hb dX12_readStatement_139 rfl (lv_at hl 1 rfl) ?_
        refine lv_bipush (v := nI 109) hx hb dX12_readStatement_140 (by decide) ?_
        refine gn_icmp_ne (tgt := 155) hx hb dX12_readStatement_142 (by decide) (by decide) (by decide) (fun c_142 => ?_) (fun c_142 => absurd c_142 (by decide))
        refine lv_iload_n hx hb dX12_readStatement_155 rfl (lv_at hl 1 rfl) ?_
        refine lv_bipush (v := nI 119) hx hb dX12_readStatement_156 (by decide) ?_
        refine gn_icmp_ne (tgt := 177) hx hb dX12_readStatement_158 (by decide) (by decide) (by decide) (fun c_158 => ?_) (fun c_158 => absurd c_158 (by decide))
        refine lv_aload_n hx hb dX12_readStatement_177 rfl (lv_at hl 2 rfl) ?_
        refine m_geti G X 19 rfl (hwd _ mk_56) rfl dX12_readStatement_178 ?_
        refine gi_eq (a := ((zst σ 100 ((σ.1 18) + 1, 0)).2)) rfl ?_
        have hb9 : (zst σ 100 ((σ.1 18) + 1, 0)).2 < 2 := (zst_po hby q17 (show zwo 100 by decide) (show zpp (σ.1 18 + 1, 0) from ⟨by show σ.1 18 + 1 ≤ 100; omega, by show 0 < 2; decide⟩)).2
        refine gn_if_ne (tgt := 212) hx hb dX12_readStatement_181 (by decide) (by omega) (fun c_181 => ?_) (fun c_181 => ?_)
        ·
          refine lv_aload_n hx hb dX12_readStatement_212 rfl (lv_at hl 2 rfl) ?_
          refine lv_bipush (v := nI 59) hx hb dX12_readStatement_213 (by decide) ?_
          refine ctV_V (wf := []) (As := [.int (nI 59)]) (rest := []) (n := 1) hx hb hml hown hts hK hA (ap_nil X) hl.1 (m_recv G X) (c_take hcl ht0 ht1 (σ := (zp (sE (sE (sE σ 21 (σ.1 20) (σ.1 18)) 22 (σ.1 20) 98) 23 (σ.1 20) (zsv σ 100 ((σ.1 18) + 1, 0))) ((zst σ 100 ((σ.1 18) + 1, 0)).1) ((zst σ 100 ((σ.1 18) + 1, 0)).2))) 59 (show zpOk (zp (sE (sE (sE σ 21 (σ.1 20) (σ.1 18)) 22 (σ.1 20) 98) 23 (σ.1 20) (zsv σ 100 ((σ.1 18) + 1, 0))) ((zst σ 100 ((σ.1 18) + 1, 0)).1) ((zst σ 100 ((σ.1 18) + 1, 0)).2)) from ⟨q16, q17, (zst_po hby q17 (show zwo 100 by decide) (show zpp (σ.1 18 + 1, 0) from ⟨by show σ.1 18 + 1 ≤ 100; omega, by show 0 < 2; decide⟩)).1, (zst_po hby q17 (show zwo 100 by decide) (show zpp (σ.1 18 + 1, 0) from ⟨by show σ.1 18 + 1 ≤ 100; omega, by show 0 < 2; decide⟩)).2⟩) (by decide)) (cwV 1 hts (mg_V mk_55 mk_71 mk_72 mk_73 mk_43) rfl rfl rfl (by decide +kernel) ⟨Nat.le_of_ble_eq_true rfl, Nat.le_of_ble_eq_true rfl⟩) rfl (Nat.le_of_ble_eq_true rfl) dX12_readStatement_215 ⟨Nat.le_refl _, Nat.le_refl _⟩ (fun H locs X => ?_)
          replace X := ap_nil' X
          replace X := wh_eq (σ' := (zp (sE (sE (sE σ 21 (σ.1 20) (σ.1 18)) 22 (σ.1 20) 98) 23 (σ.1 20) (zsv σ 100 ((σ.1 18) + 1, 0))) ((zst σ 59 (zst σ 100 ((σ.1 18) + 1, 0))).1) ((zst σ 59 (zst σ 100 ((σ.1 18) + 1, 0))).2))) zp_zp X
          refine lv_aload_n hx hb dX12_readStatement_218 rfl (lv_at hl 2 rfl) ?_
          refine lv_dup hx hb dX12_readStatement_219 rfl ?_
          refine m_geti G X 20 rfl (hwd _ mk_67) rfl dX12_readStatement_220 ?_
          refine gi_eq (a := (σ.1 20)) rfl ?_
          refine lv_iconst (v := nI 1) hx hb dX12_readStatement_223 (by decide) ?_
          refine gn_iadd hx hb dX12_readStatement_224  ?_
          refine m_puti G X 20 rfl (hwd _ mk_67) rfl (ty := .int) (by decide +kernel) rfl rfl dX12_readStatement_225 (fun H locs X => ?_)
          exact fin _ _ _ _ (sF (zp (sE (sE (sE σ 21 (σ.1 20) (σ.1 18)) 22 (σ.1 20) 98) 23 (σ.1 20) (zsv σ 100 ((σ.1 18) + 1, 0))) ((zst σ 59 (zst σ 100 ((σ.1 18) + 1, 0))).1) ((zst σ 59 (zst σ 100 ((σ.1 18) + 1, 0))).2)) 20 ((σ.1 20) + 1)) (zrs_main (S := (sE (sE (sE σ 21 (σ.1 20) (σ.1 18)) 22 (σ.1 20) 98) 23 (σ.1 20) (zsv σ 100 ((σ.1 18) + 1, 0)))) (P := (zst σ 59 (zst σ 100 ((σ.1 18) + 1, 0)))) (c := 98) (L := [100, 59]) hby hpo e_98 (by decide) (by decide) (by decide) (by decide) (by decide) (zfr_E (zfr_E (zfr_E zfr_0 (by decide) (by decide)) (by decide) (by decide)) (by decide) (by decide)) rfl (zst_po hby q17 (show zwo 59 by decide) (zst_po hby q17 (show zwo 100 by decide) (show zpp (σ.1 18 + 1, 0) from ⟨by show σ.1 18 + 1 ≤ 100; omega, by show 0 < 2; decide⟩))) (show (sE (sE (sE σ 21 (σ.1 20) (σ.1 18)) 22 (σ.1 20) 98) 23 (σ.1 20) (zsv σ 100 ((σ.1 18) + 1, 0))).2 21 (σ.1 20) = σ.1 18 from sE_att (S := σ) (k := 21) (i := σ.1 20)) (show (sE (sE (sE σ 21 (σ.1 20) (σ.1 18)) 22 (σ.1 20) 98) 23 (σ.1 20) (zsv σ 100 ((σ.1 18) + 1, 0))).2 22 (σ.1 20) = 98 from sE_att (S := (sE σ 21 (σ.1 20) (σ.1 18))) (k := 22) (i := σ.1 20)) (fun h9 => absurd h9 (zst_bad2 (Nat.ne_of_gt c_181)))) X dX12_readStatement_228
        ·
          refine lv_iload_n hx hb dX12_readStatement_184 rfl (lv_at hl 1 rfl) ?_
          refine lv_bipush (v := nI 98) hx hb dX12_readStatement_185 (by decide) ?_
          refine gn_icmp_eq (tgt := 212) hx hb dX12_readStatement_187 (by decide) (by decide) (by decide) (fun c_187 => ?_) (fun c_187 => absurd c_187 (by decide))
          refine lv_aload_n hx hb dX12_readStatement_212 rfl (lv_at hl 2 rfl) ?_
          refine lv_bipush (v := nI 59) hx hb dX12_readStatement_213 (by decide) ?_
          refine ctV_V (wf := []) (As := [.int (nI 59)]) (rest := []) (n := 1) hx hb hml hown hts hK hA (ap_nil X) hl.1 (m_recv G X) (c_take hcl ht0 ht1 (σ := (zp (sE (sE (sE σ 21 (σ.1 20) (σ.1 18)) 22 (σ.1 20) 98) 23 (σ.1 20) (zsv σ 100 ((σ.1 18) + 1, 0))) ((zst σ 100 ((σ.1 18) + 1, 0)).1) ((zst σ 100 ((σ.1 18) + 1, 0)).2))) 59 (show zpOk (zp (sE (sE (sE σ 21 (σ.1 20) (σ.1 18)) 22 (σ.1 20) 98) 23 (σ.1 20) (zsv σ 100 ((σ.1 18) + 1, 0))) ((zst σ 100 ((σ.1 18) + 1, 0)).1) ((zst σ 100 ((σ.1 18) + 1, 0)).2)) from ⟨q16, q17, (zst_po hby q17 (show zwo 100 by decide) (show zpp (σ.1 18 + 1, 0) from ⟨by show σ.1 18 + 1 ≤ 100; omega, by show 0 < 2; decide⟩)).1, (zst_po hby q17 (show zwo 100 by decide) (show zpp (σ.1 18 + 1, 0) from ⟨by show σ.1 18 + 1 ≤ 100; omega, by show 0 < 2; decide⟩)).2⟩) (by decide)) (cwV 1 hts (mg_V mk_55 mk_71 mk_72 mk_73 mk_43) rfl rfl rfl (by decide +kernel) ⟨Nat.le_of_ble_eq_true rfl, Nat.le_of_ble_eq_true rfl⟩) rfl (Nat.le_of_ble_eq_true rfl) dX12_readStatement_215 ⟨Nat.le_refl _, Nat.le_refl _⟩ (fun H locs X => ?_)
          replace X := ap_nil' X
          replace X := wh_eq (σ' := (zp (sE (sE (sE σ 21 (σ.1 20) (σ.1 18)) 22 (σ.1 20) 98) 23 (σ.1 20) (zsv σ 100 ((σ.1 18) + 1, 0))) ((zst σ 59 (zst σ 100 ((σ.1 18) + 1, 0))).1) ((zst σ 59 (zst σ 100 ((σ.1 18) + 1, 0))).2))) zp_zp X
          refine lv_aload_n hx hb dX12_readStatement_218 rfl (lv_at hl 2 rfl) ?_
          refine lv_dup hx hb dX12_readStatement_219 rfl ?_
          refine m_geti G X 20 rfl (hwd _ mk_67) rfl dX12_readStatement_220 ?_
          refine gi_eq (a := (σ.1 20)) rfl ?_
          refine lv_iconst (v := nI 1) hx hb dX12_readStatement_223 (by decide) ?_
          refine gn_iadd hx hb dX12_readStatement_224  ?_
          refine m_puti G X 20 rfl (hwd _ mk_67) rfl (ty := .int) (by decide +kernel) rfl rfl dX12_readStatement_225 (fun H locs X => ?_)
          exact fin _ _ _ _ (sF (zp (sE (sE (sE σ 21 (σ.1 20) (σ.1 18)) 22 (σ.1 20) 98) 23 (σ.1 20) (zsv σ 100 ((σ.1 18) + 1, 0))) ((zst σ 59 (zst σ 100 ((σ.1 18) + 1, 0))).1) ((zst σ 59 (zst σ 100 ((σ.1 18) + 1, 0))).2)) 20 ((σ.1 20) + 1)) (zrs_main (S := (sE (sE (sE σ 21 (σ.1 20) (σ.1 18)) 22 (σ.1 20) 98) 23 (σ.1 20) (zsv σ 100 ((σ.1 18) + 1, 0)))) (P := (zst σ 59 (zst σ 100 ((σ.1 18) + 1, 0)))) (c := 98) (L := [100, 59]) hby hpo e_98 (by decide) (by decide) (by decide) (by decide) (by decide) (zfr_E (zfr_E (zfr_E zfr_0 (by decide) (by decide)) (by decide) (by decide)) (by decide) (by decide)) rfl (zst_po hby q17 (show zwo 59 by decide) (zst_po hby q17 (show zwo 100 by decide) (show zpp (σ.1 18 + 1, 0) from ⟨by show σ.1 18 + 1 ≤ 100; omega, by show 0 < 2; decide⟩))) (show (sE (sE (sE σ 21 (σ.1 20) (σ.1 18)) 22 (σ.1 20) 98) 23 (σ.1 20) (zsv σ 100 ((σ.1 18) + 1, 0))).2 21 (σ.1 20) = σ.1 18 from sE_att (S := σ) (k := 21) (i := σ.1 20)) (show (sE (sE (sE σ 21 (σ.1 20) (σ.1 18)) 22 (σ.1 20) 98) 23 (σ.1 20) (zsv σ 100 ((σ.1 18) + 1, 0))).2 22 (σ.1 20) = 98 from sE_att (S := (sE σ 21 (σ.1 20) (σ.1 18))) (k := 22) (i := σ.1 20)) (fun _ => ⟨by rw [(show (sE (sE (sE σ 21 (σ.1 20) (σ.1 18)) 22 (σ.1 20) 98) 23 (σ.1 20) (zsv σ 100 ((σ.1 18) + 1, 0))).2 23 (σ.1 20) = zsv σ 100 ((σ.1 18) + 1, 0) from sE_att (S := (sE (sE σ 21 (σ.1 20) (σ.1 18)) 22 (σ.1 20) 98)) (k := 23) (i := σ.1 20))]; exact Nat.lt_trans (zsv_lt hby).1 (by decide), Or.inr (Or.inr ⟨by decide, fun t => (show (sE (sE (sE σ 21 (σ.1 20) (σ.1 18)) 22 (σ.1 20) 98) 23 (σ.1 20) (zsv σ 100 ((σ.1 18) + 1, 0))).2 23 (σ.1 20) = zsv σ 100 ((σ.1 18) + 1, 0) from sE_att (S := (sE (sE σ 21 (σ.1 20) (σ.1 18)) 22 (σ.1 20) 98)) (k := 23) (i := σ.1 20)).symm⟩)⟩)) X dX12_readStatement_228
      · exact absurd c_102 (by decide)
    · exact absurd c_81 (by decide)
  by_cases e_97 : zch σ (σ.1 18) = 97
  ·
    refine gi_eq (a := 97) e_97 ?_
    have hlt9 : σ.1 18 < σ.1 17 := zch_in2 (by omega)
    refine lv_istore_n (lv' := [(1, .int (nI 97)), (0, .ref o)]) hx hb dX12_readStatement_4 rfl hl (by decide) rfl (fun ls hl => ?_)
    refine lv_aload_n hx hb dX12_readStatement_5 rfl (lv_at hl 1 rfl) ?_
    refine m_geti G X 20 rfl (hwd _ mk_67) rfl dX12_readStatement_6 ?_
    refine gi_eq (a := (σ.1 20)) rfl ?_
    refine lv_istore_n (lv' := [(2, .int (nI (σ.1 20))), (1, .int (nI 97)), (0, .ref o)]) hx hb dX12_readStatement_9 rfl hl (by decide) rfl (fun ls hl => ?_)
    refine lv_aload_n hx hb dX12_readStatement_10 rfl (lv_at hl 2 rfl) ?_
    refine lv_iload_n hx hb dX12_readStatement_11 rfl (lv_at hl 1 rfl) ?_
    refine lv_bipush (v := nI 114) hx hb dX12_readStatement_12 (by decide) ?_
    refine gn_icmp_eq (tgt := 51) hx hb dX12_readStatement_14 (by decide) (by decide) (by decide) (fun c_14 => absurd c_14 (by decide)) (fun c_14 => ?_)
    refine lv_iload_n hx hb dX12_readStatement_17 rfl (lv_at hl 1 rfl) ?_
    refine lv_bipush (v := nI 119) hx hb dX12_readStatement_18 (by decide) ?_
    refine gn_icmp_eq (tgt := 51) hx hb dX12_readStatement_20 (by decide) (by decide) (by decide) (fun c_20 => absurd c_20 (by decide)) (fun c_20 => ?_)
    refine lv_iload_n hx hb dX12_readStatement_23 rfl (lv_at hl 1 rfl) ?_
    refine lv_bipush (v := nI 115) hx hb dX12_readStatement_24 (by decide) ?_
    refine gn_icmp_eq (tgt := 51) hx hb dX12_readStatement_26 (by decide) (by decide) (by decide) (fun c_26 => absurd c_26 (by decide)) (fun c_26 => ?_)
    refine lv_iload_n hx hb dX12_readStatement_29 rfl (lv_at hl 1 rfl) ?_
    refine lv_bipush (v := nI 109) hx hb dX12_readStatement_30 (by decide) ?_
    refine gn_icmp_eq (tgt := 51) hx hb dX12_readStatement_32 (by decide) (by decide) (by decide) (fun c_32 => absurd c_32 (by decide)) (fun c_32 => ?_)
    refine lv_iload_n hx hb dX12_readStatement_35 rfl (lv_at hl 1 rfl) ?_
    refine lv_bipush (v := nI 98) hx hb dX12_readStatement_36 (by decide) ?_
    refine gn_icmp_eq (tgt := 51) hx hb dX12_readStatement_38 (by decide) (by decide) (by decide) (fun c_38 => absurd c_38 (by decide)) (fun c_38 => ?_)
    refine lv_iload_n hx hb dX12_readStatement_41 rfl (lv_at hl 1 rfl) ?_
    refine lv_bipush (v := nI 97) hx hb dX12_readStatement_42 (by decide) ?_
    refine gn_icmp_eq (tgt := 51) hx hb dX12_readStatement_44 (by decide) (by decide) (by decide) (fun c_44 => ?_) (fun c_44 => absurd c_44 (by decide))
    refine lv_iconst (v := nI 0) hx hb dX12_readStatement_51 (by decide) ?_
    refine m_puti G X 19 rfl (hwd _ mk_56) rfl (ty := .boolean) (by decide +kernel) (zb_nar (by omega)) (zb_fit (by omega)) dX12_readStatement_52 (fun H locs X => ?_)
    replace X := wh_eq (zp_F19 (x := 0)) X
    refine lv_aload_n hx hb dX12_readStatement_55 rfl (lv_at hl 2 rfl) ?_
    refine m_geta G X 21 rfl (hwd _ mk_16) rfl dX12_readStatement_56 ?_
    refine lv_iload_n hx hb dX12_readStatement_59 rfl (lv_at hl 0 rfl) ?_
    refine lv_aload_n hx hb dX12_readStatement_60 rfl (lv_at hl 2 rfl) ?_
    refine m_geti G X 18 rfl (hwd _ mk_52) rfl dX12_readStatement_61 ?_
    refine gi_eq (a := (σ.1 18)) rfl ?_
    refine m_iast G X 21 rfl (i := (σ.1 20)) (v := (σ.1 18)) (by show _ < 50; omega) (by omega) dX12_readStatement_64 (fun H locs X => ?_)
    replace X := wh_eq (σ' := (zp (sE σ 21 (σ.1 20) (σ.1 18)) (σ.1 18) 0)) rfl X
    refine lv_aload_n hx hb dX12_readStatement_65 rfl (lv_at hl 2 rfl) ?_
    refine m_geta G X 22 rfl (hwd _ mk_17) rfl dX12_readStatement_66 ?_
    refine lv_iload_n hx hb dX12_readStatement_69 rfl (lv_at hl 0 rfl) ?_
    refine lv_iload_n hx hb dX12_readStatement_70 rfl (lv_at hl 1 rfl) ?_
    refine m_iast G X 22 rfl (i := (σ.1 20)) (v := 97) (by show _ < 50; omega) (by omega) dX12_readStatement_71 (fun H locs X => ?_)
    replace X := wh_eq (σ' := (zp (sE (sE σ 21 (σ.1 20) (σ.1 18)) 22 (σ.1 20) 97) (σ.1 18) 0)) rfl X
    refine lv_aload_n hx hb dX12_readStatement_72 rfl (lv_at hl 2 rfl) ?_
    refine lv_dup hx hb dX12_readStatement_73 rfl ?_
    refine m_geti G X 18 rfl (hwd _ mk_52) rfl dX12_readStatement_74 ?_
    refine gi_eq (a := (σ.1 18)) rfl ?_
    refine lv_aload_n hx hb dX12_readStatement_77 rfl (lv_at hl 2 rfl) ?_
    refine m_geti G X 19 rfl (hwd _ mk_56) rfl dX12_readStatement_78 ?_
    refine gi_eq (a := 0) rfl ?_
    refine gn_if_eq (tgt := 88) hx hb dX12_readStatement_81 (by decide) (by omega) (fun c_81 => ?_) (fun c_81 => ?_)
    ·
      refine lv_iconst (v := nI 1) hx hb dX12_readStatement_88 (by decide) ?_
      refine gn_iadd hx hb dX12_readStatement_89  ?_
      refine m_puti G X 18 rfl (hwd _ mk_52) rfl (ty := .int) (by decide +kernel) rfl rfl dX12_readStatement_90 (fun H locs X => ?_)
      replace X := wh_eq (zp_F18 (x := ((σ.1 18) + 1))) X
      refine lv_aload_n hx hb dX12_readStatement_93 rfl (lv_at hl 2 rfl) ?_
      refine m_geta G X 23 rfl (hwd _ mk_18) rfl dX12_readStatement_94 ?_
      refine lv_iload_n hx hb dX12_readStatement_97 rfl (lv_at hl 0 rfl) ?_
      refine lv_aload_n hx hb dX12_readStatement_98 rfl (lv_at hl 2 rfl) ?_
      refine m_geti G X 19 rfl (hwd _ mk_56) rfl dX12_readStatement_99 ?_
      refine gi_eq (a := 0) rfl ?_
      refine gn_if_eq (tgt := 109) hx hb dX12_readStatement_102 (by decide) (by omega) (fun c_102 => ?_) (fun c_102 => ?_)
      ·
        refine lv_iload_n hx hb dX12_readStatement_109 rfl (lv_at hl 1 rfl) ?_
        refine lv_bipush (v := nI 119) hx hb dX12_readStatement_110 (by decide) ?_
        refine gn_icmp_eq (tgt := 121) hx hb dX12_readStatement_112 (by decide) (by decide) (by decide) (fun c_112 => absurd c_112 (by decide)) (fun c_112 => ?_)
        refine lv_iload_n hx hb dX12_readStatement_115 rfl (lv_at hl 1 rfl) ?_
        refine lv_bipush (v := nI 97) hx hb dX12_readStatement_116 (by decide) ?_
        refine gn_icmp_ne (tgt := 128) hx hb dX12_readStatement_118 (by decide) (by decide) (by decide) (fun c_118 => absurd c_118 (by decide)) (fun c_118 => ?_)
        refine lv_aload_n hx hb dX12_readStatement_121 rfl (lv_at hl 2 rfl) ?_
        refine ctI_V (wf := []) (As := []) (rest := [.int (nI (σ.1 20)), .ref (q 23)]) (n := 0) hx hb hml hown hts hK hA (ap_nil X) hl.1 (m_recv G X) (c_readNumber hcl ht0 ht1 (σ := (zp (sE (sE σ 21 (σ.1 20) (σ.1 18)) 22 (σ.1 20) 97) ((σ.1 18) + 1) 0)) (show zpOk (zp (sE (sE σ 21 (σ.1 20) (σ.1 18)) 22 (σ.1 20) 97) ((σ.1 18) + 1) 0) from ⟨q16, q17, (show zpp (σ.1 18 + 1, 0) from ⟨by show σ.1 18 + 1 ≤ 100; omega, by show 0 < 2; decide⟩).1, (show zpp (σ.1 18 + 1, 0) from ⟨by show σ.1 18 + 1 ≤ 100; omega, by show 0 < 2; decide⟩).2⟩) (show zby8 (zp (sE (sE σ 21 (σ.1 20) (σ.1 18)) 22 (σ.1 20) 97) ((σ.1 18) + 1) 0) from hby)) (cwV 0 hts (mg_V mk_63 mk_68 mk_69 mk_70 mk_43) rfl rfl rfl (by decide +kernel) ⟨Nat.le_of_ble_eq_true rfl, Nat.le_of_ble_eq_true rfl⟩) rfl (Nat.le_of_ble_eq_true rfl) dX12_readStatement_122 ⟨Nat.le_refl _, Nat.le_refl _⟩ (fun H locs X => ?_)
        replace X := ap_nil' X
        refine gi_raw (y := nI (zsv σ 110 ((σ.1 18) + 1, 0))) rfl ?_
        replace X := wh_eq (σ' := (zp (sE (sE σ 21 (σ.1 20) (σ.1 18)) 22 (σ.1 20) 97) ((zst σ 110 ((σ.1 18) + 1, 0)).1) ((zst σ 110 ((σ.1 18) + 1, 0)).2))) zp_zp X
        refine lv_goto (tgt := 132) hx hb dX12_readStatement_125 (by decide) ?_
        refine m_iast G X 23 rfl (i := (σ.1 20)) (v := (zsv σ 110 ((σ.1 18) + 1, 0))) (by show _ < 50; omega) (by omega) dX12_readStatement_132 (fun H locs X => ?_)
        replace X := wh_eq (σ' := (zp (sE (sE (sE σ 21 (σ.1 20) (σ.1 18)) 22 (σ.1 20) 97) 23 (σ.1 20) (zsv σ 110 ((σ.1 18) + 1, 0))) ((zst σ 110 ((σ.1 18) + 1, 0)).1) ((zst σ 110 ((σ.1 18) + 1, 0)).2))) rfl X
        refine lv_iload_n hx hb dX12_readStatement_133 rfl (lv_at hl 1 rfl) ?_
        refine lv_bipush (v := nI 114) hx hb dX12_readStatement_134 (by decide) ?_
        refine gn_icmp_eq (tgt := 145) hx hb dX12_readStatement_136 (by decide) (by decide) (by decide) (fun c_136 => absurd c_136 (by decide)) (fun c_136 => ?_)
        refine lv_iload_n hx hb dX12_readStatement_139 rfl (lv_at hl 1 rfl) ?_
        refine lv_bipush (v := nI 109) hx hb dX12_readStatement_140 (by decide) ?_
        refine gn_icmp_ne (tgt := 155) hx hb dX12_readStatement_142 (by decide) (by decide) (by decide) (fun c_142 => ?_) (fun c_142 => absurd c_142 (by decide))
        refine lv_iload_n hx hb dX12_readStatement_155 rfl (lv_at hl 1 rfl) ?_
        refine lv_bipush (v := nI 119) hx hb dX12_readStatement_156 (by decide) ?_
        refine gn_icmp_ne (tgt := 177) hx hb dX12_readStatement_158 (by decide) (by decide) (by decide) (fun c_158 => ?_) (fun c_158 => absurd c_158 (by decide))
        refine lv_aload_n hx hb dX12_readStatement_177 rfl (lv_at hl 2 rfl) ?_
        refine m_geti G X 19 rfl (hwd _ mk_56) rfl dX12_readStatement_178 ?_
        refine gi_eq (a := ((zst σ 110 ((σ.1 18) + 1, 0)).2)) rfl ?_
        have hb9 : (zst σ 110 ((σ.1 18) + 1, 0)).2 < 2 := (zst_po hby q17 (show zwo 110 by decide) (show zpp (σ.1 18 + 1, 0) from ⟨by show σ.1 18 + 1 ≤ 100; omega, by show 0 < 2; decide⟩)).2
        refine gn_if_ne (tgt := 212) hx hb dX12_readStatement_181 (by decide) (by omega) (fun c_181 => ?_) (fun c_181 => ?_)
        ·
          refine lv_aload_n hx hb dX12_readStatement_212 rfl (lv_at hl 2 rfl) ?_
          refine lv_bipush (v := nI 59) hx hb dX12_readStatement_213 (by decide) ?_
          refine ctV_V (wf := []) (As := [.int (nI 59)]) (rest := []) (n := 1) hx hb hml hown hts hK hA (ap_nil X) hl.1 (m_recv G X) (c_take hcl ht0 ht1 (σ := (zp (sE (sE (sE σ 21 (σ.1 20) (σ.1 18)) 22 (σ.1 20) 97) 23 (σ.1 20) (zsv σ 110 ((σ.1 18) + 1, 0))) ((zst σ 110 ((σ.1 18) + 1, 0)).1) ((zst σ 110 ((σ.1 18) + 1, 0)).2))) 59 (show zpOk (zp (sE (sE (sE σ 21 (σ.1 20) (σ.1 18)) 22 (σ.1 20) 97) 23 (σ.1 20) (zsv σ 110 ((σ.1 18) + 1, 0))) ((zst σ 110 ((σ.1 18) + 1, 0)).1) ((zst σ 110 ((σ.1 18) + 1, 0)).2)) from ⟨q16, q17, (zst_po hby q17 (show zwo 110 by decide) (show zpp (σ.1 18 + 1, 0) from ⟨by show σ.1 18 + 1 ≤ 100; omega, by show 0 < 2; decide⟩)).1, (zst_po hby q17 (show zwo 110 by decide) (show zpp (σ.1 18 + 1, 0) from ⟨by show σ.1 18 + 1 ≤ 100; omega, by show 0 < 2; decide⟩)).2⟩) (by decide)) (cwV 1 hts (mg_V mk_55 mk_71 mk_72 mk_73 mk_43) rfl rfl rfl (by decide +kernel) ⟨Nat.le_of_ble_eq_true rfl, Nat.le_of_ble_eq_true rfl⟩) rfl (Nat.le_of_ble_eq_true rfl) dX12_readStatement_215 ⟨Nat.le_refl _, Nat.le_refl _⟩ (fun H locs X => ?_)
          replace X := ap_nil' X
          replace X := wh_eq (σ' := (zp (sE (sE (sE σ 21 (σ.1 20) (σ.1 18)) 22 (σ.1 20) 97) 23 (σ.1 20) (zsv σ 110 ((σ.1 18) + 1, 0))) ((zst σ 59 (zst σ 110 ((σ.1 18) + 1, 0))).1) ((zst σ 59 (zst σ 110 ((σ.1 18) + 1, 0))).2))) zp_zp X
          refine lv_aload_n hx hb dX12_readStatement_218 rfl (lv_at hl 2 rfl) ?_
          refine lv_dup hx hb dX12_readStatement_219 rfl ?_
          refine m_geti G X 20 rfl (hwd _ mk_67) rfl dX12_readStatement_220 ?_
          refine gi_eq (a := (σ.1 20)) rfl ?_
          refine lv_iconst (v := nI 1) hx hb dX12_readStatement_223 (by decide) ?_
          refine gn_iadd hx hb dX12_readStatement_224  ?_
          refine m_puti G X 20 rfl (hwd _ mk_67) rfl (ty := .int) (by decide +kernel) rfl rfl dX12_readStatement_225 (fun H locs X => ?_)
          exact fin _ _ _ _ (sF (zp (sE (sE (sE σ 21 (σ.1 20) (σ.1 18)) 22 (σ.1 20) 97) 23 (σ.1 20) (zsv σ 110 ((σ.1 18) + 1, 0))) ((zst σ 59 (zst σ 110 ((σ.1 18) + 1, 0))).1) ((zst σ 59 (zst σ 110 ((σ.1 18) + 1, 0))).2)) 20 ((σ.1 20) + 1)) (zrs_main (S := (sE (sE (sE σ 21 (σ.1 20) (σ.1 18)) 22 (σ.1 20) 97) 23 (σ.1 20) (zsv σ 110 ((σ.1 18) + 1, 0)))) (P := (zst σ 59 (zst σ 110 ((σ.1 18) + 1, 0)))) (c := 97) (L := [110, 59]) hby hpo e_97 (by decide) (by decide) (by decide) (by decide) (by decide) (zfr_E (zfr_E (zfr_E zfr_0 (by decide) (by decide)) (by decide) (by decide)) (by decide) (by decide)) rfl (zst_po hby q17 (show zwo 59 by decide) (zst_po hby q17 (show zwo 110 by decide) (show zpp (σ.1 18 + 1, 0) from ⟨by show σ.1 18 + 1 ≤ 100; omega, by show 0 < 2; decide⟩))) (show (sE (sE (sE σ 21 (σ.1 20) (σ.1 18)) 22 (σ.1 20) 97) 23 (σ.1 20) (zsv σ 110 ((σ.1 18) + 1, 0))).2 21 (σ.1 20) = σ.1 18 from sE_att (S := σ) (k := 21) (i := σ.1 20)) (show (sE (sE (sE σ 21 (σ.1 20) (σ.1 18)) 22 (σ.1 20) 97) 23 (σ.1 20) (zsv σ 110 ((σ.1 18) + 1, 0))).2 22 (σ.1 20) = 97 from sE_att (S := (sE σ 21 (σ.1 20) (σ.1 18))) (k := 22) (i := σ.1 20)) (fun h9 => absurd h9 (zst_bad2 (Nat.ne_of_gt c_181)))) X dX12_readStatement_228
        ·
          refine lv_iload_n hx hb dX12_readStatement_184 rfl (lv_at hl 1 rfl) ?_
          refine lv_bipush (v := nI 98) hx hb dX12_readStatement_185 (by decide) ?_
          refine gn_icmp_eq (tgt := 212) hx hb dX12_readStatement_187 (by decide) (by decide) (by decide) (fun c_187 => absurd c_187 (by decide)) (fun c_187 => ?_)
          refine lv_iload_n hx hb dX12_readStatement_190 rfl (lv_at hl 1 rfl) ?_
          refine lv_bipush (v := nI 97) hx hb dX12_readStatement_191 (by decide) ?_
          refine gn_icmp_eq (tgt := 212) hx hb dX12_readStatement_193 (by decide) (by decide) (by decide) (fun c_193 => ?_) (fun c_193 => absurd c_193 (by decide))
          refine lv_aload_n hx hb dX12_readStatement_212 rfl (lv_at hl 2 rfl) ?_
          refine lv_bipush (v := nI 59) hx hb dX12_readStatement_213 (by decide) ?_
          refine ctV_V (wf := []) (As := [.int (nI 59)]) (rest := []) (n := 1) hx hb hml hown hts hK hA (ap_nil X) hl.1 (m_recv G X) (c_take hcl ht0 ht1 (σ := (zp (sE (sE (sE σ 21 (σ.1 20) (σ.1 18)) 22 (σ.1 20) 97) 23 (σ.1 20) (zsv σ 110 ((σ.1 18) + 1, 0))) ((zst σ 110 ((σ.1 18) + 1, 0)).1) ((zst σ 110 ((σ.1 18) + 1, 0)).2))) 59 (show zpOk (zp (sE (sE (sE σ 21 (σ.1 20) (σ.1 18)) 22 (σ.1 20) 97) 23 (σ.1 20) (zsv σ 110 ((σ.1 18) + 1, 0))) ((zst σ 110 ((σ.1 18) + 1, 0)).1) ((zst σ 110 ((σ.1 18) + 1, 0)).2)) from ⟨q16, q17, (zst_po hby q17 (show zwo 110 by decide) (show zpp (σ.1 18 + 1, 0) from ⟨by show σ.1 18 + 1 ≤ 100; omega, by show 0 < 2; decide⟩)).1, (zst_po hby q17 (show zwo 110 by decide) (show zpp (σ.1 18 + 1, 0) from ⟨by show σ.1 18 + 1 ≤ 100; omega, by show 0 < 2; decide⟩)).2⟩) (by decide)) (cwV 1 hts (mg_V mk_55 mk_71 mk_72 mk_73 mk_43) rfl rfl rfl (by decide +kernel) ⟨Nat.le_of_ble_eq_true rfl, Nat.le_of_ble_eq_true rfl⟩) rfl (Nat.le_of_ble_eq_true rfl) dX12_readStatement_215 ⟨Nat.le_refl _, Nat.le_refl _⟩ (fun H locs X => ?_)
          replace X := ap_nil' X
          replace X := wh_eq (σ' := (zp (sE (sE (sE σ 21 (σ.1 20) (σ.1 18)) 22 (σ.1 20) 97) 23 (σ.1 20) (zsv σ 110 ((σ.1 18) + 1, 0))) ((zst σ 59 (zst σ 110 ((σ.1 18) + 1, 0))).1) ((zst σ 59 (zst σ 110 ((σ.1 18) + 1, 0))).2))) zp_zp X
          refine lv_aload_n hx hb dX12_readStatement_218 rfl (lv_at hl 2 rfl) ?_
          refine lv_dup hx hb dX12_readStatement_219 rfl ?_
          refine m_geti G X 20 rfl (hwd _ mk_67) rfl dX12_readStatement_220 ?_
          refine gi_eq (a := (σ.1 20)) rfl ?_
          refine lv_iconst (v := nI 1) hx hb dX12_readStatement_223 (by decide) ?_
          refine gn_iadd hx hb dX12_readStatement_224  ?_
          refine m_puti G X 20 rfl (hwd _ mk_67) rfl (ty := .int) (by decide +kernel) rfl rfl dX12_readStatement_225 (fun H locs X => ?_)
          exact fin _ _ _ _ (sF (zp (sE (sE (sE σ 21 (σ.1 20) (σ.1 18)) 22 (σ.1 20) 97) 23 (σ.1 20) (zsv σ 110 ((σ.1 18) + 1, 0))) ((zst σ 59 (zst σ 110 ((σ.1 18) + 1, 0))).1) ((zst σ 59 (zst σ 110 ((σ.1 18) + 1, 0))).2)) 20 ((σ.1 20) + 1)) (zrs_main (S := (sE (sE (sE σ 21 (σ.1 20) (σ.1 18)) 22 (σ.1 20) 97) 23 (σ.1 20) (zsv σ 110 ((σ.1 18) + 1, 0)))) (P := (zst σ 59 (zst σ 110 ((σ.1 18) + 1, 0)))) (c := 97) (L := [110, 59]) hby hpo e_97 (by decide) (by decide) (by decide) (by decide) (by decide) (zfr_E (zfr_E (zfr_E zfr_0 (by decide) (by decide)) (by decide) (by decide)) (by decide) (by decide)) rfl (zst_po hby q17 (show zwo 59 by decide) (zst_po hby q17 (show zwo 110 by decide) (show zpp (σ.1 18 + 1, 0) from ⟨by show σ.1 18 + 1 ≤ 100; omega, by show 0 < 2; decide⟩))) (show (sE (sE (sE σ 21 (σ.1 20) (σ.1 18)) 22 (σ.1 20) 97) 23 (σ.1 20) (zsv σ 110 ((σ.1 18) + 1, 0))).2 21 (σ.1 20) = σ.1 18 from sE_att (S := σ) (k := 21) (i := σ.1 20)) (show (sE (sE (sE σ 21 (σ.1 20) (σ.1 18)) 22 (σ.1 20) 97) 23 (σ.1 20) (zsv σ 110 ((σ.1 18) + 1, 0))).2 22 (σ.1 20) = 97 from sE_att (S := (sE σ 21 (σ.1 20) (σ.1 18))) (k := 22) (i := σ.1 20)) (fun _ => ⟨by rw [(show (sE (sE (sE σ 21 (σ.1 20) (σ.1 18)) 22 (σ.1 20) 97) 23 (σ.1 20) (zsv σ 110 ((σ.1 18) + 1, 0))).2 23 (σ.1 20) = zsv σ 110 ((σ.1 18) + 1, 0) from sE_att (S := (sE (sE σ 21 (σ.1 20) (σ.1 18)) 22 (σ.1 20) 97)) (k := 23) (i := σ.1 20))]; exact (zsv_lt hby).2, Or.inr (Or.inr ⟨by decide, fun t => (show (sE (sE (sE σ 21 (σ.1 20) (σ.1 18)) 22 (σ.1 20) 97) 23 (σ.1 20) (zsv σ 110 ((σ.1 18) + 1, 0))).2 23 (σ.1 20) = zsv σ 110 ((σ.1 18) + 1, 0) from sE_att (S := (sE (sE σ 21 (σ.1 20) (σ.1 18)) 22 (σ.1 20) 97)) (k := 23) (i := σ.1 20)).symm⟩)⟩)) X dX12_readStatement_228
      · exact absurd c_102 (by decide)
    · exact absurd c_81 (by decide)
  refine lv_istore_n (lv' := [(1, .int (nI (zch σ ((σ.1 18))))), (0, .ref o)]) hx hb dX12_readStatement_4 rfl hl (by decide) rfl (fun ls hl => ?_)
  refine lv_aload_n hx hb dX12_readStatement_5 rfl (lv_at hl 1 rfl) ?_
  refine m_geti G X 20 rfl (hwd _ mk_67) rfl dX12_readStatement_6 ?_
  refine gi_eq (a := (σ.1 20)) rfl ?_
  refine lv_istore_n (lv' := [(2, .int (nI (σ.1 20))), (1, .int (nI (zch σ ((σ.1 18))))), (0, .ref o)]) hx hb dX12_readStatement_9 rfl hl (by decide) rfl (fun ls hl => ?_)
  refine lv_aload_n hx hb dX12_readStatement_10 rfl (lv_at hl 2 rfl) ?_
  refine lv_iload_n hx hb dX12_readStatement_11 rfl (lv_at hl 1 rfl) ?_
  refine lv_bipush (v := nI 114) hx hb dX12_readStatement_12 (by decide) ?_
  refine gn_icmp_eq (tgt := 51) hx hb dX12_readStatement_14 (by decide) (by omega) (by omega) (fun c_14 => ?_) (fun c_14 => ?_)
  ·
    exfalso; omega
  ·
    refine lv_iload_n hx hb dX12_readStatement_17 rfl (lv_at hl 1 rfl) ?_
    refine lv_bipush (v := nI 119) hx hb dX12_readStatement_18 (by decide) ?_
    refine gn_icmp_eq (tgt := 51) hx hb dX12_readStatement_20 (by decide) (by omega) (by omega) (fun c_20 => ?_) (fun c_20 => ?_)
    ·
      exfalso; omega
    ·
      refine lv_iload_n hx hb dX12_readStatement_23 rfl (lv_at hl 1 rfl) ?_
      refine lv_bipush (v := nI 115) hx hb dX12_readStatement_24 (by decide) ?_
      refine gn_icmp_eq (tgt := 51) hx hb dX12_readStatement_26 (by decide) (by omega) (by omega) (fun c_26 => ?_) (fun c_26 => ?_)
      ·
        exfalso; omega
      ·
        refine lv_iload_n hx hb dX12_readStatement_29 rfl (lv_at hl 1 rfl) ?_
        refine lv_bipush (v := nI 109) hx hb dX12_readStatement_30 (by decide) ?_
        refine gn_icmp_eq (tgt := 51) hx hb dX12_readStatement_32 (by decide) (by omega) (by omega) (fun c_32 => ?_) (fun c_32 => ?_)
        ·
          exfalso; omega
        ·
          refine lv_iload_n hx hb dX12_readStatement_35 rfl (lv_at hl 1 rfl) ?_
          refine lv_bipush (v := nI 98) hx hb dX12_readStatement_36 (by decide) ?_
          refine gn_icmp_eq (tgt := 51) hx hb dX12_readStatement_38 (by decide) (by omega) (by omega) (fun c_38 => ?_) (fun c_38 => ?_)
          ·
            exfalso; omega
          ·
            refine lv_iload_n hx hb dX12_readStatement_41 rfl (lv_at hl 1 rfl) ?_
            refine lv_bipush (v := nI 97) hx hb dX12_readStatement_42 (by decide) ?_
            refine gn_icmp_eq (tgt := 51) hx hb dX12_readStatement_44 (by decide) (by omega) (by omega) (fun c_44 => ?_) (fun c_44 => ?_)
            ·
              exfalso; omega
            ·
              refine lv_iconst (v := nI 1) hx hb dX12_readStatement_47 (by decide) ?_
              refine lv_goto (tgt := 52) hx hb dX12_readStatement_48 (by decide) ?_
              refine m_puti G X 19 rfl (hwd _ mk_56) rfl (ty := .boolean) (by decide +kernel) (zb_nar (by omega)) (zb_fit (by omega)) dX12_readStatement_52 (fun H locs X => ?_)
              replace X := wh_eq (zp_F19 (x := 1)) X
              refine lv_aload_n hx hb dX12_readStatement_55 rfl (lv_at hl 2 rfl) ?_
              refine m_geta G X 21 rfl (hwd _ mk_16) rfl dX12_readStatement_56 ?_
              refine lv_iload_n hx hb dX12_readStatement_59 rfl (lv_at hl 0 rfl) ?_
              refine lv_aload_n hx hb dX12_readStatement_60 rfl (lv_at hl 2 rfl) ?_
              refine m_geti G X 18 rfl (hwd _ mk_52) rfl dX12_readStatement_61 ?_
              refine gi_eq (a := (σ.1 18)) rfl ?_
              refine m_iast G X 21 rfl (i := (σ.1 20)) (v := (σ.1 18)) (by show _ < 50; omega) (by omega) dX12_readStatement_64 (fun H locs X => ?_)
              replace X := wh_eq (σ' := (zp (sE σ 21 (σ.1 20) (σ.1 18)) (σ.1 18) 1)) rfl X
              refine lv_aload_n hx hb dX12_readStatement_65 rfl (lv_at hl 2 rfl) ?_
              refine m_geta G X 22 rfl (hwd _ mk_17) rfl dX12_readStatement_66 ?_
              refine lv_iload_n hx hb dX12_readStatement_69 rfl (lv_at hl 0 rfl) ?_
              refine lv_iload_n hx hb dX12_readStatement_70 rfl (lv_at hl 1 rfl) ?_
              refine m_iast G X 22 rfl (i := (σ.1 20)) (v := (zch σ ((σ.1 18)))) (by show _ < 50; omega) (by omega) dX12_readStatement_71 (fun H locs X => ?_)
              replace X := wh_eq (σ' := (zp (sE (sE σ 21 (σ.1 20) (σ.1 18)) 22 (σ.1 20) (zch σ ((σ.1 18)))) (σ.1 18) 1)) rfl X
              refine lv_aload_n hx hb dX12_readStatement_72 rfl (lv_at hl 2 rfl) ?_
              refine lv_dup hx hb dX12_readStatement_73 rfl ?_
              refine m_geti G X 18 rfl (hwd _ mk_52) rfl dX12_readStatement_74 ?_
              refine gi_eq (a := (σ.1 18)) rfl ?_
              refine lv_aload_n hx hb dX12_readStatement_77 rfl (lv_at hl 2 rfl) ?_
              refine m_geti G X 19 rfl (hwd _ mk_56) rfl dX12_readStatement_78 ?_
              refine gi_eq (a := 1) rfl ?_
              refine gn_if_eq (tgt := 88) hx hb dX12_readStatement_81 (by decide) (by omega) (fun c_81 => ?_) (fun c_81 => ?_)
              · exact absurd c_81 (by decide)
              ·
                refine lv_iconst (v := nI 0) hx hb dX12_readStatement_84 (by decide) ?_
                refine lv_goto (tgt := 89) hx hb dX12_readStatement_85 (by decide) ?_
                refine gn_iadd hx hb dX12_readStatement_89  ?_
                refine m_puti G X 18 rfl (hwd _ mk_52) rfl (ty := .int) (by decide +kernel) rfl rfl dX12_readStatement_90 (fun H locs X => ?_)
                replace X := wh_eq (zp_F18 (x := ((σ.1 18) + 0))) X
                refine lv_aload_n hx hb dX12_readStatement_93 rfl (lv_at hl 2 rfl) ?_
                refine m_geta G X 23 rfl (hwd _ mk_18) rfl dX12_readStatement_94 ?_
                refine lv_iload_n hx hb dX12_readStatement_97 rfl (lv_at hl 0 rfl) ?_
                refine lv_aload_n hx hb dX12_readStatement_98 rfl (lv_at hl 2 rfl) ?_
                refine m_geti G X 19 rfl (hwd _ mk_56) rfl dX12_readStatement_99 ?_
                refine gi_eq (a := 1) rfl ?_
                refine gn_if_eq (tgt := 109) hx hb dX12_readStatement_102 (by decide) (by omega) (fun c_102 => ?_) (fun c_102 => ?_)
                · exact absurd c_102 (by decide)
                ·
                  refine lv_iconst (v := nI 0) hx hb dX12_readStatement_105 (by decide) ?_
                  refine lv_goto (tgt := 132) hx hb dX12_readStatement_106 (by decide) ?_
                  refine m_iast G X 23 rfl (i := (σ.1 20)) (v := 0) (by show _ < 50; omega) (by omega) dX12_readStatement_132 (fun H locs X => ?_)
                  replace X := wh_eq (σ' := (zp (sE (sE (sE σ 21 (σ.1 20) (σ.1 18)) 22 (σ.1 20) (zch σ ((σ.1 18)))) 23 (σ.1 20) 0) ((σ.1 18) + 0) 1)) rfl X
                  refine lv_iload_n hx hb dX12_readStatement_133 rfl (lv_at hl 1 rfl) ?_
                  refine lv_bipush (v := nI 114) hx hb dX12_readStatement_134 (by decide) ?_
                  refine gn_icmp_eq (tgt := 145) hx hb dX12_readStatement_136 (by decide) (by omega) (by omega) (fun c_136 => ?_) (fun c_136 => ?_)
                  ·
                    exfalso; omega
                  ·
                    refine lv_iload_n hx hb dX12_readStatement_139 rfl (lv_at hl 1 rfl) ?_
                    refine lv_bipush (v := nI 109) hx hb dX12_readStatement_140 (by decide) ?_
                    refine gn_icmp_ne (tgt := 155) hx hb dX12_readStatement_142 (by decide) (by omega) (by omega) (fun c_142 => ?_) (fun c_142 => ?_)
                    ·
                      refine lv_iload_n hx hb dX12_readStatement_155 rfl (lv_at hl 1 rfl) ?_
                      refine lv_bipush (v := nI 119) hx hb dX12_readStatement_156 (by decide) ?_
                      refine gn_icmp_ne (tgt := 177) hx hb dX12_readStatement_158 (by decide) (by omega) (by omega) (fun c_158 => ?_) (fun c_158 => ?_)
                      ·
                        refine lv_aload_n hx hb dX12_readStatement_177 rfl (lv_at hl 2 rfl) ?_
                        refine m_geti G X 19 rfl (hwd _ mk_56) rfl dX12_readStatement_178 ?_
                        refine gi_eq (a := 1) rfl ?_
                        refine gn_if_ne (tgt := 212) hx hb dX12_readStatement_181 (by decide) (by omega) (fun c_181 => ?_) (fun c_181 => ?_)
                        ·
                          refine lv_aload_n hx hb dX12_readStatement_212 rfl (lv_at hl 2 rfl) ?_
                          refine lv_bipush (v := nI 59) hx hb dX12_readStatement_213 (by decide) ?_
                          refine ctV_V (wf := []) (As := [.int (nI 59)]) (rest := []) (n := 1) hx hb hml hown hts hK hA (ap_nil X) hl.1 (m_recv G X) (c_take hcl ht0 ht1 (σ := (zp (sE (sE (sE σ 21 (σ.1 20) (σ.1 18)) 22 (σ.1 20) (zch σ ((σ.1 18)))) 23 (σ.1 20) 0) ((σ.1 18) + 0) 1)) 59 (show zpOk (zp (sE (sE (sE σ 21 (σ.1 20) (σ.1 18)) 22 (σ.1 20) (zch σ ((σ.1 18)))) 23 (σ.1 20) 0) ((σ.1 18) + 0) 1) from ⟨q16, q17, (show zpp (σ.1 18, 1) from ⟨q18, by show 1 < 2; decide⟩).1, (show zpp (σ.1 18, 1) from ⟨q18, by show 1 < 2; decide⟩).2⟩) (by decide)) (cwV 1 hts (mg_V mk_55 mk_71 mk_72 mk_73 mk_43) rfl rfl rfl (by decide +kernel) ⟨Nat.le_of_ble_eq_true rfl, Nat.le_of_ble_eq_true rfl⟩) rfl (Nat.le_of_ble_eq_true rfl) dX12_readStatement_215 ⟨Nat.le_refl _, Nat.le_refl _⟩ (fun H locs X => ?_)
                          replace X := ap_nil' X
                          replace X := wh_eq (σ' := (zp (sE (sE (sE σ 21 (σ.1 20) (σ.1 18)) 22 (σ.1 20) (zch σ ((σ.1 18)))) 23 (σ.1 20) 0) ((zst σ 59 ((σ.1 18) + 0, 1)).1) ((zst σ 59 ((σ.1 18) + 0, 1)).2))) zp_zp X
                          refine lv_aload_n hx hb dX12_readStatement_218 rfl (lv_at hl 2 rfl) ?_
                          refine lv_dup hx hb dX12_readStatement_219 rfl ?_
                          refine m_geti G X 20 rfl (hwd _ mk_67) rfl dX12_readStatement_220 ?_
                          refine gi_eq (a := (σ.1 20)) rfl ?_
                          refine lv_iconst (v := nI 1) hx hb dX12_readStatement_223 (by decide) ?_
                          refine gn_iadd hx hb dX12_readStatement_224  ?_
                          refine m_puti G X 20 rfl (hwd _ mk_67) rfl (ty := .int) (by decide +kernel) rfl rfl dX12_readStatement_225 (fun H locs X => ?_)
                          exact fin _ _ _ _ (sF (zp (sE (sE (sE σ 21 (σ.1 20) (σ.1 18)) 22 (σ.1 20) (zch σ ((σ.1 18)))) 23 (σ.1 20) 0) ((zst σ 59 ((σ.1 18) + 0, 1)).1) ((zst σ 59 ((σ.1 18) + 0, 1)).2)) 20 ((σ.1 20) + 1)) (zrs_no (S := (sE (sE (sE σ 21 (σ.1 20) (σ.1 18)) 22 (σ.1 20) (zch σ ((σ.1 18)))) 23 (σ.1 20) 0)) (P := (zst σ 59 ((σ.1 18) + 0, 1))) hby hpo ⟨e_114, e_119, e_115, e_109, e_98, e_97⟩ (zfr_E (zfr_E (zfr_E zfr_0 (by decide) (by decide)) (by decide) (by decide)) (by decide) (by decide)) rfl) X dX12_readStatement_228
                        · exact absurd c_181 (by decide)
                      ·
                        exfalso; omega
                    ·
                      exfalso; omega
