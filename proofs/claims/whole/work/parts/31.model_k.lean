set_option maxHeartbeats 4000000 in
set_option maxRecDepth 100000 in
theorem c_by {l : Launch} {D : va_G} {cl : List vw_C} {tys : List (ClassId × FieldType)} {o : Nat} {q : Nat → Nat} {ci : Nat} {cI cJ : ClassId} (hcl : cl[ci]? = some (RX12, TX12, 48)) (ht0 : tys[0]? = some (cI, .int)) (ht1 : tys[1]? = some (cJ, .long)) {σ : MS} {σ0 : MS} (h15 : σ = sF σ0 15 0) (d : Int32) (w : Int32) (xz : Nat) (wh : Int32) (hok : mOk σ) (hsh : mSh σ) : ctIP l D cl tys yX12_by (Cond.code yX12_by cX12_by 5 (some .int) :: mW) { frames := 6, cells := 0, slots := 0, locals := 153 } [.ref o, .int d, .int w, .int (nI xz), .int wh] (mw o q ci cI cJ σ0) (mw o q ci cI cJ) (zbyS σ d w xz wh) (fun u => mEq σ u) := by
  refine ctIP_of (cc := cX12_by) (maxL := 5) (by decide +kernel) rfl (Nat.le_of_ble_eq_true rfl) ?_
  intro p e s m args below meth c A Q ls hx hb hml hown hts hK hA X hl fin
  replace hown : s.vm.findClass RX12 = some m.cls := hown
  have hwd : ∀ w ∈ mW, w.before args s = true := fun w h => hts w (List.mem_cons_of_mem _ h)
  have G : mG p c cX12_by s m args D cl tys ci cI cJ := ⟨hx, hb, hown, hwd, hK, hcl, ht0, ht1⟩
  replace hl : lv_has ls 5 [(0, .ref o), (1, .int d), (2, .int w), (3, .int (nI xz)), (4, .int wh)] := hl
  obtain ⟨kr, kw, ks, kroad, kworld, ksort, kmet, ksum, kst, kco⟩ := id hok
  obtain ⟨hh, hru, hro, htb, hW, hp28, hth⟩ := id hsh
  have hp : σ.1 28 < 8 ∨ σ.1 28 = 4294967295 := Or.inr hp28
  refine lv_aload_n hx hb dX12_by_0 rfl (lv_at hl 0 rfl) ?_
  refine lv_iconst (v := nI 0) hx hb dX12_by_1 (by decide) ?_
  refine m_puti G X 15 rfl (hwd _ mk_35) rfl (ty := .int) (by decide +kernel) rfl rfl dX12_by_2 (fun H locs X => ?_)
  rw [← h15] at X
  refine lv_iload_n hx hb dX12_by_5 rfl (lv_at hl 1 rfl) ?_
  refine lv_i2l (v := d.toInt64) hx hb dX12_by_6 rfl ?_
  refine lv_lconst (v := lN 0) hx hb dX12_by_7 (by decide) ?_
  refine gn_ldc2 (v := 7) (k := 7) hx hb hown (hwd _ mk_40) (by decide) dX12_by_8 ?_
  refine ctI_S (w := []) (wf := mw o q ci cI cJ σ) (As := [.long d.toInt64, .long (lN 0), .long (lN 7)]) (rest := []) (n := 3) hx hb hml hown hts hK hA X hl.1 (c_in d.toInt64 (lN 0) (lN 7) ) (va_cwS 3 hts (mg_S mk_38 mk_41 mk_42 mk_43) rfl rfl rfl (by decide +kernel) ⟨Nat.le_of_ble_eq_true rfl, Nat.le_of_ble_eq_true rfl⟩) rfl (Nat.le_of_ble_eq_true rfl) dX12_by_11 ⟨Nat.le_refl _, Nat.le_refl _⟩ (fun H locs X => ?_)
  refine gb_if_eq (tgt := 38) hx hb dX12_by_14 (by decide) (fun c_14 => ?_) (fun c_14 => ?_)
  ·
    rw [zi8] at c_14
    refine lv_iconst (v := (-1)) hx hb dX12_by_38 (by decide) ?_
    exact finIP_of (by unfold zbyS; first | (rw [if_pos (fun h9 => c_14 h9.1)]) | (rw [if_pos (fun h9 => c_22 h9.2.1)]) | (rw [if_pos (fun h9 => c_35 h9.2.2)])) (u := σ) (mEq_refl hW) X dX12_by_39 fin
  ·
    rw [zi8] at c_14
    obtain ⟨xd, hxd, rfl⟩ := zi_in (n := 8) (by decide) c_14
    refine lv_aload_n hx hb dX12_by_17 rfl (lv_at hl 0 rfl) ?_
    refine lv_iload_n hx hb dX12_by_18 rfl (lv_at hl 2 rfl) ?_
    refine ctI_V (wf := []) (As := [.int w]) (rest := []) (n := 1) hx hb hml hown hts hK hA (ap_nil X) hl.1 (m_recv G X) (c_isWorld hcl ht0 ht1 (σ := σ) w (hok)) (cwV 1 hts (mg_V mk_44 mk_104 mk_105 mk_106 mk_43) rfl rfl rfl (by decide +kernel) ⟨Nat.le_of_ble_eq_true rfl, Nat.le_of_ble_eq_true rfl⟩) rfl (Nat.le_of_ble_eq_true rfl) dX12_by_19 ⟨Nat.le_refl _, Nat.le_refl _⟩ (fun H locs X => ?_)
    replace X := ap_nil' X
    refine gb_if_eq (tgt := 38) hx hb dX12_by_22 (by decide) (fun c_22 => ?_) (fun c_22 => ?_)
    ·
      refine lv_iconst (v := (-1)) hx hb dX12_by_38 (by decide) ?_
      exact finIP_of (by unfold zbyS; first | (rw [if_pos (fun h9 => c_14 h9.1)]) | (rw [if_pos (fun h9 => c_22 h9.2.1)]) | (rw [if_pos (fun h9 => c_35 h9.2.2)])) (u := σ) (mEq_refl hW) X dX12_by_39 fin
    ·
      obtain ⟨xw, hxw, rfl⟩ := zi_in (n := σ.1 4) (by omega) c_22
      refine lv_iload hx hb dX12_by_25 (lv_at hl 4 rfl) ?_
      refine lv_i2l (v := wh.toInt64) hx hb dX12_by_27 rfl ?_
      refine lv_lconst (v := lN 0) hx hb dX12_by_28 (by decide) ?_
      refine gn_ldc2 (v := 2) (k := 2) hx hb hown (hwd _ mk_102) (by decide) dX12_by_29 ?_
      refine ctI_S (w := []) (wf := mw o q ci cI cJ σ) (As := [.long wh.toInt64, .long (lN 0), .long (lN 2)]) (rest := []) (n := 3) hx hb hml hown hts hK hA X hl.1 (c_in wh.toInt64 (lN 0) (lN 2) ) (va_cwS 3 hts (mg_S mk_38 mk_41 mk_42 mk_43) rfl rfl rfl (by decide +kernel) ⟨Nat.le_of_ble_eq_true rfl, Nat.le_of_ble_eq_true rfl⟩) rfl (Nat.le_of_ble_eq_true rfl) dX12_by_32 ⟨Nat.le_refl _, Nat.le_refl _⟩ (fun H locs X => ?_)
      refine gb_if_ne (tgt := 40) hx hb dX12_by_35 (by decide) (fun c_35 => ?_) (fun c_35 => ?_)
      ·
        rw [zi_n wh (by decide)] at c_35
        refine lv_aload_n hx hb dX12_by_40 rfl (lv_at hl 0 rfl) ?_
        refine lv_iload_n hx hb dX12_by_41 rfl (lv_at hl 1 rfl) ?_
        refine ctI_V (wf := []) (As := [.int (nI xd)]) (rest := []) (n := 1) hx hb hml hown hts hK hA (ap_nil X) hl.1 (m_recv G X) (c_wrongRule hcl ht0 ht1 (σ := σ) xd (hok) (by omega) (hh)) (cwV 1 hts (mg_V mk_237 mk_239 mk_240 mk_241 mk_43) rfl rfl rfl (by decide +kernel) ⟨Nat.le_of_ble_eq_true rfl, Nat.le_of_ble_eq_true rfl⟩) rfl (Nat.le_of_ble_eq_true rfl) dX12_by_42 ⟨Nat.le_refl _, Nat.le_refl _⟩ (fun H locs X => ?_)
        replace X := ap_nil' X
        refine lv_if_ge (tgt := 54) hx hb dX12_by_45 (by decide) (fun c_45 => ?_) (fun c_45 => ?_)
        ·
          have h41 := zrul_1 (hh xd hxd) c_45
          obtain ⟨hk6, hf99⟩ := hru xd hxd h41
          refine lv_aload_n hx hb dX12_by_54 rfl (lv_at hl 0 rfl) ?_
          refine ctI_V (wf := []) (As := []) (rest := []) (n := 0) hx hb hml hown hts hK hA (ap_nil X) hl.1 (m_recv G X) (c_isReady hcl ht0 ht1 (σ := σ)  (kw) (fun w9 hw9 => (kworld w9 hw9).2.1)) (cwV 0 hts (mg_V mk_47 mk_165 mk_166 mk_167 mk_43) rfl rfl rfl (by decide +kernel) ⟨Nat.le_of_ble_eq_true rfl, Nat.le_of_ble_eq_true rfl⟩) rfl (Nat.le_of_ble_eq_true rfl) dX12_by_55 ⟨Nat.le_refl _, Nat.le_refl _⟩ (fun H locs X => ?_)
          replace X := ap_nil' X
          refine gb_if_ne (tgt := 64) hx hb dX12_by_58 (by decide) (fun c_58 => ?_) (fun c_58 => ?_)
          ·
            refine lv_aload_n hx hb dX12_by_64 rfl (lv_at hl 0 rfl) ?_
            refine ctV_V (wf := []) (As := []) (rest := []) (n := 0) hx hb hml hown hts hK hA (ap_nil X) hl.1 (m_recv G X) (c_findWays hcl ht0 ht1 (σ := σ)  (hok) (hW)) (cwV 0 hts (mg_V mk_116 mk_128 mk_129 mk_130 mk_43) rfl rfl rfl (by decide +kernel) ⟨Nat.le_of_ble_eq_true rfl, Nat.le_of_ble_eq_true rfl⟩) rfl (Nat.le_of_ble_eq_true rfl) dX12_by_65 ⟨Nat.le_refl _, Nat.le_refl _⟩ (fun H locs X => ?_)
            replace X := ap_nil' X
            replace X := wh_eq (show sA σ 27 (zws σ (σ.2 27) (σ.1 4)) = zf σ from rfl) X
            replace X := wh_eq (zw_self (zf σ)) X
            refine lv_aload_n hx hb dX12_by_68 rfl (lv_at hl 0 rfl) ?_
            refine lv_iload_n hx hb dX12_by_69 rfl (lv_at hl 2 rfl) ?_
            refine lv_aload_n hx hb dX12_by_70 rfl (lv_at hl 0 rfl) ?_
            refine m_geta G X 42 rfl (hwd _ mk_29) rfl dX12_by_71 ?_
            refine lv_iload_n hx hb dX12_by_74 rfl (lv_at hl 1 rfl) ?_
            refine m_iald G X 42 rfl (i := xd) (by show _ < 8; omega) (by omega) dX12_by_75 ?_
            refine gi_eq (a := (σ.2 42 xd)) rfl ?_
            refine lv_aload_n hx hb dX12_by_76 rfl (lv_at hl 0 rfl) ?_
            refine m_geta G X 43 rfl (hwd _ mk_30) rfl dX12_by_77 ?_
            refine lv_iload_n hx hb dX12_by_80 rfl (lv_at hl 1 rfl) ?_
            refine m_iald G X 43 rfl (i := xd) (by show _ < 8; omega) (by omega) dX12_by_81 ?_
            refine gi_eq (a := (σ.2 43 xd)) rfl ?_
            refine lv_iload_n hx hb dX12_by_82 rfl (lv_at hl 3 rfl) ?_
            refine ctVP_V (wf := []) (As := [.int (nI xw), .int (nI (σ.2 42 xd)), .int (nI (σ.2 43 xd)), .int (nI xz)]) (rest := []) (n := 4) hx hb hml hown hts hK hA (ap_nil X) hl.1 (m_recv G X) (c_walkFromStart hcl ht0 ht1 (σ := (zw (zf σ) (σ.2 29) (σ.2 35) (σ.2 36) (σ.1 30) (σ.1 31) (σ.1 32) (σ.1 33) (σ.1 34))) xw (σ.2 42 xd) (σ.2 43 xd) xz (hok) (hxw) (by omega) (by omega) (zWok_ws hW _) (hp)) (cwV 4 hts (mg_V mk_238 mk_242 mk_243 mk_244 mk_43) rfl rfl rfl (by decide +kernel) ⟨Nat.le_of_ble_eq_true rfl, Nat.le_of_ble_eq_true rfl⟩) rfl (Nat.le_of_ble_eq_true rfl) dX12_by_83 ⟨Nat.le_refl _, Nat.le_refl _⟩ (fun H locs u_83 hu_83 X => ?_)
            replace X := ap_nil' X
            obtain ⟨m_83, v_83, a_83, se_83, rfl⟩ := hu_83
            simp only [zwalk_zw] at X
            replace X := wh_eq (σ' := (zw (zf σ) m_83 v_83 a_83 ((zwalk (zf σ) xw (σ.1 12) (σ.2 42 xd) (σ.2 43 xd) (σ.2 5) xz).2.1) ((zwalk (zf σ) xw (σ.1 12) (σ.2 42 xd) (σ.2 43 xd) (σ.2 5) xz).2.2.1) ((zwalk (zf σ) xw (σ.1 12) (σ.2 42 xd) (σ.2 43 xd) (σ.2 5) xz).2.2.2) ((zwalk (zf σ) xw (σ.1 12) (σ.2 42 xd) (σ.2 43 xd) (σ.2 5) xz).1) se_83)) zw_zw X
            refine lv_iload hx hb dX12_by_86 (lv_at hl 4 rfl) ?_
            refine lv_if_ne (tgt := 110) hx hb dX12_by_88 (by decide) (fun c_88 => ?_) (fun c_88 => ?_)
            ·
              refine lv_iload hx hb dX12_by_110 (lv_at hl 4 rfl) ?_
              refine lv_iconst (v := nI 1) hx hb dX12_by_112 (by decide) ?_
              refine lv_icmp_ne (tgt := 123) hx hb dX12_by_113 (by decide) (fun c_113 => ?_) (fun c_113 => ?_)
              ·
                refine lv_aload_n hx hb dX12_by_123 rfl (lv_at hl 0 rfl) ?_
                refine m_geti G X 32 rfl (hwd _ mk_214) rfl dX12_by_124 ?_
                refine gi_eq (a := ((zwalk (zf σ) xw (σ.1 12) (σ.2 42 xd) (σ.2 43 xd) (σ.2 5) xz).2.2.2)) rfl ?_
                exact finIP_of (by unfold zbyS; rw [if_neg (fun h9 => h9 ⟨c_14, c_22, c_35⟩), ztoNat (show xd < 2147483648 by omega), ztoNat (show xw < 2147483648 by omega), if_neg (Int32.not_lt.mpr c_45), if_neg (fun h9 => h9 c_58)]; unfold zbyQ; first | (rw [if_pos c_88]; unfold zminutes; first | (rw [if_pos c_95]) | (rw [if_neg (by omega)]; done)) | (rw [if_neg c_88, if_pos c_113]) | (rw [if_neg c_88, if_neg c_113])) (u := (zw (zf σ) m_83 v_83 a_83 ((zwalk (zf σ) xw (σ.1 12) (σ.2 42 xd) (σ.2 43 xd) (σ.2 5) xz).2.1) ((zwalk (zf σ) xw (σ.1 12) (σ.2 42 xd) (σ.2 43 xd) (σ.2 5) xz).2.2.1) ((zwalk (zf σ) xw (σ.1 12) (σ.2 42 xd) (σ.2 43 xd) (σ.2 5) xz).2.2.2) ((zwalk (zf σ) xw (σ.1 12) (σ.2 42 xd) (σ.2 43 xd) (σ.2 5) xz).1) se_83)) (mEq_zw hW) X dX12_by_127 fin
              ·
                refine lv_aload_n hx hb dX12_by_116 rfl (lv_at hl 0 rfl) ?_
                refine m_geti G X 31 rfl (hwd _ mk_199) rfl dX12_by_117 ?_
                refine gi_eq (a := ((zwalk (zf σ) xw (σ.1 12) (σ.2 42 xd) (σ.2 43 xd) (σ.2 5) xz).2.2.1)) rfl ?_
                refine lv_goto (tgt := 127) hx hb dX12_by_120 (by decide) ?_
                exact finIP_of (by unfold zbyS; rw [if_neg (fun h9 => h9 ⟨c_14, c_22, c_35⟩), ztoNat (show xd < 2147483648 by omega), ztoNat (show xw < 2147483648 by omega), if_neg (Int32.not_lt.mpr c_45), if_neg (fun h9 => h9 c_58)]; unfold zbyQ; first | (rw [if_pos c_88]; unfold zminutes; first | (rw [if_pos c_95]) | (rw [if_neg (by omega)]; done)) | (rw [if_neg c_88, if_pos c_113]) | (rw [if_neg c_88, if_neg c_113])) (u := (zw (zf σ) m_83 v_83 a_83 ((zwalk (zf σ) xw (σ.1 12) (σ.2 42 xd) (σ.2 43 xd) (σ.2 5) xz).2.1) ((zwalk (zf σ) xw (σ.1 12) (σ.2 42 xd) (σ.2 43 xd) (σ.2 5) xz).2.2.1) ((zwalk (zf σ) xw (σ.1 12) (σ.2 42 xd) (σ.2 43 xd) (σ.2 5) xz).2.2.2) ((zwalk (zf σ) xw (σ.1 12) (σ.2 42 xd) (σ.2 43 xd) (σ.2 5) xz).1) se_83)) (mEq_zw hW) X dX12_by_127 fin
            ·
              refine lv_aload_n hx hb dX12_by_91 rfl (lv_at hl 0 rfl) ?_
              refine m_geti G X 33 rfl (hwd _ mk_215) rfl dX12_by_92 ?_
              refine gi_eq (a := ((zwalk (zf σ) xw (σ.1 12) (σ.2 42 xd) (σ.2 43 xd) (σ.2 5) xz).1)) rfl ?_
              refine gn_if_eq (tgt := 103) hx hb dX12_by_95 (by decide) (zwalk_lost) (fun c_95 => ?_) (fun c_95 => ?_)
              ·
                refine lv_aload_n hx hb dX12_by_103 rfl (lv_at hl 0 rfl) ?_
                refine m_geti G X 30 rfl (hwd _ mk_198) rfl dX12_by_104 ?_
                refine gi_eq (a := ((zwalk (zf σ) xw (σ.1 12) (σ.2 42 xd) (σ.2 43 xd) (σ.2 5) xz).2.1)) rfl ?_
                refine lv_goto (tgt := 127) hx hb dX12_by_107 (by decide) ?_
                exact finIP_of (by unfold zbyS; rw [if_neg (fun h9 => h9 ⟨c_14, c_22, c_35⟩), ztoNat (show xd < 2147483648 by omega), ztoNat (show xw < 2147483648 by omega), if_neg (Int32.not_lt.mpr c_45), if_neg (fun h9 => h9 c_58)]; unfold zbyQ; first | (rw [if_pos c_88]; unfold zminutes; first | (rw [if_pos c_95]) | (rw [if_neg (by omega)]; done)) | (rw [if_neg c_88, if_pos c_113]) | (rw [if_neg c_88, if_neg c_113])) (u := (zw (zf σ) m_83 v_83 a_83 ((zwalk (zf σ) xw (σ.1 12) (σ.2 42 xd) (σ.2 43 xd) (σ.2 5) xz).2.1) ((zwalk (zf σ) xw (σ.1 12) (σ.2 42 xd) (σ.2 43 xd) (σ.2 5) xz).2.2.1) ((zwalk (zf σ) xw (σ.1 12) (σ.2 42 xd) (σ.2 43 xd) (σ.2 5) xz).2.2.2) ((zwalk (zf σ) xw (σ.1 12) (σ.2 42 xd) (σ.2 43 xd) (σ.2 5) xz).1) se_83)) (mEq_zw hW) X dX12_by_127 fin
              ·
                refine gn_ldc (v := 99999) (k := 99999) hx hb hown (hwd _ mk_115) (by decide) dX12_by_98 ?_
                refine lv_goto (tgt := 127) hx hb dX12_by_100 (by decide) ?_
                exact finIP_of (by unfold zbyS; rw [if_neg (fun h9 => h9 ⟨c_14, c_22, c_35⟩), ztoNat (show xd < 2147483648 by omega), ztoNat (show xw < 2147483648 by omega), if_neg (Int32.not_lt.mpr c_45), if_neg (fun h9 => h9 c_58)]; unfold zbyQ; first | (rw [if_pos c_88]; unfold zminutes; first | (rw [if_pos c_95]) | (rw [if_neg (by omega)]; done)) | (rw [if_neg c_88, if_pos c_113]) | (rw [if_neg c_88, if_neg c_113])) (u := (zw (zf σ) m_83 v_83 a_83 ((zwalk (zf σ) xw (σ.1 12) (σ.2 42 xd) (σ.2 43 xd) (σ.2 5) xz).2.1) ((zwalk (zf σ) xw (σ.1 12) (σ.2 42 xd) (σ.2 43 xd) (σ.2 5) xz).2.2.1) ((zwalk (zf σ) xw (σ.1 12) (σ.2 42 xd) (σ.2 43 xd) (σ.2 5) xz).2.2.2) ((zwalk (zf σ) xw (σ.1 12) (σ.2 42 xd) (σ.2 43 xd) (σ.2 5) xz).1) se_83)) (mEq_zw hW) X dX12_by_127 fin
          ·
            refine lv_bipush (v := (-3)) hx hb dX12_by_61 (by decide) ?_
            exact finIP_of (by unfold zbyS; rw [if_neg (fun h9 => h9 ⟨c_14, c_22, c_35⟩), ztoNat (by omega), if_neg (Int32.not_lt.mpr c_45), if_pos c_58]) (u := σ) (mEq_refl hW) X dX12_by_63 fin
        ·
          refine lv_aload_n hx hb dX12_by_48 rfl (lv_at hl 0 rfl) ?_
          refine lv_iload_n hx hb dX12_by_49 rfl (lv_at hl 1 rfl) ?_
          refine ctI_V (wf := []) (As := [.int (nI xd)]) (rest := []) (n := 1) hx hb hml hown hts hK hA (ap_nil X) hl.1 (m_recv G X) (c_wrongRule hcl ht0 ht1 (σ := σ) xd (hok) (by omega) (hh)) (cwV 1 hts (mg_V mk_237 mk_239 mk_240 mk_241 mk_43) rfl rfl rfl (by decide +kernel) ⟨Nat.le_of_ble_eq_true rfl, Nat.le_of_ble_eq_true rfl⟩) rfl (Nat.le_of_ble_eq_true rfl) dX12_by_50 ⟨Nat.le_refl _, Nat.le_refl _⟩ (fun H locs X => ?_)
          replace X := ap_nil' X
          exact finIP_of (by unfold zbyS; rw [if_neg (fun h9 => h9 ⟨c_14, c_22, c_35⟩), ztoNat (by omega), if_pos (Int32.not_le.mp c_45)]) (u := σ) (mEq_refl hW) X dX12_by_53 fin
      ·
        rw [zi_n wh (by decide)] at c_35
        refine lv_iconst (v := (-1)) hx hb dX12_by_38 (by decide) ?_
        exact finIP_of (by unfold zbyS; first | (rw [if_pos (fun h9 => c_14 h9.1)]) | (rw [if_pos (fun h9 => c_22 h9.2.1)]) | (rw [if_pos (fun h9 => c_35 h9.2.2)])) (u := σ) (mEq_refl hW) X dX12_by_39 fin
