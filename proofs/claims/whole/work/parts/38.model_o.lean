set_option maxHeartbeats 4000000 in
set_option maxRecDepth 100000 in
theorem c_keep {l : Launch} {D : va_G} {cl : List vw_C} {tys : List (ClassId × FieldType)} {o : Nat} {q : Nat → Nat} {ci : Nat} {cI cJ : ClassId} (hcl : cl[ci]? = some (RX12, TX12, 48)) (ht0 : tys[0]? = some (cI, .int)) (ht1 : tys[1]? = some (cJ, .long)) {σ : MS} {σ0 : MS} (h15 : σ = sF σ0 15 0) (d : Int32) (w : Int32) (k : Int32) (f : Int32) (hok : mOk σ) (hsh : mSh σ) : ctIP l D cl tys yX12_keep (Cond.code yX12_keep cX12_keep 5 (some .int) :: mW) { frames := 1, cells := 0, slots := 0, locals := 25 } [.ref o, .int d, .int w, .int k, .int f] (mw o q ci cI cJ σ0) (mw o q ci cI cJ) (zkeepSS d w k f) (fun u => mEq (zkeepTT σ d w k f) u) := by
  refine ctIP_of (cc := cX12_keep) (maxL := 5) (by decide +kernel) rfl (Nat.le_of_ble_eq_true rfl) ?_
  intro p e s m args below meth c A Q ls hx hb hml hown hts hK hA X hl fin
  replace hown : s.vm.findClass RX12 = some m.cls := hown
  have hwd : ∀ w ∈ mW, w.before args s = true := fun w h => hts w (List.mem_cons_of_mem _ h)
  have G : mG p c cX12_keep s m args D cl tys ci cI cJ := ⟨hx, hb, hown, hwd, hK, hcl, ht0, ht1⟩
  replace hl : lv_has ls 5 [(0, .ref o), (1, .int d), (2, .int w), (3, .int k), (4, .int f)] := hl
  obtain ⟨kr, kw, ks, kroad, kworld, ksort, kmet, ksum, kst, kco⟩ := id hok
  obtain ⟨hh, hru, hro, htb, hW, hp28, hth⟩ := id hsh
  have hp : σ.1 28 < 8 ∨ σ.1 28 = 4294967295 := Or.inr hp28
  refine lv_aload_n hx hb dX12_keep_0 rfl (lv_at hl 0 rfl) ?_
  refine lv_iconst (v := nI 0) hx hb dX12_keep_1 (by decide) ?_
  refine m_puti G X 15 rfl (hwd _ mk_35) rfl (ty := .int) (by decide +kernel) rfl rfl dX12_keep_2 (fun H locs X => ?_)
  rw [← h15] at X
  refine lv_iload_n hx hb dX12_keep_5 rfl (lv_at hl 1 rfl) ?_
  refine lv_i2l (v := d.toInt64) hx hb dX12_keep_6 rfl ?_
  refine lv_lconst (v := lN 0) hx hb dX12_keep_7 (by decide) ?_
  refine gn_ldc2 (v := 7) (k := 7) hx hb hown (hwd _ mk_40) (by decide) dX12_keep_8 ?_
  refine ctI_S (w := []) (wf := mw o q ci cI cJ σ) (As := [.long d.toInt64, .long (lN 0), .long (lN 7)]) (rest := []) (n := 3) hx hb hml hown hts hK hA X hl.1 (c_in d.toInt64 (lN 0) (lN 7) ) (va_cwS 3 hts (mg_S mk_38 mk_41 mk_42 mk_43) rfl rfl rfl (by decide +kernel) ⟨Nat.le_of_ble_eq_true rfl, Nat.le_of_ble_eq_true rfl⟩) rfl (Nat.le_of_ble_eq_true rfl) dX12_keep_11 ⟨Nat.le_refl _, Nat.le_refl _⟩ (fun H locs X => ?_)
  refine gb_if_eq (tgt := 57) hx hb dX12_keep_14 (by decide) (fun c_14 => ?_) (fun c_14 => ?_)
  ·
    rw [zi8] at c_14
    refine lv_iconst (v := (-1)) hx hb dX12_keep_57 (by decide) ?_
    exact finIP_of (by unfold zkeepSS; (first | (rw [if_neg (fun h9 => c_14 h9.1)]) | (rw [if_neg (fun h9 => c_24 h9.2.1)]) | (rw [if_neg (fun h9 => c_41 (h9.2.2 (by rw [c_29])).1)]) | (rw [if_neg (fun h9 => c_54 (h9.2.2 (by rw [c_29])).2)]))) (u := σ) (by unfold zkeepTT; (first | (rw [if_neg (fun h9 => c_14 h9.1)]) | (rw [if_neg (fun h9 => c_24 h9.2.1)]) | (rw [if_neg (fun h9 => c_41 (h9.2.2 (by rw [c_29])).1)]) | (rw [if_neg (fun h9 => c_54 (h9.2.2 (by rw [c_29])).2)])); exact mEq_refl hW) X dX12_keep_58 fin
  ·
    rw [zi8] at c_14
    obtain ⟨xd, hxd, rfl⟩ := zi_in (n := 8) (by decide) c_14
    refine lv_iload_n hx hb dX12_keep_17 rfl (lv_at hl 2 rfl) ?_
    refine lv_i2l (v := w.toInt64) hx hb dX12_keep_18 rfl ?_
    refine lv_lconst (v := lN 0) hx hb dX12_keep_19 (by decide) ?_
    refine lv_lconst (v := lN 1) hx hb dX12_keep_20 (by decide) ?_
    refine ctI_S (w := []) (wf := mw o q ci cI cJ σ) (As := [.long w.toInt64, .long (lN 0), .long (lN 1)]) (rest := []) (n := 3) hx hb hml hown hts hK hA X hl.1 (c_in w.toInt64 (lN 0) (lN 1) ) (va_cwS 3 hts (mg_S mk_38 mk_41 mk_42 mk_43) rfl rfl rfl (by decide +kernel) ⟨Nat.le_of_ble_eq_true rfl, Nat.le_of_ble_eq_true rfl⟩) rfl (Nat.le_of_ble_eq_true rfl) dX12_keep_21 ⟨Nat.le_refl _, Nat.le_refl _⟩ (fun H locs X => ?_)
    refine gb_if_eq (tgt := 57) hx hb dX12_keep_24 (by decide) (fun c_24 => ?_) (fun c_24 => ?_)
    ·
      rw [zi_n w (n := 1) (by decide)] at c_24
      refine lv_iconst (v := (-1)) hx hb dX12_keep_57 (by decide) ?_
      exact finIP_of (by unfold zkeepSS; (first | (rw [if_neg (fun h9 => c_14 h9.1)]) | (rw [if_neg (fun h9 => c_24 h9.2.1)]) | (rw [if_neg (fun h9 => c_41 (h9.2.2 (by rw [c_29])).1)]) | (rw [if_neg (fun h9 => c_54 (h9.2.2 (by rw [c_29])).2)]))) (u := σ) (by unfold zkeepTT; (first | (rw [if_neg (fun h9 => c_14 h9.1)]) | (rw [if_neg (fun h9 => c_24 h9.2.1)]) | (rw [if_neg (fun h9 => c_41 (h9.2.2 (by rw [c_29])).1)]) | (rw [if_neg (fun h9 => c_54 (h9.2.2 (by rw [c_29])).2)])); exact mEq_refl hW) X dX12_keep_58 fin
    ·
      rw [zi_n w (n := 1) (by decide)] at c_24
      obtain ⟨xw, hxw, rfl⟩ := zi_in (n := 2) (by omega) c_24
      refine lv_iload_n hx hb dX12_keep_27 rfl (lv_at hl 2 rfl) ?_
      refine lv_iconst (v := nI 1) hx hb dX12_keep_28 (by decide) ?_
      refine gn_icmp_ne (tgt := 59) hx hb dX12_keep_29 (by decide) (by omega) (by omega) (fun c_29 => ?_) (fun c_29 => ?_)
      ·
        refine lv_aload_n hx hb dX12_keep_59 rfl (lv_at hl 0 rfl) ?_
        refine m_geta G X 41 rfl (hwd _ mk_28) rfl dX12_keep_60 ?_
        refine lv_iload_n hx hb dX12_keep_63 rfl (lv_at hl 1 rfl) ?_
        refine lv_iload_n hx hb dX12_keep_64 rfl (lv_at hl 2 rfl) ?_
        refine m_iast G X 41 rfl (i := xd) (v := xw) (by show _ < 8; omega) (by omega) dX12_keep_65 (fun H locs X => ?_)
        refine lv_aload_n hx hb dX12_keep_66 rfl (lv_at hl 0 rfl) ?_
        refine m_geta G X 42 rfl (hwd _ mk_29) rfl dX12_keep_67 ?_
        refine lv_iload_n hx hb dX12_keep_70 rfl (lv_at hl 1 rfl) ?_
        refine lv_iload_n hx hb dX12_keep_71 rfl (lv_at hl 3 rfl) ?_
        refine gi_asN ?_
        refine m_iast G X 42 rfl (i := xd) (v := (iN k)) (by show _ < 8; omega) (by omega) dX12_keep_72 (fun H locs X => ?_)
        refine lv_aload_n hx hb dX12_keep_73 rfl (lv_at hl 0 rfl) ?_
        refine m_geta G X 43 rfl (hwd _ mk_30) rfl dX12_keep_74 ?_
        refine lv_iload_n hx hb dX12_keep_77 rfl (lv_at hl 1 rfl) ?_
        refine lv_iload hx hb dX12_keep_78 (lv_at hl 4 rfl) ?_
        refine gi_asN ?_
        refine m_iast G X 43 rfl (i := xd) (v := (iN f)) (by show _ < 8; omega) (by omega) dX12_keep_80 (fun H locs X => ?_)
        refine lv_iconst (v := nI 0) hx hb dX12_keep_81 (by decide) ?_
        exact finIP_of (by unfold zkeepSS; rw [if_pos ⟨c_14, c_24, fun h9 => by first | exact ⟨c_41, c_54⟩ | (rw [zn_eq32 (by omega) (by omega)] at h9; exact absurd h9 c_29)⟩]) (u := (sE (sE (sE σ 41 xd xw) 42 xd (iN k)) 43 xd (iN f))) (by unfold zkeepTT; rw [if_pos ⟨c_14, c_24, fun h9 => by first | exact ⟨c_41, c_54⟩ | (rw [zn_eq32 (by omega) (by omega)] at h9; exact absurd h9 c_29)⟩]; rw [ztoNat (show xd < 2147483648 by omega), ztoNat (show xw < 2147483648 by omega)]; exact mEq_refl hW) X dX12_keep_82 fin
      ·
        refine lv_iload_n hx hb dX12_keep_32 rfl (lv_at hl 3 rfl) ?_
        refine lv_i2l (v := k.toInt64) hx hb dX12_keep_33 rfl ?_
        refine lv_lconst (v := lN 0) hx hb dX12_keep_34 (by decide) ?_
        refine gn_ldc2 (v := 5) (k := 5) hx hb hown (hwd _ mk_260) (by decide) dX12_keep_35 ?_
        refine ctI_S (w := []) (wf := mw o q ci cI cJ σ) (As := [.long k.toInt64, .long (lN 0), .long (lN 5)]) (rest := []) (n := 3) hx hb hml hown hts hK hA X hl.1 (c_in k.toInt64 (lN 0) (lN 5) ) (va_cwS 3 hts (mg_S mk_38 mk_41 mk_42 mk_43) rfl rfl rfl (by decide +kernel) ⟨Nat.le_of_ble_eq_true rfl, Nat.le_of_ble_eq_true rfl⟩) rfl (Nat.le_of_ble_eq_true rfl) dX12_keep_38 ⟨Nat.le_refl _, Nat.le_refl _⟩ (fun H locs X => ?_)
        refine gb_if_eq (tgt := 57) hx hb dX12_keep_41 (by decide) (fun c_41 => ?_) (fun c_41 => ?_)
        ·
          rw [zi_n k (by decide)] at c_41
          refine lv_iconst (v := (-1)) hx hb dX12_keep_57 (by decide) ?_
          exact finIP_of (by unfold zkeepSS; (first | (rw [if_neg (fun h9 => c_14 h9.1)]) | (rw [if_neg (fun h9 => c_24 h9.2.1)]) | (rw [if_neg (fun h9 => c_41 (h9.2.2 (by rw [c_29])).1)]) | (rw [if_neg (fun h9 => c_54 (h9.2.2 (by rw [c_29])).2)]))) (u := σ) (by unfold zkeepTT; (first | (rw [if_neg (fun h9 => c_14 h9.1)]) | (rw [if_neg (fun h9 => c_24 h9.2.1)]) | (rw [if_neg (fun h9 => c_41 (h9.2.2 (by rw [c_29])).1)]) | (rw [if_neg (fun h9 => c_54 (h9.2.2 (by rw [c_29])).2)])); exact mEq_refl hW) X dX12_keep_58 fin
        ·
          rw [zi_n k (by decide)] at c_41
          refine lv_iload hx hb dX12_keep_44 (lv_at hl 4 rfl) ?_
          refine lv_i2l (v := f.toInt64) hx hb dX12_keep_46 rfl ?_
          refine lv_lconst (v := lN 0) hx hb dX12_keep_47 (by decide) ?_
          refine gn_ldc2 (v := 99) (k := 99) hx hb hown (hwd _ mk_258) (by decide) dX12_keep_48 ?_
          refine ctI_S (w := []) (wf := mw o q ci cI cJ σ) (As := [.long f.toInt64, .long (lN 0), .long (lN 99)]) (rest := []) (n := 3) hx hb hml hown hts hK hA X hl.1 (c_in f.toInt64 (lN 0) (lN 99) ) (va_cwS 3 hts (mg_S mk_38 mk_41 mk_42 mk_43) rfl rfl rfl (by decide +kernel) ⟨Nat.le_of_ble_eq_true rfl, Nat.le_of_ble_eq_true rfl⟩) rfl (Nat.le_of_ble_eq_true rfl) dX12_keep_51 ⟨Nat.le_refl _, Nat.le_refl _⟩ (fun H locs X => ?_)
          refine gb_if_ne (tgt := 59) hx hb dX12_keep_54 (by decide) (fun c_54 => ?_) (fun c_54 => ?_)
          ·
            rw [zi_n f (by decide)] at c_54
            refine lv_aload_n hx hb dX12_keep_59 rfl (lv_at hl 0 rfl) ?_
            refine m_geta G X 41 rfl (hwd _ mk_28) rfl dX12_keep_60 ?_
            refine lv_iload_n hx hb dX12_keep_63 rfl (lv_at hl 1 rfl) ?_
            refine lv_iload_n hx hb dX12_keep_64 rfl (lv_at hl 2 rfl) ?_
            refine m_iast G X 41 rfl (i := xd) (v := xw) (by show _ < 8; omega) (by omega) dX12_keep_65 (fun H locs X => ?_)
            refine lv_aload_n hx hb dX12_keep_66 rfl (lv_at hl 0 rfl) ?_
            refine m_geta G X 42 rfl (hwd _ mk_29) rfl dX12_keep_67 ?_
            refine lv_iload_n hx hb dX12_keep_70 rfl (lv_at hl 1 rfl) ?_
            refine lv_iload_n hx hb dX12_keep_71 rfl (lv_at hl 3 rfl) ?_
            refine gi_asN ?_
            refine m_iast G X 42 rfl (i := xd) (v := (iN k)) (by show _ < 8; omega) (by omega) dX12_keep_72 (fun H locs X => ?_)
            refine lv_aload_n hx hb dX12_keep_73 rfl (lv_at hl 0 rfl) ?_
            refine m_geta G X 43 rfl (hwd _ mk_30) rfl dX12_keep_74 ?_
            refine lv_iload_n hx hb dX12_keep_77 rfl (lv_at hl 1 rfl) ?_
            refine lv_iload hx hb dX12_keep_78 (lv_at hl 4 rfl) ?_
            refine gi_asN ?_
            refine m_iast G X 43 rfl (i := xd) (v := (iN f)) (by show _ < 8; omega) (by omega) dX12_keep_80 (fun H locs X => ?_)
            refine lv_iconst (v := nI 0) hx hb dX12_keep_81 (by decide) ?_
            exact finIP_of (by unfold zkeepSS; rw [if_pos ⟨c_14, c_24, fun h9 => by first | exact ⟨c_41, c_54⟩ | (rw [zn_eq32 (by omega) (by omega)] at h9; exact absurd h9 c_29)⟩]) (u := (sE (sE (sE σ 41 xd xw) 42 xd (iN k)) 43 xd (iN f))) (by unfold zkeepTT; rw [if_pos ⟨c_14, c_24, fun h9 => by first | exact ⟨c_41, c_54⟩ | (rw [zn_eq32 (by omega) (by omega)] at h9; exact absurd h9 c_29)⟩]; rw [ztoNat (show xd < 2147483648 by omega), ztoNat (show xw < 2147483648 by omega)]; exact mEq_refl hW) X dX12_keep_82 fin
          ·
            rw [zi_n f (by decide)] at c_54
            refine lv_iconst (v := (-1)) hx hb dX12_keep_57 (by decide) ?_
            exact finIP_of (by unfold zkeepSS; (first | (rw [if_neg (fun h9 => c_14 h9.1)]) | (rw [if_neg (fun h9 => c_24 h9.2.1)]) | (rw [if_neg (fun h9 => c_41 (h9.2.2 (by rw [c_29])).1)]) | (rw [if_neg (fun h9 => c_54 (h9.2.2 (by rw [c_29])).2)]))) (u := σ) (by unfold zkeepTT; (first | (rw [if_neg (fun h9 => c_14 h9.1)]) | (rw [if_neg (fun h9 => c_24 h9.2.1)]) | (rw [if_neg (fun h9 => c_41 (h9.2.2 (by rw [c_29])).1)]) | (rw [if_neg (fun h9 => c_54 (h9.2.2 (by rw [c_29])).2)])); exact mEq_refl hW) X dX12_keep_58 fin
set_option maxHeartbeats 4000000 in
set_option maxRecDepth 100000 in
theorem c_put {l : Launch} {D : va_G} {cl : List vw_C} {tys : List (ClassId × FieldType)} {o : Nat} {q : Nat → Nat} {ci : Nat} {cI cJ : ClassId} (hcl : cl[ci]? = some (RX12, TX12, 48)) (ht0 : tys[0]? = some (cI, .int)) (ht1 : tys[1]? = some (cJ, .long)) {σ : MS} {σ0 : MS} (h15 : σ = sF σ0 15 0) (d : Int32) (y : Int32) (v : Int32) (hok : mOk σ) (hsh : mSh σ) : ctIP l D cl tys yX12_put (Cond.code yX12_put cX12_put 5 (some .int) :: mW) { frames := 2, cells := 0, slots := 0, locals := 46 } [.ref o, .int d, .int y, .int v] (mw o q ci cI cJ σ0) (mw o q ci cI cJ) (zputS σ d y) (fun u => mEq (zputT σ d y v) u) := by
  refine ctIP_of (cc := cX12_put) (maxL := 5) (by decide +kernel) rfl (Nat.le_of_ble_eq_true rfl) ?_
  intro p e s m args below meth c A Q ls hx hb hml hown hts hK hA X hl fin
  replace hown : s.vm.findClass RX12 = some m.cls := hown
  have hwd : ∀ w ∈ mW, w.before args s = true := fun w h => hts w (List.mem_cons_of_mem _ h)
  have G : mG p c cX12_put s m args D cl tys ci cI cJ := ⟨hx, hb, hown, hwd, hK, hcl, ht0, ht1⟩
  replace hl : lv_has ls 5 [(0, .ref o), (1, .int d), (2, .int y), (3, .int v)] := hl
  obtain ⟨kr, kw, ks, kroad, kworld, ksort, kmet, ksum, kst, kco⟩ := id hok
  obtain ⟨hh, hru, hro, htb, hW, hp28, hth⟩ := id hsh
  have hp : σ.1 28 < 8 ∨ σ.1 28 = 4294967295 := Or.inr hp28
  refine lv_aload_n hx hb dX12_put_0 rfl (lv_at hl 0 rfl) ?_
  refine lv_iconst (v := nI 0) hx hb dX12_put_1 (by decide) ?_
  refine m_puti G X 15 rfl (hwd _ mk_35) rfl (ty := .int) (by decide +kernel) rfl rfl dX12_put_2 (fun H locs X => ?_)
  rw [← h15] at X
  refine lv_aload_n hx hb dX12_put_5 rfl (lv_at hl 0 rfl) ?_
  refine lv_iload_n hx hb dX12_put_6 rfl (lv_at hl 1 rfl) ?_
  refine ctI_V (wf := []) (As := [.int d]) (rest := []) (n := 1) hx hb hml hown hts hK hA (ap_nil X) hl.1 (m_recv G X) (c_wrongRow hcl ht0 ht1 (σ := σ) d (hok) (hh)) (cwV 1 hts (mg_V mk_86 mk_88 mk_89 mk_90 mk_43) rfl rfl rfl (by decide +kernel) ⟨Nat.le_of_ble_eq_true rfl, Nat.le_of_ble_eq_true rfl⟩) rfl (Nat.le_of_ble_eq_true rfl) dX12_put_7 ⟨Nat.le_refl _, Nat.le_refl _⟩ (fun H locs X => ?_)
  replace X := ap_nil' X
  refine lv_istore (lv' := [(4, .int (zrowK σ d)), (0, .ref o), (1, .int d), (2, .int y), (3, .int v)]) hx hb dX12_put_10 hl (by decide) rfl (fun ls hl => ?_)
  refine lv_iload hx hb dX12_put_12 (lv_at hl 0 rfl) ?_
  refine lv_if_ge (tgt := 20) hx hb dX12_put_14 (by decide) (fun c_14 => ?_) (fun c_14 => ?_)
  ·
    obtain ⟨g1, g2⟩ := zrowK_in hh c_14
    obtain ⟨xd, hxd, rfl⟩ := zi_in (n := 8) (by decide) g1
    rw [ztoNat (show xd < 2147483648 by omega)] at g2
    obtain ⟨hs3, hm100⟩ := hro xd hxd g2
    refine lv_iload_n hx hb dX12_put_20 rfl (lv_at hl 3 rfl) ?_
    refine lv_i2l (v := y.toInt64) hx hb dX12_put_21 rfl ?_
    refine lv_lconst (v := lN 0) hx hb dX12_put_22 (by decide) ?_
    refine lv_aload_n hx hb dX12_put_23 rfl (lv_at hl 1 rfl) ?_
    refine m_geta G X 45 rfl (hwd _ mk_32) rfl dX12_put_24 ?_
    refine lv_iload_n hx hb dX12_put_27 rfl (lv_at hl 2 rfl) ?_
    refine m_iald G X 45 rfl (i := xd) (by show _ < 8; omega) (by omega) dX12_put_28 ?_
    refine lv_iconst (v := nI 1) hx hb dX12_put_29 (by decide) ?_
    refine lv_isub hx hb dX12_put_30 ?_
    refine lv_i2l (v := (nI (σ.2 45 xd) - nI 1).toInt64) hx hb dX12_put_31 rfl ?_
    refine ctI_S (w := []) (wf := mw o q ci cI cJ σ) (As := [.long y.toInt64, .long (lN 0), .long ((nI (σ.2 45 xd) - nI 1).toInt64)]) (rest := []) (n := 3) hx hb hml hown hts hK hA X hl.1 (c_in y.toInt64 (lN 0) ((nI (σ.2 45 xd) - nI 1).toInt64) ) (va_cwS 3 hts (mg_S mk_38 mk_41 mk_42 mk_43) rfl rfl rfl (by decide +kernel) ⟨Nat.le_of_ble_eq_true rfl, Nat.le_of_ble_eq_true rfl⟩) rfl (Nat.le_of_ble_eq_true rfl) dX12_put_32 ⟨Nat.le_refl _, Nat.le_refl _⟩ (fun H locs X => ?_)
    refine gb_if_ne (tgt := 41) hx hb dX12_put_35 (by decide) (fun c_35 => ?_) (fun c_35 => ?_)
    ·
      rw [zi_m1 y (by omega)] at c_35
      obtain ⟨xi, hxi, rfl⟩ := zi_in (n := σ.2 45 xd) (by omega) c_35
      refine lv_aload_n hx hb dX12_put_41 rfl (lv_at hl 1 rfl) ?_
      refine m_geta G X 46 rfl (hwd _ mk_33) rfl dX12_put_42 ?_
      refine lv_bipush (v := nI 100) hx hb dX12_put_45 (by decide) ?_
      refine lv_iload_n hx hb dX12_put_47 rfl (lv_at hl 2 rfl) ?_
      refine gn_imul hx hb dX12_put_48  ?_
      refine lv_iload_n hx hb dX12_put_49 rfl (lv_at hl 3 rfl) ?_
      refine gn_iadd hx hb dX12_put_50  ?_
      refine lv_iload_n hx hb dX12_put_51 rfl (lv_at hl 4 rfl) ?_
      refine lv_aload_n hx hb dX12_put_52 rfl (lv_at hl 1 rfl) ?_
      refine m_geta G X 44 rfl (hwd _ mk_31) rfl dX12_put_53 ?_
      refine lv_iload_n hx hb dX12_put_56 rfl (lv_at hl 2 rfl) ?_
      refine m_iald G X 44 rfl (i := xd) (by show _ < 8; omega) (by omega) dX12_put_57 ?_
      refine ctL_S (w := []) (wf := mw o q ci cI cJ σ) (As := [.int v, .int (nI (σ.2 44 xd))]) (rest := [.int (nI ((100 * xd) + xi)), .ref (q 46)]) (n := 2) hx hb hml hown hts hK hA X hl.1 (c_narrowed v (σ.2 44 xd) (by omega)) (va_cwS 2 hts (mg_S mk_282 mk_285 mk_286 mk_43) rfl rfl rfl (by decide +kernel) ⟨Nat.le_of_ble_eq_true rfl, Nat.le_of_ble_eq_true rfl⟩) rfl (Nat.le_of_ble_eq_true rfl) dX12_put_58 ⟨Nat.le_refl _, Nat.le_refl _⟩ (fun H locs X => ?_)
      refine gl_asN ?_
      refine m_last G X 46 rfl (i := ((100 * xd) + xi)) (v := (lNN (znar v (σ.2 44 xd)))) (by show _ < 800; omega) (by omega) dX12_put_61 (fun H locs X => ?_)
      refine lv_iconst (v := nI 0) hx hb dX12_put_62 (by decide) ?_
      exact finIP_of (by unfold zputS; rw [if_neg (Int32.not_lt.mpr c_14), ztoNat (show xd < 2147483648 by omega), if_neg (fun h9 => h9 c_35)]) (u := (sE σ 46 ((100 * xd) + xi) (lNN (znar v (σ.2 44 xd))))) (by unfold zputT; rw [if_neg (Int32.not_lt.mpr c_14), ztoNat (show xd < 2147483648 by omega), if_neg (fun h9 => h9 c_35), ztoNat (show xi < 2147483648 by omega)]; exact mEq_refl hW) X dX12_put_63 fin
    ·
      rw [zi_m1 y (by omega)] at c_35
      refine lv_bipush (v := (-13)) hx hb dX12_put_38 (by decide) ?_
      exact finIP_of (by unfold zputS; rw [if_neg (Int32.not_lt.mpr c_14), ztoNat (show xd < 2147483648 by omega), if_pos c_35]) (u := σ) (by unfold zputT; rw [if_neg (Int32.not_lt.mpr c_14), ztoNat (show xd < 2147483648 by omega), if_pos c_35]; exact mEq_refl hW) X dX12_put_40 fin
  ·
    refine lv_iload hx hb dX12_put_17 (lv_at hl 0 rfl) ?_
    exact finIP_of (by unfold zputS; rw [if_pos (Int32.not_le.mp c_14)]) (u := σ) (by unfold zputT; rw [if_pos (Int32.not_le.mp c_14)]; exact mEq_refl hW) X dX12_put_19 fin
set_option maxHeartbeats 4000000 in
set_option maxRecDepth 100000 in
theorem c_row {l : Launch} {D : va_G} {cl : List vw_C} {tys : List (ClassId × FieldType)} {o : Nat} {q : Nat → Nat} {ci : Nat} {cI cJ : ClassId} (hcl : cl[ci]? = some (RX12, TX12, 48)) (ht0 : tys[0]? = some (cI, .int)) (ht1 : tys[1]? = some (cJ, .long)) {σ : MS} {σ0 : MS} (h15 : σ = sF σ0 15 0) (d : Int32) (t : Int32) (n : Int32) (hok : mOk σ) (hsh : mSh σ) : ctIP l D cl tys yX12_row (Cond.code yX12_row cX12_row 5 (some .int) :: mW) { frames := 1, cells := 0, slots := 0, locals := 25 } [.ref o, .int d, .int t, .int n] (mw o q ci cI cJ σ0) (mw o q ci cI cJ) (zrowS d t n) (fun u => mEq (zrowT σ d t n) u) := by
  refine ctIP_of (cc := cX12_row) (maxL := 5) (by decide +kernel) rfl (Nat.le_of_ble_eq_true rfl) ?_
  intro p e s m args below meth c A Q ls hx hb hml hown hts hK hA X hl fin
  replace hown : s.vm.findClass RX12 = some m.cls := hown
  have hwd : ∀ w ∈ mW, w.before args s = true := fun w h => hts w (List.mem_cons_of_mem _ h)
  have G : mG p c cX12_row s m args D cl tys ci cI cJ := ⟨hx, hb, hown, hwd, hK, hcl, ht0, ht1⟩
  replace hl : lv_has ls 5 [(0, .ref o), (1, .int d), (2, .int t), (3, .int n)] := hl
  obtain ⟨kr, kw, ks, kroad, kworld, ksort, kmet, ksum, kst, kco⟩ := id hok
  obtain ⟨hh, hru, hro, htb, hW, hp28, hth⟩ := id hsh
  have hp : σ.1 28 < 8 ∨ σ.1 28 = 4294967295 := Or.inr hp28
  refine lv_aload_n hx hb dX12_row_0 rfl (lv_at hl 0 rfl) ?_
  refine lv_iconst (v := nI 0) hx hb dX12_row_1 (by decide) ?_
  refine m_puti G X 15 rfl (hwd _ mk_35) rfl (ty := .int) (by decide +kernel) rfl rfl dX12_row_2 (fun H locs X => ?_)
  rw [← h15] at X
  refine lv_iload_n hx hb dX12_row_5 rfl (lv_at hl 1 rfl) ?_
  refine lv_i2l (v := d.toInt64) hx hb dX12_row_6 rfl ?_
  refine lv_lconst (v := lN 0) hx hb dX12_row_7 (by decide) ?_
  refine gn_ldc2 (v := 7) (k := 7) hx hb hown (hwd _ mk_40) (by decide) dX12_row_8 ?_
  refine ctI_S (w := []) (wf := mw o q ci cI cJ σ) (As := [.long d.toInt64, .long (lN 0), .long (lN 7)]) (rest := []) (n := 3) hx hb hml hown hts hK hA X hl.1 (c_in d.toInt64 (lN 0) (lN 7) ) (va_cwS 3 hts (mg_S mk_38 mk_41 mk_42 mk_43) rfl rfl rfl (by decide +kernel) ⟨Nat.le_of_ble_eq_true rfl, Nat.le_of_ble_eq_true rfl⟩) rfl (Nat.le_of_ble_eq_true rfl) dX12_row_11 ⟨Nat.le_refl _, Nat.le_refl _⟩ (fun H locs X => ?_)
  refine gb_if_eq (tgt := 35) hx hb dX12_row_14 (by decide) (fun c_14 => ?_) (fun c_14 => ?_)
  ·
    rw [zi8] at c_14
    refine lv_iconst (v := (-1)) hx hb dX12_row_35 (by decide) ?_
    exact finIP_of (by unfold zrowS; rw [if_pos (fun h9 => by first | exact c_14 h9.1 | exact c_26 h9.2.1 | exact c_32 h9.2.2)]) (u := σ) (by unfold zrowT; rw [if_pos (fun h9 => by first | exact c_14 h9.1 | exact c_26 h9.2.1 | exact c_32 h9.2.2)]; exact mEq_refl hW) X dX12_row_36 fin
  ·
    rw [zi8] at c_14
    obtain ⟨xd, hxd, rfl⟩ := zi_in (n := 8) (by decide) c_14
    refine lv_iload_n hx hb dX12_row_17 rfl (lv_at hl 2 rfl) ?_
    refine lv_i2l (v := t.toInt64) hx hb dX12_row_18 rfl ?_
    refine lv_lconst (v := lN 0) hx hb dX12_row_19 (by decide) ?_
    refine gn_ldc2 (v := 2) (k := 2) hx hb hown (hwd _ mk_102) (by decide) dX12_row_20 ?_
    refine ctI_S (w := []) (wf := mw o q ci cI cJ σ) (As := [.long t.toInt64, .long (lN 0), .long (lN 2)]) (rest := []) (n := 3) hx hb hml hown hts hK hA X hl.1 (c_in t.toInt64 (lN 0) (lN 2) ) (va_cwS 3 hts (mg_S mk_38 mk_41 mk_42 mk_43) rfl rfl rfl (by decide +kernel) ⟨Nat.le_of_ble_eq_true rfl, Nat.le_of_ble_eq_true rfl⟩) rfl (Nat.le_of_ble_eq_true rfl) dX12_row_23 ⟨Nat.le_refl _, Nat.le_refl _⟩ (fun H locs X => ?_)
    refine gb_if_eq (tgt := 35) hx hb dX12_row_26 (by decide) (fun c_26 => ?_) (fun c_26 => ?_)
    ·
      rw [zi_n t (by decide)] at c_26
      refine lv_iconst (v := (-1)) hx hb dX12_row_35 (by decide) ?_
      exact finIP_of (by unfold zrowS; rw [if_pos (fun h9 => by first | exact c_14 h9.1 | exact c_26 h9.2.1 | exact c_32 h9.2.2)]) (u := σ) (by unfold zrowT; rw [if_pos (fun h9 => by first | exact c_14 h9.1 | exact c_26 h9.2.1 | exact c_32 h9.2.2)]; exact mEq_refl hW) X dX12_row_36 fin
    ·
      rw [zi_n t (by decide)] at c_26
      obtain ⟨xt, hxt, rfl⟩ := zi_in (n := 3) (by omega) c_26
      refine lv_iload_n hx hb dX12_row_29 rfl (lv_at hl 3 rfl) ?_
      refine lv_bipush (v := nI 100) hx hb dX12_row_30 (by decide) ?_
      refine lv_icmp_le (tgt := 37) hx hb dX12_row_32 (by decide) (fun c_32 => ?_) (fun c_32 => ?_)
      ·
        refine lv_iload_n hx hb dX12_row_37 rfl (lv_at hl 3 rfl) ?_
        refine lv_if_ge (tgt := 44) hx hb dX12_row_38 (by decide) (fun c_38 => ?_) (fun c_38 => ?_)
        ·
          obtain ⟨xn, hxn, rfl⟩ := zi_nn c_32 (Int32.not_lt.mpr c_38)
          refine lv_aload_n hx hb dX12_row_44 rfl (lv_at hl 0 rfl) ?_
          refine m_geta G X 41 rfl (hwd _ mk_28) rfl dX12_row_45 ?_
          refine lv_iload_n hx hb dX12_row_48 rfl (lv_at hl 1 rfl) ?_
          refine lv_iconst (v := nI 2) hx hb dX12_row_49 (by decide) ?_
          refine m_iast G X 41 rfl (i := xd) (v := 2) (by show _ < 8; omega) (by omega) dX12_row_50 (fun H locs X => ?_)
          refine lv_aload_n hx hb dX12_row_51 rfl (lv_at hl 0 rfl) ?_
          refine m_geta G X 44 rfl (hwd _ mk_31) rfl dX12_row_52 ?_
          refine lv_iload_n hx hb dX12_row_55 rfl (lv_at hl 1 rfl) ?_
          refine lv_iload_n hx hb dX12_row_56 rfl (lv_at hl 2 rfl) ?_
          refine m_iast G X 44 rfl (i := xd) (v := xt) (by show _ < 8; omega) (by omega) dX12_row_57 (fun H locs X => ?_)
          refine lv_aload_n hx hb dX12_row_58 rfl (lv_at hl 0 rfl) ?_
          refine m_geta G X 45 rfl (hwd _ mk_32) rfl dX12_row_59 ?_
          refine lv_iload_n hx hb dX12_row_62 rfl (lv_at hl 1 rfl) ?_
          refine lv_iload_n hx hb dX12_row_63 rfl (lv_at hl 3 rfl) ?_
          refine m_iast G X 45 rfl (i := xd) (v := xn) (by show _ < 8; omega) (by omega) dX12_row_64 (fun H locs X => ?_)
          refine lv_iconst (v := nI 0) hx hb dX12_row_65 (by decide) ?_
          refine lv_istore (lv' := [(4, .int (nI 0)), (0, .ref o), (1, .int (nI xd)), (2, .int (nI xt)), (3, .int (nI xn))]) hx hb dX12_row_66 hl (by decide) rfl (fun ls hl => ?_)
          have cut_68 : ∀ (NN : Nat) (i1 : Nat) (h1 : i1 ≤ 100), 100 - i1 < NN → ∀ (H : Heap) (locs : List Loc) (ls : Array Slot), wH D cl A s.heap H locs (mw o q ci cI cJ (sA (sE (sE (sE σ 41 xd 2) 44 xd xt) 45 xd xn) 46 (zrw (σ.2 46) xd i1))) → lv_has ls 5 [(0, .ref o), (1, .int (nI xd)), (2, .int (nI xt)), (3, .int (nI xn)), (4, .int (nI i1))] → W p l e { frames := 1, cells := 0, slots := 0, locals := 25 } s m args below meth c H locs 0 0 Q (F0 m 68 ls []) := by
            intro NN
            induction NN with
            | zero => intro i1 h1 hNN; exact absurd hNN (Nat.not_lt_zero _)
            | succ NN ih_68 =>
              intro i1 h1 hNN H locs ls X hl
              refine lv_iload hx hb dX12_row_68 (lv_at hl 4 rfl) ?_
              refine lv_bipush (v := nI 100) hx hb dX12_row_70 (by decide) ?_
              refine gn_icmp_ge (tgt := 94) hx hb dX12_row_72 (by decide) (by omega) (by omega) (fun c_72 => ?_) (fun c_72 => ?_)
              ·
                refine lv_iconst (v := nI 0) hx hb dX12_row_94 (by decide) ?_
                exact finIP_of (by unfold zrowS; rw [if_neg (fun h9 => h9 ⟨c_14, c_26, c_32⟩), if_neg (Int32.not_lt.mpr c_38)]) (u := (sA (sE (sE (sE σ 41 xd 2) 44 xd xt) 45 xd xn) 46 (zrw (σ.2 46) xd i1))) (by unfold zrowT; rw [if_neg (fun h9 => h9 ⟨c_14, c_26, c_32⟩), if_neg (Int32.not_lt.mpr c_38), ztoNat (show xd < 2147483648 by omega), ztoNat (show xt < 2147483648 by omega), ztoNat (show xn < 2147483648 by omega), show i1 = 100 by omega]; exact mEq_refl hW) X dX12_row_95 fin
              ·
                refine lv_aload_n hx hb dX12_row_75 rfl (lv_at hl 0 rfl) ?_
                refine m_geta G X 46 rfl (hwd _ mk_33) rfl dX12_row_76 ?_
                refine lv_bipush (v := nI 100) hx hb dX12_row_79 (by decide) ?_
                refine lv_iload_n hx hb dX12_row_81 rfl (lv_at hl 1 rfl) ?_
                refine gn_imul hx hb dX12_row_82  ?_
                refine lv_iload hx hb dX12_row_83 (lv_at hl 4 rfl) ?_
                refine gn_iadd hx hb dX12_row_85  ?_
                refine lv_lconst (v := lN 0) hx hb dX12_row_86 (by decide) ?_
                refine m_last G X 46 rfl (i := ((100 * xd) + i1)) (v := 0) (by show _ < 800; omega) (by omega) dX12_row_87 (fun H locs X => ?_)
                refine lv_iinc (v := nI (i1 + 1)) (lv' := [(4, .int (nI (i1 + 1))), (0, .ref o), (1, .int (nI xd)), (2, .int (nI xt)), (3, .int (nI xn))]) hx hb dX12_row_88 hl (k := 4) rfl (zn_inc _) (by decide) rfl (fun ls hl => ?_)
                refine lv_goto (tgt := 68) hx hb dX12_row_91 (by decide) ?_
                refine ih_68 (i1 + 1) (by omega) (by omega) _ _ _ (by exact wh_eq ((sA_e1 (sE (sE (sE σ 41 xd 2) 44 xd xt) 45 xd xn) 46 _ _ _).trans (congrArg (sA (sE (sE (sE σ 41 xd 2) 44 xd xt) 45 xd xn) 46) (zrw_1 _ _ _))) X) (by exact lv_sub hl [1, 2, 3, 4, 0] rfl)
          refine cut_68 _ 0 (Nat.zero_le _) (Nat.lt_succ_self _) _ _ _ (by exact wh_eq (by rw [zrw_0]; exact (sA_self (sE (sE (sE σ 41 xd 2) 44 xd xt) 45 xd xn) 46).symm) X) (by exact lv_sub hl [1, 2, 3, 4, 0] rfl)
        ·
          refine lv_bipush (v := (-14)) hx hb dX12_row_41 (by decide) ?_
          exact finIP_of (by unfold zrowS; rw [if_neg (fun h9 => h9 ⟨c_14, c_26, c_32⟩), if_pos (Int32.not_le.mp c_38)]) (u := σ) (by unfold zrowT; rw [if_neg (fun h9 => h9 ⟨c_14, c_26, c_32⟩), if_pos (Int32.not_le.mp c_38)]; exact mEq_refl hW) X dX12_row_43 fin
      ·
        refine lv_iconst (v := (-1)) hx hb dX12_row_35 (by decide) ?_
        exact finIP_of (by unfold zrowS; rw [if_pos (fun h9 => by first | exact c_14 h9.1 | exact c_26 h9.2.1 | exact c_32 h9.2.2)]) (u := σ) (by unfold zrowT; rw [if_pos (fun h9 => by first | exact c_14 h9.1 | exact c_26 h9.2.1 | exact c_32 h9.2.2)]; exact mEq_refl hW) X dX12_row_36 fin
