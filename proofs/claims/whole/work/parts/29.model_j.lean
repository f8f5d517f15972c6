set_option maxHeartbeats 4000000 in
set_option maxRecDepth 100000 in
theorem c_wrongMean {l : Launch} {D : va_G} {cl : List vw_C} {tys : List (ClassId × FieldType)} {o : Nat} {q : Nat → Nat} {ci : Nat} {cI cJ : ClassId} (hcl : cl[ci]? = some (RX12, TX12, 48)) (ht0 : tys[0]? = some (cI, .int)) (ht1 : tys[1]? = some (cJ, .long)) {σ : MS} (x : Int32) (y : Int32) (hok : mOk σ) (hsh : mSh σ) : ctI l D cl tys yX12_wrongMean (Cond.code yX12_wrongMean cX12_wrongMean 3 (some .int) :: mW) { frames := 2, cells := 0, slots := 0, locals := 42 } [.ref o, .int x, .int y] (mw o q ci cI cJ σ) (zwmean σ x y) (mw o q ci cI cJ σ) := by
  refine ctI_of (cc := cX12_wrongMean) (maxL := 3) (by decide +kernel) rfl (Nat.le_of_ble_eq_true rfl) ?_
  intro p e s m args below meth c A Q ls hx hb hml hown hts hK hA X hl fin
  replace hown : s.vm.findClass RX12 = some m.cls := hown
  have hwd : ∀ w ∈ mW, w.before args s = true := fun w h => hts w (List.mem_cons_of_mem _ h)
  have G : mG p c cX12_wrongMean s m args D cl tys ci cI cJ := ⟨hx, hb, hown, hwd, hK, hcl, ht0, ht1⟩
  replace hl : lv_has ls 3 [(0, .ref o), (1, .int x), (2, .int y)] := hl
  obtain ⟨kr, kw, ks, kroad, kworld, ksort, kmet, ksum, kst, kco⟩ := id hok
  obtain ⟨hh, hru, hro, htb, hW, hp28, hth⟩ := id hsh
  have hp : σ.1 28 < 8 ∨ σ.1 28 = 4294967295 := Or.inr hp28
  refine lv_iload_n hx hb dX12_wrongMean_0 rfl (lv_at hl 1 rfl) ?_
  refine lv_i2l (v := x.toInt64) hx hb dX12_wrongMean_1 rfl ?_
  refine lv_lconst (v := lN 0) hx hb dX12_wrongMean_2 (by decide) ?_
  refine gn_ldc2 (v := 7) (k := 7) hx hb hown (hwd _ mk_40) (by decide) dX12_wrongMean_3 ?_
  refine ctI_S (w := []) (wf := mw o q ci cI cJ σ) (As := [.long x.toInt64, .long (lN 0), .long (lN 7)]) (rest := []) (n := 3) hx hb hml hown hts hK hA X hl.1 (c_in x.toInt64 (lN 0) (lN 7) ) (va_cwS 3 hts (mg_S mk_38 mk_41 mk_42 mk_43) rfl rfl rfl (by decide +kernel) ⟨Nat.le_of_ble_eq_true rfl, Nat.le_of_ble_eq_true rfl⟩) rfl (Nat.le_of_ble_eq_true rfl) dX12_wrongMean_6 ⟨Nat.le_refl _, Nat.le_refl _⟩ (fun H locs X => ?_)
  refine gb_if_eq (tgt := 24) hx hb dX12_wrongMean_9 (by decide) (fun c_9 => ?_) (fun c_9 => ?_)
  ·
    rw [zi8] at c_9
    refine lv_iconst (v := (-1)) hx hb dX12_wrongMean_24 (by decide) ?_
    refine lv_goto (tgt := 57) hx hb dX12_wrongMean_25 (by decide) ?_
    exact fin_of (rfl) (by unfold zwmean; first | (rw [if_pos (fun h9 => c_9 h9.1)]) | (rw [if_pos (fun h9 => c_21 h9.2)]) | (rw [if_neg (fun h9 => h9 ⟨c_9, c_21⟩), ztoNat (by omega)]; first | (rw [if_pos (Int32.not_le.mp c_33)]) | (rw [if_neg (by rw [Int32.not_lt]; exact c_33)]; first | rw [if_pos c_48]; rfl | rw [if_neg c_48]))) X dX12_wrongMean_57 fin
  ·
    rw [zi8] at c_9
    obtain ⟨xd, hxd, rfl⟩ := zi_in (n := 8) (by decide) c_9
    have hrk := zrulK_neg (hh xd hxd)
    refine lv_iload_n hx hb dX12_wrongMean_12 rfl (lv_at hl 2 rfl) ?_
    refine lv_i2l (v := y.toInt64) hx hb dX12_wrongMean_13 rfl ?_
    refine lv_lconst (v := lN 1) hx hb dX12_wrongMean_14 (by decide) ?_
    refine gn_ldc2 (v := 20) (k := 20) hx hb hown (hwd _ mk_248) (by decide) dX12_wrongMean_15 ?_
    refine ctI_S (w := []) (wf := mw o q ci cI cJ σ) (As := [.long y.toInt64, .long (lN 1), .long (lN 20)]) (rest := []) (n := 3) hx hb hml hown hts hK hA X hl.1 (c_in y.toInt64 (lN 1) (lN 20) ) (va_cwS 3 hts (mg_S mk_38 mk_41 mk_42 mk_43) rfl rfl rfl (by decide +kernel) ⟨Nat.le_of_ble_eq_true rfl, Nat.le_of_ble_eq_true rfl⟩) rfl (Nat.le_of_ble_eq_true rfl) dX12_wrongMean_18 ⟨Nat.le_refl _, Nat.le_refl _⟩ (fun H locs X => ?_)
    refine gb_if_ne (tgt := 28) hx hb dX12_wrongMean_21 (by decide) (fun c_21 => ?_) (fun c_21 => ?_)
    ·
      rw [zi20] at c_21
      refine lv_aload_n hx hb dX12_wrongMean_28 rfl (lv_at hl 0 rfl) ?_
      refine lv_iload_n hx hb dX12_wrongMean_29 rfl (lv_at hl 1 rfl) ?_
      refine ctI_V (wf := []) (As := [.int (nI xd)]) (rest := []) (n := 1) hx hb hml hown hts hK hA (ap_nil X) hl.1 (m_recv G X) (c_wrongRule hcl ht0 ht1 (σ := σ) xd (hok) (by omega) (hh)) (cwV 1 hts (mg_V mk_237 mk_239 mk_240 mk_241 mk_43) rfl rfl rfl (by decide +kernel) ⟨Nat.le_of_ble_eq_true rfl, Nat.le_of_ble_eq_true rfl⟩) rfl (Nat.le_of_ble_eq_true rfl) dX12_wrongMean_30 ⟨Nat.le_refl _, Nat.le_refl _⟩ (fun H locs X => ?_)
      replace X := ap_nil' X
      refine lv_if_ge (tgt := 44) hx hb dX12_wrongMean_33 (by decide) (fun c_33 => ?_) (fun c_33 => ?_)
      ·
        refine lv_aload_n hx hb dX12_wrongMean_44 rfl (lv_at hl 0 rfl) ?_
        refine ctI_V (wf := []) (As := []) (rest := []) (n := 0) hx hb hml hown hts hK hA (ap_nil X) hl.1 (m_recv G X) (c_isReady hcl ht0 ht1 (σ := σ)  (kw) (fun w9 hw9 => (kworld w9 hw9).2.1)) (cwV 0 hts (mg_V mk_47 mk_165 mk_166 mk_167 mk_43) rfl rfl rfl (by decide +kernel) ⟨Nat.le_of_ble_eq_true rfl, Nat.le_of_ble_eq_true rfl⟩) rfl (Nat.le_of_ble_eq_true rfl) dX12_wrongMean_45 ⟨Nat.le_refl _, Nat.le_refl _⟩ (fun H locs X => ?_)
        replace X := ap_nil' X
        refine gb_if_eq (tgt := 55) hx hb dX12_wrongMean_48 (by decide) (fun c_48 => ?_) (fun c_48 => ?_)
        ·
          refine lv_bipush (v := (-3)) hx hb dX12_wrongMean_55 (by decide) ?_
          exact fin_of (rfl) (by unfold zwmean; first | (rw [if_pos (fun h9 => c_9 h9.1)]) | (rw [if_pos (fun h9 => c_21 h9.2)]) | (rw [if_neg (fun h9 => h9 ⟨c_9, c_21⟩), ztoNat (by omega)]; first | (rw [if_pos (Int32.not_le.mp c_33)]) | (rw [if_neg (by rw [Int32.not_lt]; exact c_33)]; first | rw [if_pos c_48]; rfl | rw [if_neg c_48]))) X dX12_wrongMean_57 fin
        ·
          refine lv_iconst (v := nI 0) hx hb dX12_wrongMean_51 (by decide) ?_
          refine lv_goto (tgt := 57) hx hb dX12_wrongMean_52 (by decide) ?_
          exact fin_of (rfl) (by unfold zwmean; first | (rw [if_pos (fun h9 => c_9 h9.1)]) | (rw [if_pos (fun h9 => c_21 h9.2)]) | (rw [if_neg (fun h9 => h9 ⟨c_9, c_21⟩), ztoNat (by omega)]; first | (rw [if_pos (Int32.not_le.mp c_33)]) | (rw [if_neg (by rw [Int32.not_lt]; exact c_33)]; first | rw [if_pos c_48]; rfl | rw [if_neg c_48]))) X dX12_wrongMean_57 fin
      ·
        refine lv_aload_n hx hb dX12_wrongMean_36 rfl (lv_at hl 0 rfl) ?_
        refine lv_iload_n hx hb dX12_wrongMean_37 rfl (lv_at hl 1 rfl) ?_
        refine ctI_V (wf := []) (As := [.int (nI xd)]) (rest := []) (n := 1) hx hb hml hown hts hK hA (ap_nil X) hl.1 (m_recv G X) (c_wrongRule hcl ht0 ht1 (σ := σ) xd (hok) (by omega) (hh)) (cwV 1 hts (mg_V mk_237 mk_239 mk_240 mk_241 mk_43) rfl rfl rfl (by decide +kernel) ⟨Nat.le_of_ble_eq_true rfl, Nat.le_of_ble_eq_true rfl⟩) rfl (Nat.le_of_ble_eq_true rfl) dX12_wrongMean_38 ⟨Nat.le_refl _, Nat.le_refl _⟩ (fun H locs X => ?_)
        replace X := ap_nil' X
        refine lv_goto (tgt := 57) hx hb dX12_wrongMean_41 (by decide) ?_
        exact fin_of (rfl) (by unfold zwmean; first | (rw [if_pos (fun h9 => c_9 h9.1)]) | (rw [if_pos (fun h9 => c_21 h9.2)]) | (rw [if_neg (fun h9 => h9 ⟨c_9, c_21⟩), ztoNat (by omega)]; first | (rw [if_pos (Int32.not_le.mp c_33)]) | (rw [if_neg (by rw [Int32.not_lt]; exact c_33)]; first | rw [if_pos c_48]; rfl | rw [if_neg c_48]))) X dX12_wrongMean_57 fin
    ·
      rw [zi20] at c_21
      refine lv_iconst (v := (-1)) hx hb dX12_wrongMean_24 (by decide) ?_
      refine lv_goto (tgt := 57) hx hb dX12_wrongMean_25 (by decide) ?_
      exact fin_of (rfl) (by unfold zwmean; first | (rw [if_pos (fun h9 => c_9 h9.1)]) | (rw [if_pos (fun h9 => c_21 h9.2)]) | (rw [if_neg (fun h9 => h9 ⟨c_9, c_21⟩), ztoNat (by omega)]; first | (rw [if_pos (Int32.not_le.mp c_33)]) | (rw [if_neg (by rw [Int32.not_lt]; exact c_33)]; first | rw [if_pos c_48]; rfl | rw [if_neg c_48]))) X dX12_wrongMean_57 fin
