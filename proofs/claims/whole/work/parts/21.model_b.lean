set_option maxHeartbeats 4000000 in
set_option maxRecDepth 100000 in
theorem c_isWorld {l : Launch} {D : va_G} {cl : List vw_C} {tys : List (ClassId × FieldType)} {o : Nat} {q : Nat → Nat} {ci : Nat} {cI cJ : ClassId} (hcl : cl[ci]? = some (RX12, TX12, 48)) (ht0 : tys[0]? = some (cI, .int)) (ht1 : tys[1]? = some (cJ, .long)) {σ : MS} (x : Int32) (hok : mOk σ) : ctI l D cl tys yX12_isWorld (Cond.code yX12_isWorld cX12_isWorld 2 (some .boolean) :: mW) { frames := 1, cells := 0, slots := 0, locals := 25 } [.ref o, .int x] (mw o q ci cI cJ σ) (if 0 ≤ x.toInt ∧ x.toInt < (σ.1 4 : Int) then 1 else 0) (mw o q ci cI cJ σ) := by
  refine ctZ_of (cc := cX12_isWorld) (maxL := 2) (hnar := zb_ite) (by decide +kernel) rfl (Nat.le_of_ble_eq_true rfl) ?_
  intro p e s m args below meth c A Q ls hx hb hml hown hts hK hA X hl fin
  replace hown : s.vm.findClass RX12 = some m.cls := hown
  have hwd : ∀ w ∈ mW, w.before args s = true := fun w h => hts w (List.mem_cons_of_mem _ h)
  have G : mG p c cX12_isWorld s m args D cl tys ci cI cJ := ⟨hx, hb, hown, hwd, hK, hcl, ht0, ht1⟩
  replace hl : lv_has ls 2 [(0, .ref o), (1, .int x)] := hl
  obtain ⟨kr, kw, ks, kroad, kworld, ksort, kmet, ksum, kst, kco⟩ := id hok
  refine lv_iload_n hx hb dX12_isWorld_0 rfl (lv_at hl 1 rfl) ?_
  refine lv_i2l (v := x.toInt64) hx hb dX12_isWorld_1 rfl ?_
  refine lv_lconst (v := lN 0) hx hb dX12_isWorld_2 (by decide) ?_
  refine lv_aload_n hx hb dX12_isWorld_3 rfl (lv_at hl 0 rfl) ?_
  refine m_geti G X 4 rfl (hwd _ mk_45) rfl dX12_isWorld_4 ?_
  refine lv_iconst (v := nI 1) hx hb dX12_isWorld_7 (by decide) ?_
  refine lv_isub hx hb dX12_isWorld_8 ?_
  refine lv_i2l (v := (nI (σ.1 4) - nI 1).toInt64) hx hb dX12_isWorld_9 rfl ?_
  refine ctI_S (w := []) (wf := mw o q ci cI cJ σ) (As := [.long x.toInt64, .long (lN 0), .long ((nI (σ.1 4) - nI 1).toInt64)]) (rest := []) (n := 3) hx hb hml hown hts hK hA X hl.1 (c_in x.toInt64 (lN 0) ((nI (σ.1 4) - nI 1).toInt64) ) (va_cwS 3 hts (mg_S mk_38 mk_41 mk_42 mk_43) rfl rfl rfl (by decide +kernel) ⟨Nat.le_of_ble_eq_true rfl, Nat.le_of_ble_eq_true rfl⟩) rfl (Nat.le_of_ble_eq_true rfl) dX12_isWorld_10 ⟨Nat.le_refl _, Nat.le_refl _⟩ (fun H locs X => ?_)
  exact fin_of (rfl) (by simp only [z64_le, zi_l, zl_toInt (show 0 < 9223372036854775808 by decide), pk_sub_toInt (show σ.1 4 < 2 ^ 30 by omega) (show 1 < 2 ^ 30 by decide)]; congr 1; exact propext ⟨fun h => ⟨by omega, by omega⟩, fun h => ⟨by omega, by omega⟩⟩) X dX12_isWorld_13 fin
set_option maxHeartbeats 4000000 in
set_option maxRecDepth 100000 in
theorem c_isAnswer {l : Launch} {D : va_G} {cl : List vw_C} {tys : List (ClassId × FieldType)} {o : Nat} {q : Nat → Nat} {ci : Nat} {cI cJ : ClassId} (hcl : cl[ci]? = some (RX12, TX12, 48)) (ht0 : tys[0]? = some (cI, .int)) (ht1 : tys[1]? = some (cJ, .long)) {σ : MS} (x : Int32) (hok : mOk σ) : ctI l D cl tys yX12_isAnswer (Cond.code yX12_isAnswer cX12_isAnswer 2 (some .boolean) :: mW) { frames := 1, cells := 0, slots := 0, locals := 25 } [.ref o, .int x] (mw o q ci cI cJ σ) (if -1 ≤ x.toInt ∧ x.toInt < (σ.1 4 : Int) then 1 else 0) (mw o q ci cI cJ σ) := by
  refine ctZ_of (cc := cX12_isAnswer) (maxL := 2) (hnar := zb_ite) (by decide +kernel) rfl (Nat.le_of_ble_eq_true rfl) ?_
  intro p e s m args below meth c A Q ls hx hb hml hown hts hK hA X hl fin
  replace hown : s.vm.findClass RX12 = some m.cls := hown
  have hwd : ∀ w ∈ mW, w.before args s = true := fun w h => hts w (List.mem_cons_of_mem _ h)
  have G : mG p c cX12_isAnswer s m args D cl tys ci cI cJ := ⟨hx, hb, hown, hwd, hK, hcl, ht0, ht1⟩
  replace hl : lv_has ls 2 [(0, .ref o), (1, .int x)] := hl
  obtain ⟨kr, kw, ks, kroad, kworld, ksort, kmet, ksum, kst, kco⟩ := id hok
  refine lv_iload_n hx hb dX12_isAnswer_0 rfl (lv_at hl 1 rfl) ?_
  refine lv_i2l (v := x.toInt64) hx hb dX12_isAnswer_1 rfl ?_
  refine lv_ldc2 (v := (-1)) hx hb hown (hwd _ mk_143) dX12_isAnswer_2 ?_
  refine lv_aload_n hx hb dX12_isAnswer_5 rfl (lv_at hl 0 rfl) ?_
  refine m_geti G X 4 rfl (hwd _ mk_45) rfl dX12_isAnswer_6 ?_
  refine lv_iconst (v := nI 1) hx hb dX12_isAnswer_9 (by decide) ?_
  refine lv_isub hx hb dX12_isAnswer_10 ?_
  refine lv_i2l (v := (nI (σ.1 4) - nI 1).toInt64) hx hb dX12_isAnswer_11 rfl ?_
  refine ctI_S (w := []) (wf := mw o q ci cI cJ σ) (As := [.long x.toInt64, .long (-1), .long ((nI (σ.1 4) - nI 1).toInt64)]) (rest := []) (n := 3) hx hb hml hown hts hK hA X hl.1 (c_in x.toInt64 (-1) ((nI (σ.1 4) - nI 1).toInt64) ) (va_cwS 3 hts (mg_S mk_38 mk_41 mk_42 mk_43) rfl rfl rfl (by decide +kernel) ⟨Nat.le_of_ble_eq_true rfl, Nat.le_of_ble_eq_true rfl⟩) rfl (Nat.le_of_ble_eq_true rfl) dX12_isAnswer_12 ⟨Nat.le_refl _, Nat.le_refl _⟩ (fun H locs X => ?_)
  exact fin_of (rfl) (by simp only [z64_le, zi_l, show (-1 : Int64).toInt = -1 from by decide, pk_sub_toInt (show σ.1 4 < 2 ^ 30 by omega) (show 1 < 2 ^ 30 by decide)]; congr 1; exact propext ⟨fun h => ⟨by omega, by omega⟩, fun h => ⟨by omega, by omega⟩⟩) X dX12_isAnswer_15 fin
set_option maxHeartbeats 4000000 in
set_option maxRecDepth 100000 in
theorem c_metTogether {l : Launch} {D : va_G} {cl : List vw_C} {tys : List (ClassId × FieldType)} {o : Nat} {q : Nat → Nat} {ci : Nat} {cI cJ : ClassId} (hcl : cl[ci]? = some (RX12, TX12, 48)) (ht0 : tys[0]? = some (cI, .int)) (ht1 : tys[1]? = some (cJ, .long)) {σ : MS} (xc : Nat) (hok : mOk σ) (hc : xc < 8) : ctI l D cl tys yX12_metTogether (Cond.code yX12_metTogether cX12_metTogether 4 (some .int) :: mW) { frames := 0, cells := 0, slots := 0, locals := 0 } [.ref o, .int (nI xc)] (mw o q ci cI cJ σ) (nI (zsum (fun s => σ.2 11 (6 * xc + s)) 6)) (mw o q ci cI cJ σ) := by
  refine ctI_of (cc := cX12_metTogether) (maxL := 4) (by decide +kernel) rfl (Nat.le_of_ble_eq_true rfl) ?_
  intro p e s m args below meth c A Q ls hx hb hml hown hts hK hA X hl fin
  replace hown : s.vm.findClass RX12 = some m.cls := hown
  have hwd : ∀ w ∈ mW, w.before args s = true := fun w h => hts w (List.mem_cons_of_mem _ h)
  have G : mG p c cX12_metTogether s m args D cl tys ci cI cJ := ⟨hx, hb, hown, hwd, hK, hcl, ht0, ht1⟩
  replace hl : lv_has ls 4 [(0, .ref o), (1, .int (nI xc))] := hl
  obtain ⟨kr, kw, ks, kroad, kworld, ksort, kmet, ksum, kst, kco⟩ := id hok
  refine lv_iconst (v := nI 0) hx hb dX12_metTogether_0 (by decide) ?_
  refine lv_istore_n (lv' := [(2, .int (nI 0)), (0, .ref o), (1, .int (nI xc))]) hx hb dX12_metTogether_1 rfl hl (by decide) rfl (fun ls hl => ?_)
  refine lv_iconst (v := nI 0) hx hb dX12_metTogether_2 (by decide) ?_
  refine lv_istore_n (lv' := [(3, .int (nI 0)), (2, .int (nI 0)), (0, .ref o), (1, .int (nI xc))]) hx hb dX12_metTogether_3 rfl hl (by decide) rfl (fun ls hl => ?_)
  have cut_4 : ∀ (NN : Nat) (s1 : Nat) (hs1 : s1 ≤ 6), 6 - s1 < NN → ∀ (H : Heap) (locs : List Loc) (ls : Array Slot), wH D cl A s.heap H locs (mw o q ci cI cJ σ) → lv_has ls 4 [(0, .ref o), (1, .int (nI xc)), (2, .int (nI (zsum (fun s => σ.2 11 (6 * xc + s)) s1))), (3, .int (nI s1))] → W p l e { frames := 0, cells := 0, slots := 0, locals := 0 } s m args below meth c H locs 0 0 Q (F0 m 4 ls []) := by
    intro NN
    induction NN with
    | zero => intro s1 hs1 hNN; exact absurd hNN (Nat.not_lt_zero _)
    | succ NN ih_4 =>
      intro s1 hs1 hNN H locs ls X hl
      refine lv_iload_n hx hb dX12_metTogether_4 rfl (lv_at hl 3 rfl) ?_
      refine lv_bipush (v := nI 6) hx hb dX12_metTogether_5 (by decide) ?_
      refine gn_icmp_ge (tgt := 30) hx hb dX12_metTogether_7 (by decide) (by omega) (by omega) (fun c_7 => ?_) (fun c_7 => ?_)
      ·
        have hwe : s1 = 6 := by omega
        subst hwe
        refine lv_iload_n hx hb dX12_metTogether_30 rfl (lv_at hl 2 rfl) ?_
        exact fin_of (rfl) (rfl) X dX12_metTogether_31 fin
      ·
        refine lv_iload_n hx hb dX12_metTogether_10 rfl (lv_at hl 2 rfl) ?_
        refine lv_aload_n hx hb dX12_metTogether_11 rfl (lv_at hl 0 rfl) ?_
        refine m_geta G X 11 rfl (hwd _ mk_12) rfl dX12_metTogether_12 ?_
        refine lv_bipush (v := nI 6) hx hb dX12_metTogether_15 (by decide) ?_
        refine lv_iload_n hx hb dX12_metTogether_17 rfl (lv_at hl 1 rfl) ?_
        refine gn_imul hx hb dX12_metTogether_18  ?_
        refine lv_iload_n hx hb dX12_metTogether_19 rfl (lv_at hl 3 rfl) ?_
        refine gn_iadd hx hb dX12_metTogether_20  ?_
        refine m_iald G X 11 rfl (i := ((6 * xc) + s1)) (by show _ < 48; omega) (by omega) dX12_metTogether_21 ?_
        refine gn_iadd hx hb dX12_metTogether_22  ?_
        refine lv_istore_n (lv' := [(2, .int (nI ((zsum (fun s => σ.2 11 (6 * xc + s)) s1) + (σ.2 11 ((6 * xc) + s1))))), (0, .ref o), (1, .int (nI xc)), (3, .int (nI s1))]) hx hb dX12_metTogether_23 rfl hl (by decide) rfl (fun ls hl => ?_)
        refine lv_iinc (v := nI (s1 + 1)) (lv' := [(3, .int (nI (s1 + 1))), (2, .int (nI ((zsum (fun s => σ.2 11 (6 * xc + s)) s1) + (σ.2 11 ((6 * xc) + s1))))), (0, .ref o), (1, .int (nI xc))]) hx hb dX12_metTogether_24 hl (k := 3) rfl (zn_inc _) (by decide) rfl (fun ls hl => ?_)
        refine lv_goto (tgt := 4) hx hb dX12_metTogether_27 (by decide) ?_
        refine ih_4 (s1 + 1) (by omega) (by omega) _ _ _ (by exact X) (by exact lv_sub hl [2, 3, 1, 0] rfl)
  refine cut_4 _ 0 (by omega) (Nat.lt_succ_self _) _ _ _ (by exact X) (by exact lv_sub hl [2, 3, 1, 0] rfl)
set_option maxHeartbeats 4000000 in
set_option maxRecDepth 100000 in
theorem c_isShut {l : Launch} {D : va_G} {cl : List vw_C} {tys : List (ClassId × FieldType)} {o : Nat} {q : Nat → Nat} {ci : Nat} {cI cJ : ClassId} (hcl : cl[ci]? = some (RX12, TX12, 48)) (ht0 : tys[0]? = some (cI, .int)) (ht1 : tys[1]? = some (cJ, .long)) {σ : MS} (xw : Nat) (xr : Nat) (hok : mOk σ) (hw : xw < σ.1 4) (hr : xr < 16) : ctI l D cl tys yX12_isShut (Cond.code yX12_isShut cX12_isShut 3 (some .boolean) :: mW) { frames := 0, cells := 0, slots := 0, locals := 0 } [.ref o, .int (nI xw), .int (nI xr)] (mw o q ci cI cJ σ) (if zshut σ xw xr then 1 else 0) (mw o q ci cI cJ σ) := by
  refine ctZ_of (cc := cX12_isShut) (maxL := 3) (hnar := zb_ite) (by decide +kernel) rfl (Nat.le_of_ble_eq_true rfl) ?_
  intro p e s m args below meth c A Q ls hx hb hml hown hts hK hA X hl fin
  replace hown : s.vm.findClass RX12 = some m.cls := hown
  have hwd : ∀ w ∈ mW, w.before args s = true := fun w h => hts w (List.mem_cons_of_mem _ h)
  have G : mG p c cX12_isShut s m args D cl tys ci cI cJ := ⟨hx, hb, hown, hwd, hK, hcl, ht0, ht1⟩
  replace hl : lv_has ls 3 [(0, .ref o), (1, .int (nI xw)), (2, .int (nI xr))] := hl
  obtain ⟨kr, kw, ks, kroad, kworld, ksort, kmet, ksum, kst, kco⟩ := id hok
  have hsw := kworld xw hw
  refine lv_aload_n hx hb dX12_isShut_0 rfl (lv_at hl 0 rfl) ?_
  refine m_geta G X 7 rfl (hwd _ mk_9) rfl dX12_isShut_1 ?_
  refine lv_iload_n hx hb dX12_isShut_4 rfl (lv_at hl 1 rfl) ?_
  refine m_iald G X 7 rfl (i := xw) (by show _ < 5; omega) (by omega) dX12_isShut_5 ?_
  refine lv_iload_n hx hb dX12_isShut_6 rfl (lv_at hl 2 rfl) ?_
  refine lv_ishr hx hb dX12_isShut_7 ?_
  refine gi_to (a := (σ.2 7 xw) / 2 ^ xr) (zshr (by omega) (by omega)) ?_
  refine lv_iconst (v := nI 1) hx hb dX12_isShut_8 (by decide) ?_
  refine lv_iand hx hb dX12_isShut_9 ?_
  refine gi_to (a := ((σ.2 7 xw) / 2 ^ xr) % 2) (zand _ 1 (by decide) (by decide)) ?_
  refine lv_iconst (v := nI 1) hx hb dX12_isShut_10 (by decide) ?_
  refine gn_icmp_ne (tgt := 18) hx hb dX12_isShut_11 (by decide) (by omega) (by omega) (fun c_11 => ?_) (fun c_11 => ?_)
  ·
    refine lv_iconst (v := nI 0) hx hb dX12_isShut_18 (by decide) ?_
    exact fin_of (rfl) (by split <;> first | rfl | (exfalso; unfold zshut at *; omega)) X dX12_isShut_19 fin
  ·
    refine lv_iconst (v := nI 1) hx hb dX12_isShut_14 (by decide) ?_
    refine lv_goto (tgt := 19) hx hb dX12_isShut_15 (by decide) ?_
    exact fin_of (rfl) (by split <;> first | rfl | (exfalso; unfold zshut at *; omega)) X dX12_isShut_19 fin
set_option maxHeartbeats 4000000 in
set_option maxRecDepth 100000 in
theorem c_otherEnd {l : Launch} {D : va_G} {cl : List vw_C} {tys : List (ClassId × FieldType)} {o : Nat} {q : Nat → Nat} {ci : Nat} {cI cJ : ClassId} (hcl : cl[ci]? = some (RX12, TX12, 48)) (ht0 : tys[0]? = some (cI, .int)) (ht1 : tys[1]? = some (cJ, .long)) {σ : MS} (xr : Nat) (xc : Nat) (hok : mOk σ) (hr : xr < σ.1 0) (hc : xc < 8) : ctI l D cl tys yX12_otherEnd (Cond.code yX12_otherEnd cX12_otherEnd 3 (some .int) :: mW) { frames := 0, cells := 0, slots := 0, locals := 0 } [.ref o, .int (nI xr), .int (nI xc)] (mw o q ci cI cJ σ) (if σ.2 1 xr = xc then nI (σ.2 2 xr) else if σ.2 2 xr = xc then nI (σ.2 1 xr) else -1) (mw o q ci cI cJ σ) := by
  refine ctI_of (cc := cX12_otherEnd) (maxL := 3) (by decide +kernel) rfl (Nat.le_of_ble_eq_true rfl) ?_
  intro p e s m args below meth c A Q ls hx hb hml hown hts hK hA X hl fin
  replace hown : s.vm.findClass RX12 = some m.cls := hown
  have hwd : ∀ w ∈ mW, w.before args s = true := fun w h => hts w (List.mem_cons_of_mem _ h)
  have G : mG p c cX12_otherEnd s m args D cl tys ci cI cJ := ⟨hx, hb, hown, hwd, hK, hcl, ht0, ht1⟩
  replace hl : lv_has ls 3 [(0, .ref o), (1, .int (nI xr)), (2, .int (nI xc))] := hl
  obtain ⟨kr, kw, ks, kroad, kworld, ksort, kmet, ksum, kst, kco⟩ := id hok
  have hsr := kroad xr hr
  refine lv_aload_n hx hb dX12_otherEnd_0 rfl (lv_at hl 0 rfl) ?_
  refine m_geta G X 1 rfl (hwd _ mk_4) rfl dX12_otherEnd_1 ?_
  refine lv_iload_n hx hb dX12_otherEnd_4 rfl (lv_at hl 1 rfl) ?_
  refine m_iald G X 1 rfl (i := xr) (by show _ < 16; omega) (by omega) dX12_otherEnd_5 ?_
  refine lv_iload_n hx hb dX12_otherEnd_6 rfl (lv_at hl 2 rfl) ?_
  refine gn_icmp_ne (tgt := 19) hx hb dX12_otherEnd_7 (by decide) (by omega) (by omega) (fun c_7 => ?_) (fun c_7 => ?_)
  ·
    refine lv_aload_n hx hb dX12_otherEnd_19 rfl (lv_at hl 0 rfl) ?_
    refine m_geta G X 2 rfl (hwd _ mk_5) rfl dX12_otherEnd_20 ?_
    refine lv_iload_n hx hb dX12_otherEnd_23 rfl (lv_at hl 1 rfl) ?_
    refine m_iald G X 2 rfl (i := xr) (by show _ < 16; omega) (by omega) dX12_otherEnd_24 ?_
    refine lv_iload_n hx hb dX12_otherEnd_25 rfl (lv_at hl 2 rfl) ?_
    refine gn_icmp_ne (tgt := 38) hx hb dX12_otherEnd_26 (by decide) (by omega) (by omega) (fun c_26 => ?_) (fun c_26 => ?_)
    ·
      refine lv_iconst (v := (-1)) hx hb dX12_otherEnd_38 (by decide) ?_
      exact fin_of (rfl) (by simp [*]) X dX12_otherEnd_39 fin
    ·
      refine lv_aload_n hx hb dX12_otherEnd_29 rfl (lv_at hl 0 rfl) ?_
      refine m_geta G X 1 rfl (hwd _ mk_4) rfl dX12_otherEnd_30 ?_
      refine lv_iload_n hx hb dX12_otherEnd_33 rfl (lv_at hl 1 rfl) ?_
      refine m_iald G X 1 rfl (i := xr) (by show _ < 16; omega) (by omega) dX12_otherEnd_34 ?_
      refine lv_goto (tgt := 39) hx hb dX12_otherEnd_35 (by decide) ?_
      exact fin_of (rfl) (by simp [*]) X dX12_otherEnd_39 fin
  ·
    refine lv_aload_n hx hb dX12_otherEnd_10 rfl (lv_at hl 0 rfl) ?_
    refine m_geta G X 2 rfl (hwd _ mk_5) rfl dX12_otherEnd_11 ?_
    refine lv_iload_n hx hb dX12_otherEnd_14 rfl (lv_at hl 1 rfl) ?_
    refine m_iald G X 2 rfl (i := xr) (by show _ < 16; omega) (by omega) dX12_otherEnd_15 ?_
    refine lv_goto (tgt := 39) hx hb dX12_otherEnd_16 (by decide) ?_
    exact fin_of (rfl) (by simp [*]) X dX12_otherEnd_39 fin
set_option maxHeartbeats 4000000 in
set_option maxRecDepth 100000 in
theorem c_shorten {l : Launch} {D : va_G} {cl : List vw_C} {tys : List (ClassId × FieldType)} {o : Nat} {q : Nat → Nat} {ci : Nat} {cI cJ : ClassId} (hcl : cl[ci]? = some (RX12, TX12, 48)) (ht0 : tys[0]? = some (cI, .int)) (ht1 : tys[1]? = some (cJ, .long)) {σ : MS} (xf : Nat) (xt : Nat) (xb : Nat) (hf : xf < 40) (ht : xt < 40) (hb60 : xb ≤ 60) (hW : zWok (σ.2 27)) : ctV l D cl tys yX12_shorten (Cond.code yX12_shorten cX12_shorten 5 (none) :: mW) { frames := 0, cells := 0, slots := 0, locals := 0 } [.ref o, .int (nI xf), .int (nI xt), .int (nI xb)] (mw o q ci cI cJ σ) (mw o q ci cI cJ (sA σ 27 (zrel (σ.2 27) xf xt xb))) := by
  refine ctV_of (cc := cX12_shorten) (maxL := 5) (by decide +kernel) rfl (Nat.le_of_ble_eq_true rfl) ?_
  intro p e s m args below meth c A Q ls hx hb hml hown hts hK hA X hl fin
  replace hown : s.vm.findClass RX12 = some m.cls := hown
  have hwd : ∀ w ∈ mW, w.before args s = true := fun w h => hts w (List.mem_cons_of_mem _ h)
  have G : mG p c cX12_shorten s m args D cl tys ci cI cJ := ⟨hx, hb, hown, hwd, hK, hcl, ht0, ht1⟩
  replace hl : lv_has ls 5 [(0, .ref o), (1, .int (nI xf)), (2, .int (nI xt)), (3, .int (nI xb))] := hl
  have hW1 := hW xf
  have hW2 := hW xt
  refine lv_aload_n hx hb dX12_shorten_0 rfl (lv_at hl 0 rfl) ?_
  refine m_geta G X 27 rfl (hwd _ mk_22) rfl dX12_shorten_1 ?_
  refine lv_iload_n hx hb dX12_shorten_4 rfl (lv_at hl 2 rfl) ?_
  refine m_iald G X 27 rfl (i := xt) (by show _ < 40; omega) (by omega) dX12_shorten_5 ?_
  refine lv_iload_n hx hb dX12_shorten_6 rfl (lv_at hl 3 rfl) ?_
  refine gn_iadd hx hb dX12_shorten_7  ?_
  refine lv_istore (lv' := [(4, .int (nI ((σ.2 27 xt) + xb))), (0, .ref o), (1, .int (nI xf)), (2, .int (nI xt)), (3, .int (nI xb))]) hx hb dX12_shorten_8 hl (by decide) rfl (fun ls hl => ?_)
  refine lv_aload_n hx hb dX12_shorten_10 rfl (lv_at hl 1 rfl) ?_
  refine m_geta G X 27 rfl (hwd _ mk_22) rfl dX12_shorten_11 ?_
  refine lv_iload_n hx hb dX12_shorten_14 rfl (lv_at hl 2 rfl) ?_
  refine lv_aload_n hx hb dX12_shorten_15 rfl (lv_at hl 1 rfl) ?_
  refine m_geta G X 27 rfl (hwd _ mk_22) rfl dX12_shorten_16 ?_
  refine lv_iload_n hx hb dX12_shorten_19 rfl (lv_at hl 3 rfl) ?_
  refine m_iald G X 27 rfl (i := xt) (by show _ < 40; omega) (by omega) dX12_shorten_20 ?_
  refine gn_ldc (v := 99999) (k := 99999) hx hb hown (hwd _ mk_115) (by decide) dX12_shorten_21 ?_
  refine gn_icmp_ge (tgt := 42) hx hb dX12_shorten_23 (by decide) (by omega) (by omega) (fun c_23 => ?_) (fun c_23 => ?_)
  ·
    refine lv_aload_n hx hb dX12_shorten_42 rfl (lv_at hl 1 rfl) ?_
    refine m_geta G X 27 rfl (hwd _ mk_22) rfl dX12_shorten_43 ?_
    refine lv_iload_n hx hb dX12_shorten_46 rfl (lv_at hl 2 rfl) ?_
    refine m_iald G X 27 rfl (i := xf) (by show _ < 40; omega) (by omega) dX12_shorten_47 ?_
    refine m_iast G X 27 rfl (i := xf) (v := (σ.2 27 xf)) (by show _ < 40; omega) (by omega) dX12_shorten_48 (fun H locs X => ?_)
    exact finV_of (congrArg (mw o q ci cI cJ) (sA_cong σ 27 (fun a => by unfold zrel; split <;> first | rfl | (split <;> first | rfl | omega)))) X dX12_shorten_49 fin
  ·
    refine lv_iload hx hb dX12_shorten_26 (lv_at hl 0 rfl) ?_
    refine lv_aload_n hx hb dX12_shorten_28 rfl (lv_at hl 1 rfl) ?_
    refine m_geta G X 27 rfl (hwd _ mk_22) rfl dX12_shorten_29 ?_
    refine lv_iload_n hx hb dX12_shorten_32 rfl (lv_at hl 2 rfl) ?_
    refine m_iald G X 27 rfl (i := xf) (by show _ < 40; omega) (by omega) dX12_shorten_33 ?_
    refine gn_icmp_ge (tgt := 42) hx hb dX12_shorten_34 (by decide) (by omega) (by omega) (fun c_34 => ?_) (fun c_34 => ?_)
    ·
      refine lv_aload_n hx hb dX12_shorten_42 rfl (lv_at hl 1 rfl) ?_
      refine m_geta G X 27 rfl (hwd _ mk_22) rfl dX12_shorten_43 ?_
      refine lv_iload_n hx hb dX12_shorten_46 rfl (lv_at hl 2 rfl) ?_
      refine m_iald G X 27 rfl (i := xf) (by show _ < 40; omega) (by omega) dX12_shorten_47 ?_
      refine m_iast G X 27 rfl (i := xf) (v := (σ.2 27 xf)) (by show _ < 40; omega) (by omega) dX12_shorten_48 (fun H locs X => ?_)
      exact finV_of (congrArg (mw o q ci cI cJ) (sA_cong σ 27 (fun a => by unfold zrel; split <;> first | rfl | (split <;> first | rfl | omega)))) X dX12_shorten_49 fin
    ·
      refine lv_iload hx hb dX12_shorten_37 (lv_at hl 0 rfl) ?_
      refine lv_goto (tgt := 48) hx hb dX12_shorten_39 (by decide) ?_
      refine m_iast G X 27 rfl (i := xf) (v := ((σ.2 27 xt) + xb)) (by show _ < 40; omega) (by omega) dX12_shorten_48 (fun H locs X => ?_)
      exact finV_of (congrArg (mw o q ci cI cJ) (sA_cong σ 27 (fun a => by unfold zrel; split <;> first | rfl | (split <;> first | rfl | omega)))) X dX12_shorten_49 fin
