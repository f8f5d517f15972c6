set_option maxHeartbeats 4000000 in
set_option maxRecDepth 100000 in
theorem c_moveLong {l : Launch} {D : va_G} {cl : List vw_C} {tys : List (ClassId × FieldType)} {o : Nat} {q : Nat → Nat} {ci : Nat} {cI cJ : ClassId} (hcl : cl[ci]? = some (RX12, TX12, 48)) (ht0 : tys[0]? = some (cI, .int)) (ht1 : tys[1]? = some (cJ, .long)) {σ : MS} (v : Nat) (hat : σ.1 39 < 150) (htk : σ.1 40 < 2) : ctL l D cl tys yX12_moveLong (Cond.code yX12_moveLong cX12_moveLong 3 (some .long) :: mW) { frames := 0, cells := 0, slots := 0, locals := 0 } [.ref o, .long (lN v)] (mw o q ci cI cJ σ) (lN (zmvR σ v)) (mw o q ci cI cJ (zmvT σ v)) := by
  refine ctL_of (cc := cX12_moveLong) (maxL := 3) (by decide +kernel) rfl (Nat.le_of_ble_eq_true rfl) ?_
  intro p e s m args below meth c A Q ls hx hb hml hown hts hK hA X hl fin
  replace hown : s.vm.findClass RX12 = some m.cls := hown
  have hwd : ∀ w ∈ mW, w.before args s = true := fun w h => hts w (List.mem_cons_of_mem _ h)
  have G : mG p c cX12_moveLong s m args D cl tys ci cI cJ := ⟨hx, hb, hown, hwd, hK, hcl, ht0, ht1⟩
  replace hl : lv_has ls 3 [(0, .ref o), (1, .long (lN v))] := hl
  refine lv_aload_n hx hb dX12_moveLong_0 rfl (lv_at hl 0 rfl) ?_
  refine m_geti G X 40 rfl (hwd _ mk_264) rfl dX12_moveLong_1 ?_
  refine gn_if_eq (tgt := 17) hx hb dX12_moveLong_4 (by decide) (by omega) (fun c_4 => ?_) (fun c_4 => ?_)
  ·
    refine lv_aload_n hx hb dX12_moveLong_17 rfl (lv_at hl 0 rfl) ?_
    refine lv_dup hx hb dX12_moveLong_18 rfl ?_
    refine m_geti G X 39 rfl (hwd _ mk_265) rfl dX12_moveLong_19 ?_
    refine lv_iconst (v := nI 1) hx hb dX12_moveLong_22 (by decide) ?_
    refine gn_iadd hx hb dX12_moveLong_23  ?_
    refine m_puti G X 39 rfl (hwd _ mk_265) rfl (ty := .int) (by decide +kernel) rfl rfl dX12_moveLong_24 (fun H locs X => ?_)
    refine lv_aload_n hx hb dX12_moveLong_27 rfl (lv_at hl 0 rfl) ?_
    refine m_geta G X 38 rfl (hwd _ mk_27) rfl dX12_moveLong_28 ?_
    refine lv_aload_n hx hb dX12_moveLong_31 rfl (lv_at hl 0 rfl) ?_
    refine m_geti G X 39 rfl (hwd _ mk_265) rfl dX12_moveLong_32 ?_
    refine gi_eq (a := ((σ.1 39) + 1)) rfl ?_
    refine lv_iconst (v := nI 1) hx hb dX12_moveLong_35 (by decide) ?_
    refine gn_isub hx hb dX12_moveLong_36 (by omega) ?_
    refine gi_eq (a := (σ.1 39)) (by omega) ?_
    refine m_lald G X 38 rfl (i := (σ.1 39)) (by show _ < 150; omega) (by omega) dX12_moveLong_37 ?_
    refine gl_eq (a := (σ.2 38 (σ.1 39))) rfl ?_
    exact finL_of (mw_eq (by unfold zmvT; first | (rw [if_pos (by omega)]; done) | (rw [if_neg (by omega)]; done))) (by unfold zmvR; first | (rw [if_pos (by omega)]; done) | (rw [if_neg (by omega)]; exact congrArg lN (if_pos rfl))) X dX12_moveLong_38 fin
  ·
    refine lv_aload_n hx hb dX12_moveLong_7 rfl (lv_at hl 0 rfl) ?_
    refine m_geta G X 38 rfl (hwd _ mk_27) rfl dX12_moveLong_8 ?_
    refine lv_aload_n hx hb dX12_moveLong_11 rfl (lv_at hl 0 rfl) ?_
    refine m_geti G X 39 rfl (hwd _ mk_265) rfl dX12_moveLong_12 ?_
    refine lv_lload_n hx hb dX12_moveLong_15 rfl (lv_at hl 1 rfl) ?_
    refine m_last G X 38 rfl (i := (σ.1 39)) (v := v) (by show _ < 150; omega) (by omega) dX12_moveLong_16 (fun H locs X => ?_)
    refine lv_aload_n hx hb dX12_moveLong_17 rfl (lv_at hl 0 rfl) ?_
    refine lv_dup hx hb dX12_moveLong_18 rfl ?_
    refine m_geti G X 39 rfl (hwd _ mk_265) rfl dX12_moveLong_19 ?_
    refine gi_eq (a := (σ.1 39)) rfl ?_
    refine lv_iconst (v := nI 1) hx hb dX12_moveLong_22 (by decide) ?_
    refine gn_iadd hx hb dX12_moveLong_23  ?_
    refine m_puti G X 39 rfl (hwd _ mk_265) rfl (ty := .int) (by decide +kernel) rfl rfl dX12_moveLong_24 (fun H locs X => ?_)
    refine lv_aload_n hx hb dX12_moveLong_27 rfl (lv_at hl 0 rfl) ?_
    refine m_geta G X 38 rfl (hwd _ mk_27) rfl dX12_moveLong_28 ?_
    refine lv_aload_n hx hb dX12_moveLong_31 rfl (lv_at hl 0 rfl) ?_
    refine m_geti G X 39 rfl (hwd _ mk_265) rfl dX12_moveLong_32 ?_
    refine gi_eq (a := ((σ.1 39) + 1)) rfl ?_
    refine lv_iconst (v := nI 1) hx hb dX12_moveLong_35 (by decide) ?_
    refine gn_isub hx hb dX12_moveLong_36 (by omega) ?_
    refine gi_eq (a := (σ.1 39)) (by omega) ?_
    refine m_lald G X 38 rfl (i := (σ.1 39)) (by show _ < 150; omega) (by omega) dX12_moveLong_37 ?_
    refine gl_eq (a := ((sE σ 38 (σ.1 39) v).2 38 (σ.1 39))) rfl ?_
    exact finL_of (mw_eq (by unfold zmvT; first | (rw [if_pos (by omega)]; done) | (rw [if_neg (by omega)]; done))) (by unfold zmvR; first | (rw [if_pos (by omega)]; done) | (rw [if_neg (by omega)]; exact congrArg lN (if_pos rfl))) X dX12_moveLong_38 fin
set_option maxHeartbeats 4000000 in
set_option maxRecDepth 100000 in
theorem c_move {l : Launch} {D : va_G} {cl : List vw_C} {tys : List (ClassId × FieldType)} {o : Nat} {q : Nat → Nat} {ci : Nat} {cI cJ : ClassId} (hcl : cl[ci]? = some (RX12, TX12, 48)) (ht0 : tys[0]? = some (cI, .int)) (ht1 : tys[1]? = some (cJ, .long)) {σ : MS} (v : Nat) (hv : v < 2147483648) (hat : σ.1 39 < 150) (htk : σ.1 40 < 2) : ctI l D cl tys yX12_move (Cond.code yX12_move cX12_move 2 (some .int) :: mW) { frames := 1, cells := 0, slots := 0, locals := 22 } [.ref o, .int (nI v)] (mw o q ci cI cJ σ) (nI (zmvR σ v)) (mw o q ci cI cJ (zmvT σ v)) := by
  refine ctI_of (cc := cX12_move) (maxL := 2) (by decide +kernel) rfl (Nat.le_of_ble_eq_true rfl) ?_
  intro p e s m args below meth c A Q ls hx hb hml hown hts hK hA X hl fin
  replace hown : s.vm.findClass RX12 = some m.cls := hown
  have hwd : ∀ w ∈ mW, w.before args s = true := fun w h => hts w (List.mem_cons_of_mem _ h)
  have G : mG p c cX12_move s m args D cl tys ci cI cJ := ⟨hx, hb, hown, hwd, hK, hcl, ht0, ht1⟩
  replace hl : lv_has ls 2 [(0, .ref o), (1, .int (nI v))] := hl
  refine lv_aload_n hx hb dX12_move_0 rfl (lv_at hl 0 rfl) ?_
  refine lv_iload_n hx hb dX12_move_1 rfl (lv_at hl 1 rfl) ?_
  refine gn_i2l hx hb dX12_move_2 (by omega) ?_
  refine ctL_V (wf := []) (As := [.long (lN v)]) (rest := []) (n := 1) hx hb hml hown hts hK hA (ap_nil X) hl.1 (m_recv G X) (c_moveLong hcl ht0 ht1 (σ := σ) v (hat) (htk)) (cwV 1 hts (mg_V mk_263 mk_267 mk_268 mk_269 mk_43) rfl rfl rfl (by decide +kernel) ⟨Nat.le_of_ble_eq_true rfl, Nat.le_of_ble_eq_true rfl⟩) rfl (Nat.le_of_ble_eq_true rfl) dX12_move_3 ⟨Nat.le_refl _, Nat.le_refl _⟩ (fun H locs X => ?_)
  replace X := ap_nil' X
  refine gn_l2i hx hb dX12_move_6 ?_
  exact fin_of (rfl) (rfl) X dX12_move_7 fin
