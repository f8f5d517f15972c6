set_option maxHeartbeats 4000000 in
set_option maxRecDepth 100000 in
theorem c_readNumber {l : Launch} {D : va_G} {cl : List vw_C} {tys : List (ClassId × FieldType)} {o : Nat} {q : Nat → Nat} {ci : Nat} {cI cJ : ClassId} (hcl : cl[ci]? = some (RX12, TX12, 48)) (ht0 : tys[0]? = some (cI, .int)) (ht1 : tys[1]? = some (cJ, .long)) {σ : MS} (hpo : zpOk σ) (hby : zby8 σ) : ctI l D cl tys yX12_readNumber (Cond.code yX12_readNumber cX12_readNumber 3 (some .int) :: mW) { frames := 2, cells := 0, slots := 0, locals := 45 } [.ref o] (mw o q ci cI cJ σ) (nI (znum σ).1) (mw o q ci cI cJ (zp σ (znum σ).2 (zB σ))) := by
  refine ctI_of (cc := cX12_readNumber) (maxL := 3) (by decide +kernel) rfl (Nat.le_of_ble_eq_true rfl) ?_
  intro p e s m args below meth c A Q ls hx hb hml hown hts hK hA X hl fin
  replace hown : s.vm.findClass RX12 = some m.cls := hown
  have hwd : ∀ w ∈ mW, w.before args s = true := fun w h => hts w (List.mem_cons_of_mem _ h)
  have G : mG p c cX12_readNumber s m args D cl tys ci cI cJ := ⟨hx, hb, hown, hwd, hK, hcl, ht0, ht1⟩
  replace hl : lv_has ls 3 [(0, .ref o)] := hl
  obtain ⟨q16, q17, q18, q19⟩ := id hpo
  replace X := wh_eq (zp_self σ) X
  refine lv_aload_n hx hb dX12_readNumber_0 rfl (lv_at hl 0 rfl) ?_
  refine ctI_V (wf := []) (As := []) (rest := []) (n := 0) hx hb hml hown hts hK hA (ap_nil X) hl.1 (m_recv G X) (c_readDigit hcl ht0 ht1 (σ := (zp σ (σ.1 18) (σ.1 19)))  (hpo) (hby)) (cwV 0 hts (mg_V mk_60 mk_64 mk_65 mk_66 mk_43) rfl rfl rfl (by decide +kernel) ⟨Nat.le_of_ble_eq_true rfl, Nat.le_of_ble_eq_true rfl⟩) rfl (Nat.le_of_ble_eq_true rfl) dX12_readNumber_1 ⟨Nat.le_refl _, Nat.le_refl _⟩ (fun H locs X => ?_)
  replace X := ap_nil' X
  refine gi_raw (y := (nI (if zdg ((σ.1 19)) (zch σ ((σ.1 18))) = 0 then zch σ ((σ.1 18)) - 48 else 0))) rfl ?_
  replace X := wh_eq (σ' := (zp σ (if zdg ((σ.1 19)) (zch σ ((σ.1 18))) = 0 then (σ.1 18) + 1 else (σ.1 18)) (zdg ((σ.1 19)) (zch σ ((σ.1 18)))))) zp_zp X
  refine lv_istore_n (lv' := [(1, .int (nI (if zdg ((σ.1 19)) (zch σ ((σ.1 18))) = 0 then zch σ ((σ.1 18)) - 48 else 0))), (0, .ref o)]) hx hb dX12_readNumber_4 rfl hl (by decide) rfl (fun ls hl => ?_)
  refine lv_iconst (v := nI 1) hx hb dX12_readNumber_5 (by decide) ?_
  refine lv_istore_n (lv' := [(2, .int (nI 1)), (1, .int (nI (if zdg ((σ.1 19)) (zch σ ((σ.1 18))) = 0 then zch σ ((σ.1 18)) - 48 else 0))), (0, .ref o)]) hx hb dX12_readNumber_6 rfl hl (by decide) rfl (fun ls hl => ?_)
  have cut_7 : ∀ (NN : Nat) (k1 : Nat) (v1 : Nat) (a1 : Nat) (n1 : Nat) (hkn : n1 + k1 = 5) (hv : (v1 + 1) * 10 ^ k1 ≤ 100000) (ha1 : a1 ≤ 100) (hB0 : zB σ ≠ 0 → v1 = 0) (hres : znl σ k1 v1 a1 = znum σ), k1 < NN → ∀ (H : Heap) (locs : List Loc) (ls : Array Slot), wH D cl A s.heap H locs (mw o q ci cI cJ (zp σ a1 (zB σ))) → lv_has ls 3 [(0, .ref o), (1, .int (nI v1)), (2, .int (nI n1))] → W p l e { frames := 2, cells := 0, slots := 0, locals := 45 } s m args below meth c H locs 0 0 Q (F0 m 7 ls []) := by
    intro NN
    induction NN with
    | zero => intro k1 v1 a1 n1 hkn hv ha1 hB0 hres hNN; exact absurd hNN (Nat.not_lt_zero _)
    | succ NN ih_7 =>
      intro k1 v1 a1 n1 hkn hv ha1 hB0 hres hNN H locs ls X hl
      refine lv_iload_n hx hb dX12_readNumber_7 rfl (lv_at hl 2 rfl) ?_
      refine lv_iconst (v := nI 5) hx hb dX12_readNumber_8 (by decide) ?_
      refine gn_icmp_ge (tgt := 69) hx hb dX12_readNumber_9 (by decide) (by omega) (by omega) (fun c_9 => ?_) (fun c_9 => ?_)
      ·
        refine lv_iload_n hx hb dX12_readNumber_69 rfl (lv_at hl 1 rfl) ?_
        exact fin_of (mw_eq (by rw [← hres]; first | (rw [znl_stop (fun h9 => c_37 h9.2)]; done) | (rw [znl_stop (fun h9 => absurd (hB0 (by omega)) (by omega))]; done) | (rw [znl_stop (fun h9 => absurd h9.1 (by omega))]; done) | (rw [show k1 = 0 by omega]; rfl))) (by rw [← hres]; first | (rw [znl_stop (fun h9 => c_37 h9.2)]; done) | (rw [znl_stop (fun h9 => absurd (hB0 (by omega)) (by omega))]; done) | (rw [znl_stop (fun h9 => absurd h9.1 (by omega))]; done) | (rw [show k1 = 0 by omega]; rfl)) X dX12_readNumber_70 fin
      ·
        refine lv_iload_n hx hb dX12_readNumber_12 rfl (lv_at hl 1 rfl) ?_
        refine gn_if_le (tgt := 69) hx hb dX12_readNumber_13 (by decide) (by have := zv_lt hv; omega) (fun c_13 => ?_) (fun c_13 => ?_)
        ·
          refine lv_iload_n hx hb dX12_readNumber_69 rfl (lv_at hl 1 rfl) ?_
          exact fin_of (mw_eq (by rw [← hres]; first | (rw [znl_stop (fun h9 => c_37 h9.2)]; done) | (rw [znl_stop (fun h9 => absurd (hB0 (by omega)) (by omega))]; done) | (rw [znl_stop (fun h9 => absurd h9.1 (by omega))]; done) | (rw [show k1 = 0 by omega]; rfl))) (by rw [← hres]; first | (rw [znl_stop (fun h9 => c_37 h9.2)]; done) | (rw [znl_stop (fun h9 => absurd (hB0 (by omega)) (by omega))]; done) | (rw [znl_stop (fun h9 => absurd h9.1 (by omega))]; done) | (rw [show k1 = 0 by omega]; rfl)) X dX12_readNumber_70 fin
        ·
          refine lv_aload_n hx hb dX12_readNumber_16 rfl (lv_at hl 0 rfl) ?_
          refine m_geti G X 19 rfl (hwd _ mk_56) rfl dX12_readNumber_17 ?_
          refine gi_eq (a := (zB σ)) rfl ?_
          refine gn_if_ne (tgt := 69) hx hb dX12_readNumber_20 (by decide) (by omega) (fun c_20 => ?_) (fun c_20 => ?_)
          ·
            refine lv_iload_n hx hb dX12_readNumber_69 rfl (lv_at hl 1 rfl) ?_
            exact fin_of (mw_eq (by rw [← hres]; first | (rw [znl_stop (fun h9 => c_37 h9.2)]; done) | (rw [znl_stop (fun h9 => absurd (hB0 (by omega)) (by omega))]; done) | (rw [znl_stop (fun h9 => absurd h9.1 (by omega))]; done) | (rw [show k1 = 0 by omega]; rfl))) (by rw [← hres]; first | (rw [znl_stop (fun h9 => c_37 h9.2)]; done) | (rw [znl_stop (fun h9 => absurd (hB0 (by omega)) (by omega))]; done) | (rw [znl_stop (fun h9 => absurd h9.1 (by omega))]; done) | (rw [show k1 = 0 by omega]; rfl)) X dX12_readNumber_70 fin
          ·
            refine lv_aload_n hx hb dX12_readNumber_23 rfl (lv_at hl 0 rfl) ?_
            refine ctI_V (wf := []) (As := []) (rest := []) (n := 0) hx hb hml hown hts hK hA (ap_nil X) hl.1 (m_recv G X) (c_here hcl ht0 ht1 (σ := (zp σ a1 (zB σ)))  (⟨q16, q17, ha1, zdg_lt _ _⟩)) (cwV 0 hts (mg_V mk_51 mk_57 mk_58 mk_59 mk_43) rfl rfl rfl (by decide +kernel) ⟨Nat.le_of_ble_eq_true rfl, Nat.le_of_ble_eq_true rfl⟩) rfl (Nat.le_of_ble_eq_true rfl) dX12_readNumber_24 ⟨Nat.le_refl _, Nat.le_refl _⟩ (fun H locs X => ?_)
            replace X := ap_nil' X
            refine gi_raw (y := (nI (zch σ (a1)))) rfl ?_
            replace X := wh_eq (σ' := (zp σ a1 (zB σ))) zp_zp X
            refine lv_i2l (v := (nI (zch σ (a1))).toInt64) hx hb dX12_readNumber_27 rfl ?_
            have hz9 := zch_lt σ a1
            refine gn_ldc2 (v := 48) (k := 48) hx hb hown (hwd _ mk_61) (by decide) dX12_readNumber_28 ?_
            refine gn_ldc2 (v := 57) (k := 57) hx hb hown (hwd _ mk_62) (by decide) dX12_readNumber_31 ?_
            refine ctI_S (w := []) (wf := mw o q ci cI cJ (zp σ a1 (zB σ))) (As := [.long ((nI (zch σ (a1))).toInt64), .long (lN 48), .long (lN 57)]) (rest := []) (n := 3) hx hb hml hown hts hK hA X hl.1 (c_in ((nI (zch σ (a1))).toInt64) (lN 48) (lN 57) ) (va_cwS 3 hts (mg_S mk_38 mk_41 mk_42 mk_43) rfl rfl rfl (by decide +kernel) ⟨Nat.le_of_ble_eq_true rfl, Nat.le_of_ble_eq_true rfl⟩) rfl (Nat.le_of_ble_eq_true rfl) dX12_readNumber_34 ⟨Nat.le_refl _, Nat.le_refl _⟩ (fun H locs X => ?_)
            refine gi_raw (y := (if (lN 48) ≤ ((nI (zch σ (a1))).toInt64) ∧ ((nI (zch σ (a1))).toInt64) ≤ (lN 57) then 1 else 0)) rfl ?_
            replace X := wh_eq (σ' := (zp σ a1 (zB σ))) zp_zp X
            refine gb_if_eq (tgt := 69) hx hb dX12_readNumber_37 (by decide) (fun c_37 => ?_) (fun c_37 => ?_)
            ·
              rw [zdig hz9] at c_37
              refine lv_iload_n hx hb dX12_readNumber_69 rfl (lv_at hl 1 rfl) ?_
              exact fin_of (mw_eq (by rw [← hres]; first | (rw [znl_stop (fun h9 => c_37 h9.2)]; done) | (rw [znl_stop (fun h9 => absurd (hB0 (by omega)) (by omega))]; done) | (rw [znl_stop (fun h9 => absurd h9.1 (by omega))]; done) | (rw [show k1 = 0 by omega]; rfl))) (by rw [← hres]; first | (rw [znl_stop (fun h9 => c_37 h9.2)]; done) | (rw [znl_stop (fun h9 => absurd (hB0 (by omega)) (by omega))]; done) | (rw [znl_stop (fun h9 => absurd h9.1 (by omega))]; done) | (rw [show k1 = 0 by omega]; rfl)) X dX12_readNumber_70 fin
            ·
              rw [zdig hz9] at c_37
              have hi9 := zch_in c_37.2
              refine lv_bipush (v := nI 10) hx hb dX12_readNumber_40 (by decide) ?_
              refine lv_iload_n hx hb dX12_readNumber_42 rfl (lv_at hl 1 rfl) ?_
              refine gn_imul hx hb dX12_readNumber_43  ?_
              refine lv_aload_n hx hb dX12_readNumber_44 rfl (lv_at hl 0 rfl) ?_
              refine ctI_V (wf := []) (As := []) (rest := [.int (nI (10 * v1))]) (n := 0) hx hb hml hown hts hK hA (ap_nil X) hl.1 (m_recv G X) (c_here hcl ht0 ht1 (σ := (zp σ a1 (zB σ)))  (⟨q16, q17, ha1, zdg_lt _ _⟩)) (cwV 0 hts (mg_V mk_51 mk_57 mk_58 mk_59 mk_43) rfl rfl rfl (by decide +kernel) ⟨Nat.le_of_ble_eq_true rfl, Nat.le_of_ble_eq_true rfl⟩) rfl (Nat.le_of_ble_eq_true rfl) dX12_readNumber_45 ⟨Nat.le_refl _, Nat.le_refl _⟩ (fun H locs X => ?_)
              replace X := ap_nil' X
              refine gi_raw (y := (nI (zch σ (a1)))) rfl ?_
              replace X := wh_eq (σ' := (zp σ a1 (zB σ))) zp_zp X
              refine gn_iadd hx hb dX12_readNumber_48  ?_
              refine lv_bipush (v := nI 48) hx hb dX12_readNumber_49 (by decide) ?_
              refine gn_isub hx hb dX12_readNumber_51 (by omega) ?_
              refine lv_istore_n (lv' := [(1, .int (nI (((10 * v1) + (zch σ (a1))) - 48))), (0, .ref o), (2, .int (nI n1))]) hx hb dX12_readNumber_52 rfl hl (by decide) rfl (fun ls hl => ?_)
              refine lv_aload_n hx hb dX12_readNumber_53 rfl (lv_at hl 1 rfl) ?_
              refine lv_dup hx hb dX12_readNumber_54 rfl ?_
              refine m_geti G X 18 rfl (hwd _ mk_52) rfl dX12_readNumber_55 ?_
              refine gi_eq (a := a1) rfl ?_
              refine lv_iconst (v := nI 1) hx hb dX12_readNumber_58 (by decide) ?_
              refine gn_iadd hx hb dX12_readNumber_59  ?_
              refine m_puti G X 18 rfl (hwd _ mk_52) rfl (ty := .int) (by decide +kernel) rfl rfl dX12_readNumber_60 (fun H locs X => ?_)
              replace X := wh_eq (zp_F18 (x := (a1 + 1))) X
              refine lv_iinc (v := nI (n1 + 1)) (lv' := [(2, .int (nI (n1 + 1))), (1, .int (nI (((10 * v1) + (zch σ (a1))) - 48))), (0, .ref o)]) hx hb dX12_readNumber_63 hl (k := 2) rfl (zn_inc _) (by decide) rfl (fun ls hl => ?_)
              refine lv_goto (tgt := 7) hx hb dX12_readNumber_66 (by decide) ?_
              refine ih_7 (k1 - 1) (((10 * v1) + (zch σ (a1))) - 48) (a1 + 1) (n1 + 1) (by omega) (by have h9 := zv_step (v := v1) (d := zch σ a1 - 48) (k := k1 - 1) (by rw [show k1 - 1 + 1 = k1 by omega]; exact hv) (by omega); rw [show 10 * v1 + (zch σ a1 - 48) = 10 * v1 + zch σ a1 - 48 by omega] at h9; exact h9) (by omega) (fun h9 => absurd (hB0 h9) (by omega)) (by rw [← hres, show k1 = (k1 - 1) + 1 by omega, znl_go ⟨by omega, c_37⟩]; rfl) (by omega) _ _ _ (by exact X) (by exact lv_sub hl [2, 1, 0] rfl)
  refine cut_7 _ 4 (if zdg ((σ.1 19)) (zch σ ((σ.1 18))) = 0 then zch σ ((σ.1 18)) - 48 else 0) (if zdg ((σ.1 19)) (zch σ ((σ.1 18))) = 0 then (σ.1 18) + 1 else (σ.1 18)) 1 (by omega) (by have hz8 := zch_lt σ (σ.1 18); split; rename_i h9; have := zdg_0 h9; omega; omega) (by split; rename_i h9; have := zdg_0 h9; have := zch_in this.2.2; omega; omega) (fun h9 => if_neg h9) (rfl) (Nat.lt_succ_self _) _ _ _ (by exact X) (by exact lv_sub hl [2, 1, 0] rfl)
