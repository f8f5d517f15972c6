set_option maxHeartbeats 4000000 in
set_option maxRecDepth 100000 in
theorem c_walkFromStart {l : Launch} {D : va_G} {cl : List vw_C} {tys : List (ClassId × FieldType)} {o : Nat} {q : Nat → Nat} {ci : Nat} {cI cJ : ClassId} (hcl : cl[ci]? = some (RX12, TX12, 48)) (ht0 : tys[0]? = some (cI, .int)) (ht1 : tys[1]? = some (cJ, .long)) {σ : MS} (xw : Nat) (xr : Nat) (xf : Nat) (xz : Nat) (hok : mOk σ) (hw : xw < σ.1 4) (hr : xr < 6 ∨ xr = 4294967295) (hf : xf < 100) (hW : zWok (σ.2 27)) (hp : σ.1 28 < 8 ∨ σ.1 28 = 4294967295) : ctVP l D cl tys yX12_walkFromStart (Cond.code yX12_walkFromStart cX12_walkFromStart 6 (none) :: mW) { frames := 5, cells := 0, slots := 0, locals := 128 } [.ref o, .int (nI xw), .int (nI xr), .int (nI xf), .int (nI xz)] (mw o q ci cI cJ σ) (mw o q ci cI cJ) (fun u => ∃ m9 v9 a9 se9, u = zw σ m9 v9 a9 (zwalk σ xw (σ.1 12) xr xf (σ.2 5) xz).2.1 (zwalk σ xw (σ.1 12) xr xf (σ.2 5) xz).2.2.1 (zwalk σ xw (σ.1 12) xr xf (σ.2 5) xz).2.2.2 (zwalk σ xw (σ.1 12) xr xf (σ.2 5) xz).1 se9) := by
  refine ctVP_of (cc := cX12_walkFromStart) (maxL := 6) (by decide +kernel) rfl (Nat.le_of_ble_eq_true rfl) ?_
  intro p e s m args below meth c A Q ls hx hb hml hown hts hK hA X hl fin
  replace hown : s.vm.findClass RX12 = some m.cls := hown
  have hwd : ∀ w ∈ mW, w.before args s = true := fun w h => hts w (List.mem_cons_of_mem _ h)
  have G : mG p c cX12_walkFromStart s m args D cl tys ci cI cJ := ⟨hx, hb, hown, hwd, hK, hcl, ht0, ht1⟩
  replace hl : lv_has ls 6 [(0, .ref o), (1, .int (nI xw)), (2, .int (nI xr)), (3, .int (nI xf)), (4, .int (nI xz))] := hl
  obtain ⟨kr, kw, ks, kroad, kworld, ksort, kmet, ksum, kst, kco⟩ := id hok
  replace X := wh_eq (zw_self σ) X
  refine lv_iconst (v := nI 0) hx hb dX12_walkFromStart_0 (by decide) ?_
  refine lv_istore (lv' := [(5, .int (nI 0)), (0, .ref o), (1, .int (nI xw)), (2, .int (nI xr)), (3, .int (nI xf)), (4, .int (nI xz))]) hx hb dX12_walkFromStart_1 hl (by decide) rfl (fun ls hl => ?_)
  have cut_3 : ∀ (NN : Nat) (o1 : Nat) (h1 : o1 ≤ σ.1 4), σ.1 4 - o1 < NN → ∀ (H : Heap) (locs : List Loc) (ls : Array Slot), wH D cl A s.heap H locs (mw o q ci cI cJ (zw σ (zcp (σ.2 5) (σ.2 29) o1) (σ.2 35) (σ.2 36) (σ.1 30) (σ.1 31) (σ.1 32) (σ.1 33) (σ.1 34))) → lv_has ls 6 [(0, .ref o), (1, .int (nI xw)), (2, .int (nI xr)), (3, .int (nI xf)), (4, .int (nI xz)), (5, .int (nI o1))] → W p l e { frames := 5, cells := 0, slots := 0, locals := 128 } s m args below meth c H locs 0 0 Q (F0 m 3 ls []) := by
    intro NN
    induction NN with
    | zero => intro o1 h1 hNN; exact absurd hNN (Nat.not_lt_zero _)
    | succ NN ih_3 =>
      intro o1 h1 hNN H locs ls X hl
      refine lv_iload hx hb dX12_walkFromStart_3 (lv_at hl 5 rfl) ?_
      refine lv_aload_n hx hb dX12_walkFromStart_5 rfl (lv_at hl 0 rfl) ?_
      refine m_geti G X 4 rfl (hwd _ mk_45) rfl dX12_walkFromStart_6 ?_
      refine gi_eq (a := (σ.1 4)) rfl ?_
      refine gn_icmp_ge (tgt := 33) hx hb dX12_walkFromStart_9 (by decide) (by omega) (by omega) (fun c_9 => ?_) (fun c_9 => ?_)
      ·
        have hrc : zwalk σ xw (σ.1 12) xr xf (zcp (σ.2 5) (σ.2 29) o1) xz = zwalk σ xw (σ.1 12) xr xf (σ.2 5) xz := zwalk_cong (Nat.lt_of_le_of_lt (Nat.zero_le _) hw) (fun w9 hw9 => zcp_in (by omega))
        refine lv_aload_n hx hb dX12_walkFromStart_33 rfl (lv_at hl 0 rfl) ?_
        refine lv_iload_n hx hb dX12_walkFromStart_34 rfl (lv_at hl 1 rfl) ?_
        refine lv_aload_n hx hb dX12_walkFromStart_35 rfl (lv_at hl 0 rfl) ?_
        refine m_geti G X 12 rfl (hwd _ mk_81) rfl dX12_walkFromStart_36 ?_
        refine gi_eq (a := (σ.1 12)) rfl ?_
        refine lv_iload_n hx hb dX12_walkFromStart_39 rfl (lv_at hl 2 rfl) ?_
        refine lv_iload_n hx hb dX12_walkFromStart_40 rfl (lv_at hl 3 rfl) ?_
        refine lv_iload hx hb dX12_walkFromStart_41 (lv_at hl 4 rfl) ?_
        refine ctVP_V (wf := []) (As := [.int (nI xw), .int (nI (σ.1 12)), .int (nI xr), .int (nI xf), .int (nI xz)]) (rest := []) (n := 5) hx hb hml hown hts hK hA (ap_nil X) hl.1 (m_recv G X) (c_walkBy hcl ht0 ht1 (σ := (zw σ (zcp (σ.2 5) (σ.2 29) o1) (σ.2 35) (σ.2 36) (σ.1 30) (σ.1 31) (σ.1 32) (σ.1 33) (σ.1 34))) xw (σ.1 12) xr xf xz (hok) (hw) (by omega) (hr) (hf) (fun w9 hw9 => by (show zcp (σ.2 5) (σ.2 29) o1 w9 ≤ _); rw [zcp_in (by have : w9 < σ.1 4 := hw9; omega)]; have := kworld w9 hw9; omega) (hW) (hp)) (cwV 5 hts (mg_V mk_225 mk_226 mk_227 mk_228 mk_43) rfl rfl rfl (by decide +kernel) ⟨Nat.le_of_ble_eq_true rfl, Nat.le_of_ble_eq_true rfl⟩) rfl (Nat.le_of_ble_eq_true rfl) dX12_walkFromStart_43 ⟨Nat.le_refl _, Nat.le_refl _⟩ (fun H locs u_43 hu_43 X => ?_)
        replace X := ap_nil' X
        obtain ⟨m_43, v_43, a_43, se_43, rfl⟩ := hu_43
        simp only [zwalk_zw] at X
        replace X := wh_eq (σ' := (zw σ m_43 v_43 a_43 ((zwalk σ xw (σ.1 12) xr xf (zcp (σ.2 5) (σ.2 29) o1) xz).2.1) ((zwalk σ xw (σ.1 12) xr xf (zcp (σ.2 5) (σ.2 29) o1) xz).2.2.1) ((zwalk σ xw (σ.1 12) xr xf (zcp (σ.2 5) (σ.2 29) o1) xz).2.2.2) ((zwalk σ xw (σ.1 12) xr xf (zcp (σ.2 5) (σ.2 29) o1) xz).1) se_43)) zw_zw X
        exact fin _ _ _ _ (zw σ m_43 v_43 a_43 ((zwalk σ xw (σ.1 12) xr xf (zcp (σ.2 5) (σ.2 29) o1) xz).2.1) ((zwalk σ xw (σ.1 12) xr xf (zcp (σ.2 5) (σ.2 29) o1) xz).2.2.1) ((zwalk σ xw (σ.1 12) xr xf (zcp (σ.2 5) (σ.2 29) o1) xz).2.2.2) ((zwalk σ xw (σ.1 12) xr xf (zcp (σ.2 5) (σ.2 29) o1) xz).1) se_43) (⟨_, _, _, _, by rw [hrc]⟩) X dX12_walkFromStart_46
      ·
        refine lv_aload_n hx hb dX12_walkFromStart_12 rfl (lv_at hl 0 rfl) ?_
        refine m_geta G X 29 rfl (hwd _ mk_24) rfl dX12_walkFromStart_13 ?_
        refine lv_iload hx hb dX12_walkFromStart_16 (lv_at hl 5 rfl) ?_
        refine lv_aload_n hx hb dX12_walkFromStart_18 rfl (lv_at hl 0 rfl) ?_
        refine m_geta G X 5 rfl (hwd _ mk_7) rfl dX12_walkFromStart_19 ?_
        have hkc := kworld o1 c_9
        refine lv_iload hx hb dX12_walkFromStart_22 (lv_at hl 5 rfl) ?_
        refine m_iald G X 5 rfl (i := o1) (by show _ < 5; omega) (by omega) dX12_walkFromStart_24 ?_
        refine gi_eq (a := (σ.2 5 o1)) rfl ?_
        refine gn_i2l hx hb dX12_walkFromStart_25 (by omega) ?_
        refine m_last G X 29 rfl (i := o1) (v := (σ.2 5 o1)) (by show _ < 5; omega) (by omega) dX12_walkFromStart_26 (fun H locs X => ?_)
        replace X := wh_eq zw_E29 X
        refine lv_iinc (v := nI (o1 + 1)) (lv' := [(5, .int (nI (o1 + 1))), (0, .ref o), (1, .int (nI xw)), (2, .int (nI xr)), (3, .int (nI xf)), (4, .int (nI xz))]) hx hb dX12_walkFromStart_27 hl (k := 5) rfl (zn_inc _) (by decide) rfl (fun ls hl => ?_)
        refine lv_goto (tgt := 3) hx hb dX12_walkFromStart_30 (by decide) ?_
        refine ih_3 (o1 + 1) (by omega) (by omega) _ _ _ (by exact wh_eq (zw_c (zcp_1 rfl) rfl rfl rfl rfl rfl rfl rfl) X) (by exact lv_sub hl [1, 2, 3, 4, 5, 0] rfl)
  refine cut_3 _ 0 (Nat.zero_le _) (Nat.lt_succ_self _) _ _ _ (by exact wh_eq (zw_c (funext fun a9 => (zcp_out (Nat.zero_le a9)).symm) rfl rfl rfl rfl rfl rfl rfl) X) (by exact lv_sub hl [1, 2, 3, 4, 5, 0] rfl)
