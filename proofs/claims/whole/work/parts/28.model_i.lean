set_option maxHeartbeats 4000000 in
set_option maxRecDepth 100000 in
theorem c_meanOf {l : Launch} {D : va_G} {cl : List vw_C} {tys : List (ClassId × FieldType)} {o : Nat} {q : Nat → Nat} {ci : Nat} {cI cJ : ClassId} (hcl : cl[ci]? = some (RX12, TX12, 48)) (ht0 : tys[0]? = some (cI, .int)) (ht1 : tys[1]? = some (cJ, .long)) {σ : MS} (xr : Nat) (xf : Nat) (xn : Nat) (xz : Nat) (hok : mOk σ) (hr : xr < 6 ∨ xr = 4294967295) (hf : xf < 100) (hn : xn ≤ 20) (hW : zWok (σ.2 27)) (hp : σ.1 28 < 8 ∨ σ.1 28 = 4294967295) : ctIP l D cl tys yX12_meanOf (Cond.code yX12_meanOf cX12_meanOf 8 (some .int) :: mW) { frames := 6, cells := 0, slots := 0, locals := 153 } [.ref o, .int (nI xr), .int (nI xf), .int (nI xn), .int (nI xz)] (mw o q ci cI cJ σ) (mw o q ci cI cJ) (nI (zmeans σ xr xf xn xz)) (fun u => ∃ m9 v9 a9 b1 b2 b3 b4 b5, u = zw σ m9 v9 a9 b1 b2 b3 b4 b5) := by
  refine ctIP_of (cc := cX12_meanOf) (maxL := 8) (by decide +kernel) rfl (Nat.le_of_ble_eq_true rfl) ?_
  intro p e s m args below meth c A Q ls hx hb hml hown hts hK hA X hl fin
  replace hown : s.vm.findClass RX12 = some m.cls := hown
  have hwd : ∀ w ∈ mW, w.before args s = true := fun w h => hts w (List.mem_cons_of_mem _ h)
  have G : mG p c cX12_meanOf s m args D cl tys ci cI cJ := ⟨hx, hb, hown, hwd, hK, hcl, ht0, ht1⟩
  replace hl : lv_has ls 8 [(0, .ref o), (1, .int (nI xr)), (2, .int (nI xf)), (3, .int (nI xn)), (4, .int (nI xz))] := hl
  obtain ⟨kr, kw, ks, kroad, kworld, ksort, kmet, ksum, kst, kco⟩ := id hok
  replace X := wh_eq (zw_self σ) X
  refine lv_iconst (v := nI 0) hx hb dX12_meanOf_0 (by decide) ?_
  refine lv_istore (lv' := [(5, .int (nI 0)), (0, .ref o), (1, .int (nI xr)), (2, .int (nI xf)), (3, .int (nI xn)), (4, .int (nI xz))]) hx hb dX12_meanOf_1 hl (by decide) rfl (fun ls hl => ?_)
  refine lv_iconst (v := nI 0) hx hb dX12_meanOf_3 (by decide) ?_
  refine lv_istore (lv' := [(6, .int (nI 0)), (5, .int (nI 0)), (0, .ref o), (1, .int (nI xr)), (2, .int (nI xf)), (3, .int (nI xn)), (4, .int (nI xz))]) hx hb dX12_meanOf_4 hl (by decide) rfl (fun ls hl => ?_)
  have cut_6 : ∀ (NN : Nat) (w1 : Nat) (mm : Nat → Nat) (vv : Nat → Nat) (aa : Nat → Nat) (x30 : Nat) (x31 : Nat) (x32 : Nat) (x33 : Nat) (x34 : Nat) (h1 : w1 ≤ σ.1 4), σ.1 4 - w1 < NN → ∀ (H : Heap) (locs : List Loc) (ls : Array Slot), wH D cl A s.heap H locs (mw o q ci cI cJ (zw σ mm vv aa x30 x31 x32 x33 x34)) → lv_has ls 8 [(0, .ref o), (1, .int (nI xr)), (2, .int (nI xf)), (3, .int (nI xn)), (4, .int (nI xz)), (5, .int (nI (zsum (zmean σ xr xf xn xz) w1))), (6, .int (nI w1))] → W p l e { frames := 6, cells := 0, slots := 0, locals := 153 } s m args below meth c H locs 0 0 Q (F0 m 6 ls []) := by
    intro NN
    induction NN with
    | zero => intro w1 mm vv aa x30 x31 x32 x33 x34 h1 hNN; exact absurd hNN (Nat.not_lt_zero _)
    | succ NN ih_6 =>
      intro w1 mm vv aa x30 x31 x32 x33 x34 h1 hNN H locs ls X hl
      refine lv_iload hx hb dX12_meanOf_6 (lv_at hl 6 rfl) ?_
      refine lv_aload_n hx hb dX12_meanOf_8 rfl (lv_at hl 0 rfl) ?_
      refine m_geti G X 4 rfl (hwd _ mk_45) rfl dX12_meanOf_9 ?_
      refine gi_eq (a := (σ.1 4)) rfl ?_
      refine gn_icmp_ge (tgt := 79) hx hb dX12_meanOf_12 (by decide) (by omega) (by omega) (fun c_12 => ?_) (fun c_12 => ?_)
      ·
        refine lv_iload hx hb dX12_meanOf_79 (lv_at hl 5 rfl) ?_
        exact finIP_of (by rw [show w1 = σ.1 4 by omega]; rfl) (u := (zw σ mm vv aa x30 x31 x32 x33 x34)) (⟨_, _, _, _, _, _, _, _, rfl⟩) X dX12_meanOf_81 fin
      ·
        refine lv_iconst (v := nI 0) hx hb dX12_meanOf_15 (by decide) ?_
        refine lv_istore (lv' := [(7, .int (nI 0)), (0, .ref o), (1, .int (nI xr)), (2, .int (nI xf)), (3, .int (nI xn)), (4, .int (nI xz)), (5, .int (nI (zsum (zmean σ xr xf xn xz) w1))), (6, .int (nI w1))]) hx hb dX12_meanOf_16 hl (by decide) rfl (fun ls hl => ?_)
        have cut_18 : ∀ (NN : Nat) (k1 : Nat) (mmb : Nat → Nat) (vvb : Nat → Nat) (aab : Nat → Nat) (x30b : Nat) (x31b : Nat) (x32b : Nat) (x33b : Nat) (x34b : Nat) (hk1 : k1 ≤ xn), xn - k1 < NN → ∀ (H : Heap) (locs : List Loc) (ls : Array Slot), wH D cl A s.heap H locs (mw o q ci cI cJ (zw σ mmb vvb aab x30b x31b x32b x33b x34b)) → lv_has ls 8 [(0, .ref o), (1, .int (nI xr)), (2, .int (nI xf)), (3, .int (nI xn)), (4, .int (nI xz)), (5, .int (nI (zsum (zmean σ xr xf xn xz) w1 + zsum (fun k => σ.2 5 w1 * zin (zwalk σ w1 (σ.1 12) xr xf (σ.2 5) (xz + k))) k1))), (6, .int (nI w1)), (7, .int (nI k1))] → W p l e { frames := 6, cells := 0, slots := 0, locals := 153 } s m args below meth c H locs 0 0 Q (F0 m 18 ls []) := by
          intro NN
          induction NN with
          | zero => intro k1 mmb vvb aab x30b x31b x32b x33b x34b hk1 hNN; exact absurd hNN (Nat.not_lt_zero _)
          | succ NN ih_18 =>
            intro k1 mmb vvb aab x30b x31b x32b x33b x34b hk1 hNN H locs ls X hl
            refine lv_iload hx hb dX12_meanOf_18 (lv_at hl 7 rfl) ?_
            refine lv_iload_n hx hb dX12_meanOf_20 rfl (lv_at hl 3 rfl) ?_
            refine gn_icmp_ge (tgt := 73) hx hb dX12_meanOf_21 (by decide) (by omega) (by omega) (fun c_21 => ?_) (fun c_21 => ?_)
            ·
              refine lv_iinc (v := nI (w1 + 1)) (lv' := [(6, .int (nI (w1 + 1))), (0, .ref o), (1, .int (nI xr)), (2, .int (nI xf)), (3, .int (nI xn)), (4, .int (nI xz)), (5, .int (nI (zsum (zmean σ xr xf xn xz) w1 + zsum (fun k => σ.2 5 w1 * zin (zwalk σ w1 (σ.1 12) xr xf (σ.2 5) (xz + k))) k1))), (7, .int (nI k1))]) hx hb dX12_meanOf_73 hl (k := 6) rfl (zn_inc _) (by decide) rfl (fun ls hl => ?_)
              refine lv_goto (tgt := 6) hx hb dX12_meanOf_76 (by decide) ?_
              refine ih_6 (w1 + 1) mmb vvb aab x30b x31b x32b x33b x34b (by omega) (by omega) _ _ _ (by exact X) (by rw [show zsum (zmean σ xr xf xn xz) w1 + zsum (fun k => σ.2 5 w1 * zin (zwalk σ w1 (σ.1 12) xr xf (σ.2 5) (xz + k))) k1 = zsum (zmean σ xr xf xn xz) (w1 + 1) by rw [show k1 = xn by omega]; rfl] at hl; exact lv_sub hl [1, 2, 3, 4, 5, 6, 0] rfl)
            ·
              refine lv_aload_n hx hb dX12_meanOf_24 rfl (lv_at hl 0 rfl) ?_
              refine lv_iload hx hb dX12_meanOf_25 (lv_at hl 6 rfl) ?_
              refine lv_iload_n hx hb dX12_meanOf_27 rfl (lv_at hl 1 rfl) ?_
              refine lv_iload_n hx hb dX12_meanOf_28 rfl (lv_at hl 2 rfl) ?_
              refine lv_iload hx hb dX12_meanOf_29 (lv_at hl 4 rfl) ?_
              refine lv_iload hx hb dX12_meanOf_31 (lv_at hl 7 rfl) ?_
              refine gn_iadd hx hb dX12_meanOf_33  ?_
              refine ctVP_V (wf := []) (As := [.int (nI w1), .int (nI xr), .int (nI xf), .int (nI (xz + k1))]) (rest := []) (n := 4) hx hb hml hown hts hK hA (ap_nil X) hl.1 (m_recv G X) (c_walkFromStart hcl ht0 ht1 (σ := (zw σ mmb vvb aab x30b x31b x32b x33b x34b)) w1 xr xf (xz + k1) (hok) (c_12) (hr) (hf) (hW) (hp)) (cwV 4 hts (mg_V mk_238 mk_242 mk_243 mk_244 mk_43) rfl rfl rfl (by decide +kernel) ⟨Nat.le_of_ble_eq_true rfl, Nat.le_of_ble_eq_true rfl⟩) rfl (Nat.le_of_ble_eq_true rfl) dX12_meanOf_34 ⟨Nat.le_refl _, Nat.le_refl _⟩ (fun H locs u_34 hu_34 X => ?_)
              replace X := ap_nil' X
              obtain ⟨m_34, v_34, a_34, se_34, rfl⟩ := hu_34
              simp only [zwalk_zw] at X
              replace X := wh_eq (σ' := (zw σ m_34 v_34 a_34 ((zwalk σ w1 (σ.1 12) xr xf (σ.2 5) (xz + k1)).2.1) ((zwalk σ w1 (σ.1 12) xr xf (σ.2 5) (xz + k1)).2.2.1) ((zwalk σ w1 (σ.1 12) xr xf (σ.2 5) (xz + k1)).2.2.2) ((zwalk σ w1 (σ.1 12) xr xf (σ.2 5) (xz + k1)).1) se_34)) zw_zw X
              refine lv_iload hx hb dX12_meanOf_37 (lv_at hl 5 rfl) ?_
              have hkc := kworld w1 c_12
              refine lv_aload_n hx hb dX12_meanOf_39 rfl (lv_at hl 0 rfl) ?_
              refine m_geta G X 5 rfl (hwd _ mk_7) rfl dX12_meanOf_40 ?_
              refine lv_iload hx hb dX12_meanOf_43 (lv_at hl 6 rfl) ?_
              refine m_iald G X 5 rfl (i := w1) (by show _ < 5; omega) (by omega) dX12_meanOf_45 ?_
              refine gi_eq (a := (σ.2 5 w1)) rfl ?_
              refine lv_aload_n hx hb dX12_meanOf_46 rfl (lv_at hl 0 rfl) ?_
              refine m_geti G X 33 rfl (hwd _ mk_215) rfl dX12_meanOf_47 ?_
              refine gi_eq (a := ((zwalk σ w1 (σ.1 12) xr xf (σ.2 5) (xz + k1)).1)) rfl ?_
              refine gn_if_eq (tgt := 59) hx hb dX12_meanOf_50 (by decide) (zwalk_lost) (fun c_50 => ?_) (fun c_50 => ?_)
              ·
                refine lv_aload_n hx hb dX12_meanOf_59 rfl (lv_at hl 0 rfl) ?_
                refine m_geti G X 30 rfl (hwd _ mk_198) rfl dX12_meanOf_60 ?_
                refine gi_eq (a := ((zwalk σ w1 (σ.1 12) xr xf (σ.2 5) (xz + k1)).2.1)) rfl ?_
                refine gn_imul hx hb dX12_meanOf_63  ?_
                refine gn_iadd hx hb dX12_meanOf_64  ?_
                refine lv_istore (lv' := [(5, .int (nI ((zsum (zmean σ xr xf xn xz) w1 + zsum (fun k => σ.2 5 w1 * zin (zwalk σ w1 (σ.1 12) xr xf (σ.2 5) (xz + k))) k1) + ((σ.2 5 w1) * ((zwalk σ w1 (σ.1 12) xr xf (σ.2 5) (xz + k1)).2.1))))), (0, .ref o), (1, .int (nI xr)), (2, .int (nI xf)), (3, .int (nI xn)), (4, .int (nI xz)), (6, .int (nI w1)), (7, .int (nI k1))]) hx hb dX12_meanOf_65 hl (by decide) rfl (fun ls hl => ?_)
                refine lv_iinc (v := nI (k1 + 1)) (lv' := [(7, .int (nI (k1 + 1))), (5, .int (nI ((zsum (zmean σ xr xf xn xz) w1 + zsum (fun k => σ.2 5 w1 * zin (zwalk σ w1 (σ.1 12) xr xf (σ.2 5) (xz + k))) k1) + ((σ.2 5 w1) * ((zwalk σ w1 (σ.1 12) xr xf (σ.2 5) (xz + k1)).2.1))))), (0, .ref o), (1, .int (nI xr)), (2, .int (nI xf)), (3, .int (nI xn)), (4, .int (nI xz)), (6, .int (nI w1))]) hx hb dX12_meanOf_67 hl (k := 7) rfl (zn_inc _) (by decide) rfl (fun ls hl => ?_)
                refine lv_goto (tgt := 18) hx hb dX12_meanOf_70 (by decide) ?_
                refine ih_18 (k1 + 1) m_34 v_34 a_34 ((zwalk σ w1 (σ.1 12) xr xf (σ.2 5) (xz + k1)).2.1) ((zwalk σ w1 (σ.1 12) xr xf (σ.2 5) (xz + k1)).2.2.1) ((zwalk σ w1 (σ.1 12) xr xf (σ.2 5) (xz + k1)).2.2.2) ((zwalk σ w1 (σ.1 12) xr xf (σ.2 5) (xz + k1)).1) se_34 (by omega) (by omega) _ _ _ (by exact X) (by first | (rw [zsum_add1 (f := fun k => σ.2 5 w1 * zin (zwalk σ w1 (σ.1 12) xr xf (σ.2 5) (xz + k))) (A := zsum (zmean σ xr xf xn xz) w1) (k := k1) (show σ.2 5 w1 * zin (zwalk σ w1 (σ.1 12) xr xf (σ.2 5) (xz + k1)) = σ.2 5 w1 * (zwalk σ w1 (σ.1 12) xr xf (σ.2 5) (xz + k1)).2.1 by rw [zin, if_pos c_50])] at hl; exact lv_sub hl [2, 3, 4, 5, 6, 1, 7, 0] rfl) | (rw [zsum_add1 (f := fun k => σ.2 5 w1 * zin (zwalk σ w1 (σ.1 12) xr xf (σ.2 5) (xz + k))) (A := zsum (zmean σ xr xf xn xz) w1) (k := k1) (show σ.2 5 w1 * zin (zwalk σ w1 (σ.1 12) xr xf (σ.2 5) (xz + k1)) = σ.2 5 w1 * 999 by rw [zin, if_neg (by omega)])] at hl; exact lv_sub hl [2, 3, 4, 5, 6, 1, 7, 0] rfl))
              ·
                refine lv_sipush (v := nI 999) hx hb dX12_meanOf_53 (by decide) ?_
                refine lv_goto (tgt := 63) hx hb dX12_meanOf_56 (by decide) ?_
                refine gn_imul hx hb dX12_meanOf_63  ?_
                refine gn_iadd hx hb dX12_meanOf_64  ?_
                refine lv_istore (lv' := [(5, .int (nI ((zsum (zmean σ xr xf xn xz) w1 + zsum (fun k => σ.2 5 w1 * zin (zwalk σ w1 (σ.1 12) xr xf (σ.2 5) (xz + k))) k1) + ((σ.2 5 w1) * 999)))), (0, .ref o), (1, .int (nI xr)), (2, .int (nI xf)), (3, .int (nI xn)), (4, .int (nI xz)), (6, .int (nI w1)), (7, .int (nI k1))]) hx hb dX12_meanOf_65 hl (by decide) rfl (fun ls hl => ?_)
                refine lv_iinc (v := nI (k1 + 1)) (lv' := [(7, .int (nI (k1 + 1))), (5, .int (nI ((zsum (zmean σ xr xf xn xz) w1 + zsum (fun k => σ.2 5 w1 * zin (zwalk σ w1 (σ.1 12) xr xf (σ.2 5) (xz + k))) k1) + ((σ.2 5 w1) * 999)))), (0, .ref o), (1, .int (nI xr)), (2, .int (nI xf)), (3, .int (nI xn)), (4, .int (nI xz)), (6, .int (nI w1))]) hx hb dX12_meanOf_67 hl (k := 7) rfl (zn_inc _) (by decide) rfl (fun ls hl => ?_)
                refine lv_goto (tgt := 18) hx hb dX12_meanOf_70 (by decide) ?_
                refine ih_18 (k1 + 1) m_34 v_34 a_34 ((zwalk σ w1 (σ.1 12) xr xf (σ.2 5) (xz + k1)).2.1) ((zwalk σ w1 (σ.1 12) xr xf (σ.2 5) (xz + k1)).2.2.1) ((zwalk σ w1 (σ.1 12) xr xf (σ.2 5) (xz + k1)).2.2.2) ((zwalk σ w1 (σ.1 12) xr xf (σ.2 5) (xz + k1)).1) se_34 (by omega) (by omega) _ _ _ (by exact X) (by first | (rw [zsum_add1 (f := fun k => σ.2 5 w1 * zin (zwalk σ w1 (σ.1 12) xr xf (σ.2 5) (xz + k))) (A := zsum (zmean σ xr xf xn xz) w1) (k := k1) (show σ.2 5 w1 * zin (zwalk σ w1 (σ.1 12) xr xf (σ.2 5) (xz + k1)) = σ.2 5 w1 * (zwalk σ w1 (σ.1 12) xr xf (σ.2 5) (xz + k1)).2.1 by rw [zin, if_pos c_50])] at hl; exact lv_sub hl [2, 3, 4, 5, 6, 1, 7, 0] rfl) | (rw [zsum_add1 (f := fun k => σ.2 5 w1 * zin (zwalk σ w1 (σ.1 12) xr xf (σ.2 5) (xz + k))) (A := zsum (zmean σ xr xf xn xz) w1) (k := k1) (show σ.2 5 w1 * zin (zwalk σ w1 (σ.1 12) xr xf (σ.2 5) (xz + k1)) = σ.2 5 w1 * 999 by rw [zin, if_neg (by omega)])] at hl; exact lv_sub hl [2, 3, 4, 5, 6, 1, 7, 0] rfl))
        refine cut_18 _ 0 mm vv aa x30 x31 x32 x33 x34 (Nat.zero_le _) (Nat.lt_succ_self _) _ _ _ (by exact X) (by exact lv_sub hl [1, 2, 3, 4, 5, 6, 7, 0] rfl)
  refine cut_6 _ 0 (σ.2 29) (σ.2 35) (σ.2 36) (σ.1 30) (σ.1 31) (σ.1 32) (σ.1 33) (σ.1 34) (Nat.zero_le _) (Nat.lt_succ_self _) _ _ _ (by exact X) (by exact lv_sub hl [2, 3, 4, 5, 6, 1, 0] rfl)
