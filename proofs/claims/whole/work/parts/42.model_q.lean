set_option maxHeartbeats 4000000 in
set_option maxRecDepth 100000 in
theorem c_post {l : Launch} {D : va_G} {cl : List vw_C} {tys : List (ClassId × FieldType)} {o : Nat} {q : Nat → Nat} {ci : Nat} {cI cJ : ClassId} (hcl : cl[ci]? = some (RX12, TX12, 48)) (ht0 : tys[0]? = some (cI, .int)) (ht1 : tys[1]? = some (cJ, .long)) {σ : MS} {σ0 : MS} (h15 : σ = sF σ0 15 0) (x : Int32) (xz : Nat) (hok : mOk σ) (hsh : mSh σ) : ctIP l D cl tys yX12_post (Cond.code yX12_post cX12_post 7 (some .int) :: mW) { frames := 7, cells := 0, slots := 0, locals := 180 } [.ref o, .int x, .int (nI xz)] (mw o q ci cI cJ σ0) (mw o q ci cI cJ) (zpostS σ x xz) (fun u => mEq σ u) := by
  refine ctIP_of (cc := cX12_post) (maxL := 7) (by decide +kernel) rfl (Nat.le_of_ble_eq_true rfl) ?_
  intro p e s m args below meth c A Q ls hx hb hml hown hts hK hA X hl fin
  replace hown : s.vm.findClass RX12 = some m.cls := hown
  have hwd : ∀ w ∈ mW, w.before args s = true := fun w h => hts w (List.mem_cons_of_mem _ h)
  have G : mG p c cX12_post s m args D cl tys ci cI cJ := ⟨hx, hb, hown, hwd, hK, hcl, ht0, ht1⟩
  replace hl : lv_has ls 7 [(0, .ref o), (1, .int x), (2, .int (nI xz))] := hl
  obtain ⟨kr, kw, ks, kroad, kworld, ksort, kmet, ksum, kst, kco⟩ := id hok
  obtain ⟨hh, hru, hro, htb, hW, hp28, hth⟩ := id hsh
  have hp : σ.1 28 < 8 ∨ σ.1 28 = 4294967295 := Or.inr hp28
  refine lv_aload_n hx hb dX12_post_0 rfl (lv_at hl 0 rfl) ?_
  refine lv_iconst (v := nI 0) hx hb dX12_post_1 (by decide) ?_
  refine m_puti G X 15 rfl (hwd _ mk_35) rfl (ty := .int) (by decide +kernel) rfl rfl dX12_post_2 (fun H locs X => ?_)
  rw [← h15] at X
  refine lv_iload_n hx hb dX12_post_5 rfl (lv_at hl 1 rfl) ?_
  refine lv_i2l (v := x.toInt64) hx hb dX12_post_6 rfl ?_
  refine lv_lconst (v := lN 1) hx hb dX12_post_7 (by decide) ?_
  refine gn_ldc2 (v := 20) (k := 20) hx hb hown (hwd _ mk_248) (by decide) dX12_post_8 ?_
  refine ctI_S (w := []) (wf := mw o q ci cI cJ σ) (As := [.long x.toInt64, .long (lN 1), .long (lN 20)]) (rest := []) (n := 3) hx hb hml hown hts hK hA X hl.1 (c_in x.toInt64 (lN 1) (lN 20) ) (va_cwS 3 hts (mg_S mk_38 mk_41 mk_42 mk_43) rfl rfl rfl (by decide +kernel) ⟨Nat.le_of_ble_eq_true rfl, Nat.le_of_ble_eq_true rfl⟩) rfl (Nat.le_of_ble_eq_true rfl) dX12_post_11 ⟨Nat.le_refl _, Nat.le_refl _⟩ (fun H locs X => ?_)
  refine gb_if_ne (tgt := 19) hx hb dX12_post_14 (by decide) (fun c_14 => ?_) (fun c_14 => ?_)
  ·
    rw [zi20] at c_14
    obtain ⟨xn, hxn, rfl⟩ := zi_in (n := 21) (by decide) (show zir x 21 from ⟨by omega, by omega⟩)
    refine lv_aload_n hx hb dX12_post_19 rfl (lv_at hl 0 rfl) ?_
    refine ctI_V (wf := []) (As := []) (rest := []) (n := 0) hx hb hml hown hts hK hA (ap_nil X) hl.1 (m_recv G X) (c_isReady hcl ht0 ht1 (σ := σ)  (kw) (fun w9 hw9 => (kworld w9 hw9).2.1)) (cwV 0 hts (mg_V mk_47 mk_165 mk_166 mk_167 mk_43) rfl rfl rfl (by decide +kernel) ⟨Nat.le_of_ble_eq_true rfl, Nat.le_of_ble_eq_true rfl⟩) rfl (Nat.le_of_ble_eq_true rfl) dX12_post_20 ⟨Nat.le_refl _, Nat.le_refl _⟩ (fun H locs X => ?_)
    replace X := ap_nil' X
    refine gb_if_ne (tgt := 29) hx hb dX12_post_23 (by decide) (fun c_23 => ?_) (fun c_23 => ?_)
    ·
      refine lv_aload_n hx hb dX12_post_29 rfl (lv_at hl 0 rfl) ?_
      refine ctV_V (wf := []) (As := []) (rest := []) (n := 0) hx hb hml hown hts hK hA (ap_nil X) hl.1 (m_recv G X) (c_findWays hcl ht0 ht1 (σ := σ)  (hok) (hW)) (cwV 0 hts (mg_V mk_116 mk_128 mk_129 mk_130 mk_43) rfl rfl rfl (by decide +kernel) ⟨Nat.le_of_ble_eq_true rfl, Nat.le_of_ble_eq_true rfl⟩) rfl (Nat.le_of_ble_eq_true rfl) dX12_post_30 ⟨Nat.le_refl _, Nat.le_refl _⟩ (fun H locs X => ?_)
      replace X := ap_nil' X
      replace X := wh_eq (show sA σ 27 (zws σ (σ.2 27) (σ.1 4)) = zf σ from rfl) X
      replace X := wh_eq (zw_self (zf σ)) X
      replace X := wh_eq (show zw (zf σ) (σ.2 29) (σ.2 35) (σ.2 36) (σ.1 30) (σ.1 31) (σ.1 32) (σ.1 33) (σ.1 34) = zw (zpo σ 4294967295) (σ.2 29) (σ.2 35) (σ.2 36) (σ.1 30) (σ.1 31) (σ.1 32) (σ.1 33) (σ.1 34) by rw [zpo_self hp28]) X
      refine lv_iconst (v := (-1)) hx hb dX12_post_33 (by decide) ?_
      refine lv_istore_n (lv' := [(3, .int (-1)), (0, .ref o), (1, .int (nI xn)), (2, .int (nI xz))]) hx hb dX12_post_34 rfl hl (by decide) rfl (fun ls hl => ?_)
      refine lv_iconst (v := nI 0) hx hb dX12_post_35 (by decide) ?_
      refine lv_istore (lv' := [(4, .int (nI 0)), (3, .int (-1)), (0, .ref o), (1, .int (nI xn)), (2, .int (nI xz))]) hx hb dX12_post_36 hl (by decide) rfl (fun ls hl => ?_)
      refine lv_iconst (v := nI 0) hx hb dX12_post_38 (by decide) ?_
      refine lv_istore (lv' := [(5, .int (nI 0)), (4, .int (nI 0)), (3, .int (-1)), (0, .ref o), (1, .int (nI xn)), (2, .int (nI xz))]) hx hb dX12_post_39 hl (by decide) rfl (fun ls hl => ?_)
      have cut_41 : ∀ (NN : Nat) (c1 : Nat) (pq : Nat) (mm : Nat → Nat) (vv : Nat → Nat) (aa : Nat → Nat) (x30 : Nat) (x31 : Nat) (x32 : Nat) (x33 : Nat) (x34 : Nat) (h1 : c1 ≤ 8), 8 - c1 < NN → ∀ (H : Heap) (locs : List Loc) (ls : Array Slot), wH D cl A s.heap H locs (mw o q ci cI cJ (zw (zpo σ pq) mm vv aa x30 x31 x32 x33 x34)) → lv_has ls 7 [(0, .ref o), (1, .int (nI xn)), (2, .int (nI xz)), (3, .int (nI (zb4 (zpostF σ xn xz) c1))), (4, .int (nI (zl4 (zpostF σ xn xz) c1))), (5, .int (nI c1))] → W p l e { frames := 7, cells := 0, slots := 0, locals := 180 } s m args below meth c H locs 0 0 Q (F0 m 41 ls []) := by
        intro NN
        induction NN with
        | zero => intro c1 pq mm vv aa x30 x31 x32 x33 x34 h1 hNN; exact absurd hNN (Nat.not_lt_zero _)
        | succ NN ih_41 =>
          intro c1 pq mm vv aa x30 x31 x32 x33 x34 h1 hNN H locs ls X hl
          refine lv_iload hx hb dX12_post_41 (lv_at hl 5 rfl) ?_
          refine lv_bipush (v := nI 8) hx hb dX12_post_43 (by decide) ?_
          refine gn_icmp_ge (tgt := 88) hx hb dX12_post_45 (by decide) (by omega) (by omega) (fun c_45 => ?_) (fun c_45 => ?_)
          ·
            refine lv_aload_n hx hb dX12_post_88 rfl (lv_at hl 0 rfl) ?_
            refine lv_iconst (v := (-1)) hx hb dX12_post_89 (by decide) ?_
            refine gi_to (a := 4294967295) (zm1) ?_
            refine m_puti G X 28 rfl (hwd _ mk_23) rfl (ty := .int) (by decide +kernel) rfl rfl dX12_post_90 (fun H locs X => ?_)
            replace X := wh_eq (σ' := (zw (zpo σ 4294967295) mm vv aa x30 x31 x32 x33 x34)) (zw_P28.trans (by rw [zpo_po])) X
            refine lv_iload_n hx hb dX12_post_93 rfl (lv_at hl 3 rfl) ?_
            exact finIP_of (by unfold zpostS; rw [if_neg (fun h9 => h9 c_14), if_neg (fun h9 => h9 c_23), ztoNat (show xn < 2147483648 by omega), show c1 = 8 by omega]; exact congrArg nI (if_neg (by decide))) (u := (zw (zpo σ 4294967295) mm vv aa x30 x31 x32 x33 x34)) (by rw [zpo_self hp28]; exact mEq_zw hW) X dX12_post_94 fin
          ·
            refine lv_aload_n hx hb dX12_post_48 rfl (lv_at hl 0 rfl) ?_
            refine lv_iload hx hb dX12_post_49 (lv_at hl 5 rfl) ?_
            refine m_puti G X 28 rfl (hwd _ mk_23) rfl (ty := .int) (by decide +kernel) rfl rfl dX12_post_51 (fun H locs X => ?_)
            replace X := wh_eq (σ' := (zw (zpo σ c1) mm vv aa x30 x31 x32 x33 x34)) (zw_P28.trans (by rw [zpo_po])) X
            refine lv_aload_n hx hb dX12_post_54 rfl (lv_at hl 0 rfl) ?_
            refine lv_iconst (v := nI 3) hx hb dX12_post_55 (by decide) ?_
            refine lv_iconst (v := nI 0) hx hb dX12_post_56 (by decide) ?_
            refine lv_iload_n hx hb dX12_post_57 rfl (lv_at hl 1 rfl) ?_
            refine lv_iload_n hx hb dX12_post_58 rfl (lv_at hl 2 rfl) ?_
            refine ctIP_V (wf := []) (As := [.int (nI 3), .int (nI 0), .int (nI xn), .int (nI xz)]) (rest := []) (n := 4) hx hb hml hown hts hK hA (ap_nil X) hl.1 (m_recv G X) (c_meanOf hcl ht0 ht1 (σ := (zw (zpo σ c1) mm vv aa x30 x31 x32 x33 x34)) 3 0 xn xz (hok) (by omega) (by omega) (by omega) (zWok_ws hW _) (Or.inl c_45)) (cwV 4 hts (mg_V mk_246 mk_252 mk_253 mk_254 mk_43) rfl rfl rfl (by decide +kernel) ⟨Nat.le_of_ble_eq_true rfl, Nat.le_of_ble_eq_true rfl⟩) rfl (Nat.le_of_ble_eq_true rfl) dX12_post_59 ⟨Nat.le_refl _, Nat.le_refl _⟩ (fun H locs u_59 hu_59 X => ?_)
            replace X := ap_nil' X
            obtain ⟨m_59, v_59, a_59, y1_59, y2_59, y3_59, y4_59, y5_59, rfl⟩ := hu_59
            replace X := wh_eq (σ' := (zw (zpo σ c1) m_59 v_59 a_59 y1_59 y2_59 y3_59 y4_59 y5_59)) zw_zw X
            refine gi_raw (y := nI (zmeans (zpo σ c1) 3 0 xn xz)) (congrArg nI (zmeans_zw _ _ _ _)) ?_
            have hmc : zpostF σ xn xz c1 < 2147483648 := zmeans_lt (σ := zpo σ c1) hok (by decide) (by omega)
            refine gi_eq (a := (zpostF σ xn xz c1)) (rfl) ?_
            refine lv_istore (lv' := [(6, .int (nI (zpostF σ xn xz c1))), (0, .ref o), (1, .int (nI xn)), (2, .int (nI xz)), (3, .int (nI (zb4 (zpostF σ xn xz) c1))), (4, .int (nI (zl4 (zpostF σ xn xz) c1))), (5, .int (nI c1))]) hx hb dX12_post_62 hl (by decide) rfl (fun ls hl => ?_)
            refine lv_iload_n hx hb dX12_post_64 rfl (lv_at hl 4 rfl) ?_
            by_cases e0 : c1 = 0
            ·
              refine gi_raw (y := (-1)) (by rw [show zb4 (zpostF σ xn xz) c1 = 4294967295 from if_pos e0]; exact zm1.symm) ?_
              refine lv_if_lt (tgt := 75) hx hb dX12_post_65 (by decide) (fun c_65 => ?_) (fun c_65 => ?_)
              ·
                refine lv_iload hx hb dX12_post_75 (lv_at hl 6 rfl) ?_
                refine lv_istore_n (lv' := [(3, .int (nI c1)), (6, .int (nI (zpostF σ xn xz c1))), (0, .ref o), (1, .int (nI xn)), (2, .int (nI xz)), (4, .int (nI (zl4 (zpostF σ xn xz) c1))), (5, .int (nI c1))]) hx hb dX12_post_77 rfl hl (by decide) rfl (fun ls hl => ?_)
                refine lv_iload hx hb dX12_post_78 (lv_at hl 1 rfl) ?_
                refine lv_istore (lv' := [(4, .int (nI (zpostF σ xn xz c1))), (3, .int (nI c1)), (6, .int (nI (zpostF σ xn xz c1))), (0, .ref o), (1, .int (nI xn)), (2, .int (nI xz)), (5, .int (nI c1))]) hx hb dX12_post_80 hl (by decide) rfl (fun ls hl => ?_)
                refine lv_iinc (v := nI (c1 + 1)) (lv' := [(5, .int (nI (c1 + 1))), (4, .int (nI (zpostF σ xn xz c1))), (3, .int (nI c1)), (6, .int (nI (zpostF σ xn xz c1))), (0, .ref o), (1, .int (nI xn)), (2, .int (nI xz))]) hx hb dX12_post_82 hl (k := 6) rfl (zn_inc _) (by decide) rfl (fun ls hl => ?_)
                refine lv_goto (tgt := 41) hx hb dX12_post_85 (by decide) ?_
                refine ih_41 (c1 + 1) c1 m_59 v_59 a_59 y1_59 y2_59 y3_59 y4_59 y5_59 (by omega) (by omega) _ _ _ (by exact X) (by have hn9 := zb4_new (f := zpostF σ xn xz) (c := c1) (by first | exact Or.inl e0 | exact Or.inr c_72); rw [hn9.1, hn9.2]; exact lv_sub hl [4, 5, 6, 2, 1, 0] rfl)
              · exact absurd c_65 (by decide)
            have hz9 := zleast_lt (zpostF σ xn xz) c1 (by omega)
            have hb9 : zb4 (zpostF σ xn xz) c1 = zleast (zpostF σ xn xz) c1 := if_neg e0
            have hl9 : zl4 (zpostF σ xn xz) c1 = zpostF σ xn xz (zleast (zpostF σ xn xz) c1) := if_neg e0
            have hm9 : zpostF σ xn xz (zleast (zpostF σ xn xz) c1) < 2147483648 := zmeans_lt (σ := zpo σ _) hok (by decide) (by omega)
            refine gn_if_lt (tgt := 75) hx hb dX12_post_65 (by decide) (by omega) ?_
            refine lv_iload hx hb dX12_post_68 (lv_at hl 0 rfl) ?_
            refine lv_iload hx hb dX12_post_70 (lv_at hl 5 rfl) ?_
            refine gn_icmp_ge (tgt := 82) hx hb dX12_post_72 (by decide) (by omega) (by rw [hl9]; exact hm9) (fun c_72 => ?_) (fun c_72 => ?_)
            ·
              refine lv_iinc (v := nI (c1 + 1)) (lv' := [(5, .int (nI (c1 + 1))), (6, .int (nI (zpostF σ xn xz c1))), (0, .ref o), (1, .int (nI xn)), (2, .int (nI xz)), (3, .int (nI (zb4 (zpostF σ xn xz) c1))), (4, .int (nI (zl4 (zpostF σ xn xz) c1)))]) hx hb dX12_post_82 hl (k := 6) rfl (zn_inc _) (by decide) rfl (fun ls hl => ?_)
              refine lv_goto (tgt := 41) hx hb dX12_post_85 (by decide) ?_
              refine ih_41 (c1 + 1) c1 m_59 v_59 a_59 y1_59 y2_59 y3_59 y4_59 y5_59 (by omega) (by omega) _ _ _ (by exact X) (by have hn9 := zb4_old (f := zpostF σ xn xz) (c := c1) e0 c_72; rw [hn9.1, hn9.2]; exact lv_sub hl [2, 3, 4, 5, 6, 0] rfl)
            ·
              refine lv_iload hx hb dX12_post_75 (lv_at hl 6 rfl) ?_
              refine lv_istore_n (lv' := [(3, .int (nI c1)), (6, .int (nI (zpostF σ xn xz c1))), (0, .ref o), (1, .int (nI xn)), (2, .int (nI xz)), (4, .int (nI (zl4 (zpostF σ xn xz) c1))), (5, .int (nI c1))]) hx hb dX12_post_77 rfl hl (by decide) rfl (fun ls hl => ?_)
              refine lv_iload hx hb dX12_post_78 (lv_at hl 1 rfl) ?_
              refine lv_istore (lv' := [(4, .int (nI (zpostF σ xn xz c1))), (3, .int (nI c1)), (6, .int (nI (zpostF σ xn xz c1))), (0, .ref o), (1, .int (nI xn)), (2, .int (nI xz)), (5, .int (nI c1))]) hx hb dX12_post_80 hl (by decide) rfl (fun ls hl => ?_)
              refine lv_iinc (v := nI (c1 + 1)) (lv' := [(5, .int (nI (c1 + 1))), (4, .int (nI (zpostF σ xn xz c1))), (3, .int (nI c1)), (6, .int (nI (zpostF σ xn xz c1))), (0, .ref o), (1, .int (nI xn)), (2, .int (nI xz))]) hx hb dX12_post_82 hl (k := 6) rfl (zn_inc _) (by decide) rfl (fun ls hl => ?_)
              refine lv_goto (tgt := 41) hx hb dX12_post_85 (by decide) ?_
              refine ih_41 (c1 + 1) c1 m_59 v_59 a_59 y1_59 y2_59 y3_59 y4_59 y5_59 (by omega) (by omega) _ _ _ (by exact X) (by have hn9 := zb4_new (f := zpostF σ xn xz) (c := c1) (by first | exact Or.inl e0 | exact Or.inr c_72); rw [hn9.1, hn9.2]; exact lv_sub hl [4, 5, 6, 2, 1, 0] rfl)
      refine cut_41 _ 0 4294967295 (σ.2 29) (σ.2 35) (σ.2 36) (σ.1 30) (σ.1 31) (σ.1 32) (σ.1 33) (σ.1 34) (Nat.zero_le _) (Nat.lt_succ_self _) _ _ _ (by exact X) (by rw [zm1] at hl; exact lv_sub hl [3, 4, 5, 2, 1, 0] rfl)
    ·
      refine lv_bipush (v := (-3)) hx hb dX12_post_26 (by decide) ?_
      exact finIP_of (by unfold zpostS; rw [if_neg (fun h9 => h9 c_14), if_pos c_23]) (u := σ) (mEq_refl hW) X dX12_post_28 fin
  ·
    rw [zi20] at c_14
    refine lv_iconst (v := (-1)) hx hb dX12_post_17 (by decide) ?_
    exact finIP_of (by unfold zpostS; rw [if_pos c_14]) (u := σ) (mEq_refl hW) X dX12_post_18 fin
