set_option maxHeartbeats 4000000 in
set_option maxRecDepth 100000 in
theorem c_best {l : Launch} {D : va_G} {cl : List vw_C} {tys : List (ClassId × FieldType)} {o : Nat} {q : Nat → Nat} {ci : Nat} {cI cJ : ClassId} (hcl : cl[ci]? = some (RX12, TX12, 48)) (ht0 : tys[0]? = some (cI, .int)) (ht1 : tys[1]? = some (cJ, .long)) {σ : MS} {σ0 : MS} (h15 : σ = sF σ0 15 0) (d : Int32) (f : Int32) (x : Int32) (xz : Nat) (hok : mOk σ) (hsh : mSh σ) : ctIP l D cl tys yX12_best (Cond.code yX12_best cX12_best 10 (some .int) :: mW) { frames := 7, cells := 0, slots := 0, locals := 180 } [.ref o, .int d, .int f, .int x, .int (nI xz)] (mw o q ci cI cJ σ0) (mw o q ci cI cJ) (zbestS σ d f x xz) (fun u => mEq σ u) := by
  refine ctIP_of (cc := cX12_best) (maxL := 10) (by decide +kernel) rfl (Nat.le_of_ble_eq_true rfl) ?_
  intro p e s m args below meth c A Q ls hx hb hml hown hts hK hA X hl fin
  replace hown : s.vm.findClass RX12 = some m.cls := hown
  have hwd : ∀ w ∈ mW, w.before args s = true := fun w h => hts w (List.mem_cons_of_mem _ h)
  have G : mG p c cX12_best s m args D cl tys ci cI cJ := ⟨hx, hb, hown, hwd, hK, hcl, ht0, ht1⟩
  replace hl : lv_has ls 10 [(0, .ref o), (1, .int d), (2, .int f), (3, .int x), (4, .int (nI xz))] := hl
  obtain ⟨kr, kw, ks, kroad, kworld, ksort, kmet, ksum, kst, kco⟩ := id hok
  obtain ⟨hh, hru, hro, htb, hW, hp28, hth⟩ := id hsh
  have hp : σ.1 28 < 8 ∨ σ.1 28 = 4294967295 := Or.inr hp28
  refine lv_aload_n hx hb dX12_best_0 rfl (lv_at hl 0 rfl) ?_
  refine lv_iconst (v := nI 0) hx hb dX12_best_1 (by decide) ?_
  refine m_puti G X 15 rfl (hwd _ mk_35) rfl (ty := .int) (by decide +kernel) rfl rfl dX12_best_2 (fun H locs X => ?_)
  rw [← h15] at X
  refine lv_iload_n hx hb dX12_best_5 rfl (lv_at hl 1 rfl) ?_
  refine lv_i2l (v := d.toInt64) hx hb dX12_best_6 rfl ?_
  refine lv_lconst (v := lN 0) hx hb dX12_best_7 (by decide) ?_
  refine gn_ldc2 (v := 7) (k := 7) hx hb hown (hwd _ mk_40) (by decide) dX12_best_8 ?_
  refine ctI_S (w := []) (wf := mw o q ci cI cJ σ) (As := [.long d.toInt64, .long (lN 0), .long (lN 7)]) (rest := []) (n := 3) hx hb hml hown hts hK hA X hl.1 (c_in d.toInt64 (lN 0) (lN 7) ) (va_cwS 3 hts (mg_S mk_38 mk_41 mk_42 mk_43) rfl rfl rfl (by decide +kernel) ⟨Nat.le_of_ble_eq_true rfl, Nat.le_of_ble_eq_true rfl⟩) rfl (Nat.le_of_ble_eq_true rfl) dX12_best_11 ⟨Nat.le_refl _, Nat.le_refl _⟩ (fun H locs X => ?_)
  refine gb_if_eq (tgt := 41) hx hb dX12_best_14 (by decide) (fun c_14 => ?_) (fun c_14 => ?_)
  ·
    rw [zi8] at c_14
    refine lv_iconst (v := (-1)) hx hb dX12_best_41 (by decide) ?_
    exact finIP_of (by unfold zbestS; rw [if_pos (fun h9 => by first | exact c_14 h9.1 | exact c_26 h9.2.1 | exact c_38 h9.2.2)]) (u := σ) (mEq_refl hW) X dX12_best_42 fin
  ·
    rw [zi8] at c_14
    obtain ⟨xd, hxd, rfl⟩ := zi_in (n := 8) (by decide) c_14
    refine lv_iload_n hx hb dX12_best_17 rfl (lv_at hl 2 rfl) ?_
    refine lv_i2l (v := f.toInt64) hx hb dX12_best_18 rfl ?_
    refine lv_lconst (v := lN 0) hx hb dX12_best_19 (by decide) ?_
    refine gn_ldc2 (v := 99) (k := 99) hx hb hown (hwd _ mk_258) (by decide) dX12_best_20 ?_
    refine ctI_S (w := []) (wf := mw o q ci cI cJ σ) (As := [.long f.toInt64, .long (lN 0), .long (lN 99)]) (rest := []) (n := 3) hx hb hml hown hts hK hA X hl.1 (c_in f.toInt64 (lN 0) (lN 99) ) (va_cwS 3 hts (mg_S mk_38 mk_41 mk_42 mk_43) rfl rfl rfl (by decide +kernel) ⟨Nat.le_of_ble_eq_true rfl, Nat.le_of_ble_eq_true rfl⟩) rfl (Nat.le_of_ble_eq_true rfl) dX12_best_23 ⟨Nat.le_refl _, Nat.le_refl _⟩ (fun H locs X => ?_)
    refine gb_if_eq (tgt := 41) hx hb dX12_best_26 (by decide) (fun c_26 => ?_) (fun c_26 => ?_)
    ·
      rw [zi_n f (n := 99) (by decide)] at c_26
      refine lv_iconst (v := (-1)) hx hb dX12_best_41 (by decide) ?_
      exact finIP_of (by unfold zbestS; rw [if_pos (fun h9 => by first | exact c_14 h9.1 | exact c_26 h9.2.1 | exact c_38 h9.2.2)]) (u := σ) (mEq_refl hW) X dX12_best_42 fin
    ·
      rw [zi_n f (n := 99) (by decide)] at c_26
      obtain ⟨xf, hxf, rfl⟩ := zi_in (n := 100) (by omega) c_26
      refine lv_iload_n hx hb dX12_best_29 rfl (lv_at hl 3 rfl) ?_
      refine lv_i2l (v := x.toInt64) hx hb dX12_best_30 rfl ?_
      refine lv_lconst (v := lN 1) hx hb dX12_best_31 (by decide) ?_
      refine gn_ldc2 (v := 20) (k := 20) hx hb hown (hwd _ mk_248) (by decide) dX12_best_32 ?_
      refine ctI_S (w := []) (wf := mw o q ci cI cJ σ) (As := [.long x.toInt64, .long (lN 1), .long (lN 20)]) (rest := []) (n := 3) hx hb hml hown hts hK hA X hl.1 (c_in x.toInt64 (lN 1) (lN 20) ) (va_cwS 3 hts (mg_S mk_38 mk_41 mk_42 mk_43) rfl rfl rfl (by decide +kernel) ⟨Nat.le_of_ble_eq_true rfl, Nat.le_of_ble_eq_true rfl⟩) rfl (Nat.le_of_ble_eq_true rfl) dX12_best_35 ⟨Nat.le_refl _, Nat.le_refl _⟩ (fun H locs X => ?_)
      refine gb_if_ne (tgt := 43) hx hb dX12_best_38 (by decide) (fun c_38 => ?_) (fun c_38 => ?_)
      ·
        rw [zi20] at c_38
        obtain ⟨xn, hxn, rfl⟩ := zi_in (n := 21) (by decide) (show zir x 21 from ⟨by omega, by omega⟩)
        refine lv_aload_n hx hb dX12_best_43 rfl (lv_at hl 0 rfl) ?_
        refine lv_iload_n hx hb dX12_best_44 rfl (lv_at hl 1 rfl) ?_
        refine ctI_V (wf := []) (As := [.int (nI xd)]) (rest := []) (n := 1) hx hb hml hown hts hK hA (ap_nil X) hl.1 (m_recv G X) (c_wrongRow hcl ht0 ht1 (σ := σ) (nI xd) (hok) (hh)) (cwV 1 hts (mg_V mk_86 mk_88 mk_89 mk_90 mk_43) rfl rfl rfl (by decide +kernel) ⟨Nat.le_of_ble_eq_true rfl, Nat.le_of_ble_eq_true rfl⟩) rfl (Nat.le_of_ble_eq_true rfl) dX12_best_45 ⟨Nat.le_refl _, Nat.le_refl _⟩ (fun H locs X => ?_)
        replace X := ap_nil' X
        refine lv_if_ge (tgt := 57) hx hb dX12_best_48 (by decide) (fun c_48 => ?_) (fun c_48 => ?_)
        ·
          have g2 := (zrowK_in hh c_48).2
          rw [ztoNat (show xd < 2147483648 by omega)] at g2
          obtain ⟨hs3, hm100⟩ := hro xd hxd g2
          refine lv_aload_n hx hb dX12_best_57 rfl (lv_at hl 0 rfl) ?_
          refine m_geta G X 44 rfl (hwd _ mk_31) rfl dX12_best_58 ?_
          refine lv_iload_n hx hb dX12_best_61 rfl (lv_at hl 1 rfl) ?_
          refine m_iald G X 44 rfl (i := xd) (by show _ < 8; omega) (by omega) dX12_best_62 ?_
          refine gn_if_eq (tgt := 69) hx hb dX12_best_63 (by decide) (by omega) (fun c_63 => ?_) (fun c_63 => ?_)
          ·
            refine lv_aload_n hx hb dX12_best_69 rfl (lv_at hl 0 rfl) ?_
            refine m_geta G X 45 rfl (hwd _ mk_32) rfl dX12_best_70 ?_
            refine lv_iload_n hx hb dX12_best_73 rfl (lv_at hl 1 rfl) ?_
            refine m_iald G X 45 rfl (i := xd) (by show _ < 8; omega) (by omega) dX12_best_74 ?_
            refine gn_i2l hx hb dX12_best_75 (by omega) ?_
            refine lv_lconst (v := lN 1) hx hb dX12_best_76 (by decide) ?_
            refine gn_ldc2 (v := 6) (k := 6) hx hb hown (hwd _ mk_259) (by decide) dX12_best_77 ?_
            refine ctI_S (w := []) (wf := mw o q ci cI cJ σ) (As := [.long (lN (σ.2 45 xd)), .long (lN 1), .long (lN 6)]) (rest := []) (n := 3) hx hb hml hown hts hK hA X hl.1 (c_in (lN (σ.2 45 xd)) (lN 1) (lN 6) ) (va_cwS 3 hts (mg_S mk_38 mk_41 mk_42 mk_43) rfl rfl rfl (by decide +kernel) ⟨Nat.le_of_ble_eq_true rfl, Nat.le_of_ble_eq_true rfl⟩) rfl (Nat.le_of_ble_eq_true rfl) dX12_best_80 ⟨Nat.le_refl _, Nat.le_refl _⟩ (fun H locs X => ?_)
            refine lv_istore (lv' := [(5, .int (if (lN 1) ≤ (lN (σ.2 45 xd)) ∧ (lN (σ.2 45 xd)) ≤ (lN 6) then 1 else 0)), (0, .ref o), (1, .int (nI xd)), (2, .int (nI xf)), (3, .int (nI xn)), (4, .int (nI xz))]) hx hb dX12_best_83 hl (by decide) rfl (fun ls hl => ?_)
            refine lv_iconst (v := nI 0) hx hb dX12_best_85 (by decide) ?_
            refine lv_istore (lv' := [(6, .int (nI 0)), (5, .int (if (lN 1) ≤ (lN (σ.2 45 xd)) ∧ (lN (σ.2 45 xd)) ≤ (lN 6) then 1 else 0)), (0, .ref o), (1, .int (nI xd)), (2, .int (nI xf)), (3, .int (nI xn)), (4, .int (nI xz))]) hx hb dX12_best_86 hl (by decide) rfl (fun ls hl => ?_)
            have cut_88 : ∀ (NN : Nat) (i1 : Nat) (h1 : i1 ≤ σ.2 45 xd), σ.2 45 xd - i1 < NN → ∀ (H : Heap) (locs : List Loc) (ls : Array Slot), wH D cl A s.heap H locs (mw o q ci cI cJ σ) → lv_has ls 10 [(0, .ref o), (1, .int (nI xd)), (2, .int (nI xf)), (3, .int (nI xn)), (4, .int (nI xz)), (5, .int (if zgood σ xd i1 = true then 1 else 0)), (6, .int (nI i1))] → W p l e { frames := 7, cells := 0, slots := 0, locals := 180 } s m args below meth c H locs 0 0 Q (F0 m 88 ls []) := by
              intro NN
              induction NN with
              | zero => intro i1 h1 hNN; exact absurd hNN (Nat.not_lt_zero _)
              | succ NN ih_88 =>
                intro i1 h1 hNN H locs ls X hl
                refine lv_iload hx hb dX12_best_88 (lv_at hl 6 rfl) ?_
                refine lv_aload_n hx hb dX12_best_90 rfl (lv_at hl 0 rfl) ?_
                refine m_geta G X 45 rfl (hwd _ mk_32) rfl dX12_best_91 ?_
                refine lv_iload_n hx hb dX12_best_94 rfl (lv_at hl 1 rfl) ?_
                refine m_iald G X 45 rfl (i := xd) (by show _ < 8; omega) (by omega) dX12_best_95 ?_
                refine gn_icmp_ge (tgt := 139) hx hb dX12_best_96 (by decide) (by omega) (by omega) (fun c_96 => ?_) (fun c_96 => ?_)
                ·
                  refine lv_iload hx hb dX12_best_139 (lv_at hl 5 rfl) ?_
                  refine gb_if_ne (tgt := 147) hx hb dX12_best_141 (by decide) (fun c_141 => ?_) (fun c_141 => ?_)
                  ·
                    refine lv_aload_n hx hb dX12_best_147 rfl (lv_at hl 0 rfl) ?_
                    refine ctI_V (wf := []) (As := []) (rest := []) (n := 0) hx hb hml hown hts hK hA (ap_nil X) hl.1 (m_recv G X) (c_isReady hcl ht0 ht1 (σ := σ)  (kw) (fun w9 hw9 => (kworld w9 hw9).2.1)) (cwV 0 hts (mg_V mk_47 mk_165 mk_166 mk_167 mk_43) rfl rfl rfl (by decide +kernel) ⟨Nat.le_of_ble_eq_true rfl, Nat.le_of_ble_eq_true rfl⟩) rfl (Nat.le_of_ble_eq_true rfl) dX12_best_148 ⟨Nat.le_refl _, Nat.le_refl _⟩ (fun H locs X => ?_)
                    replace X := ap_nil' X
                    refine gb_if_ne (tgt := 157) hx hb dX12_best_151 (by decide) (fun c_151 => ?_) (fun c_151 => ?_)
                    ·
                      refine lv_aload_n hx hb dX12_best_157 rfl (lv_at hl 0 rfl) ?_
                      refine ctV_V (wf := []) (As := []) (rest := []) (n := 0) hx hb hml hown hts hK hA (ap_nil X) hl.1 (m_recv G X) (c_findWays hcl ht0 ht1 (σ := σ)  (hok) (hW)) (cwV 0 hts (mg_V mk_116 mk_128 mk_129 mk_130 mk_43) rfl rfl rfl (by decide +kernel) ⟨Nat.le_of_ble_eq_true rfl, Nat.le_of_ble_eq_true rfl⟩) rfl (Nat.le_of_ble_eq_true rfl) dX12_best_158 ⟨Nat.le_refl _, Nat.le_refl _⟩ (fun H locs X => ?_)
                      replace X := ap_nil' X
                      replace X := wh_eq (show sA σ 27 (zws σ (σ.2 27) (σ.1 4)) = zf σ from rfl) X
                      replace X := wh_eq (zw_self (zf σ)) X
                      obtain ⟨hg1, hg2⟩ := zgood_all c_141
                      have hmn : 0 < σ.2 45 xd := by have h9 := hg1.1; rw [z64_le, zl_toInt (by decide), zl_toInt (by omega)] at h9; omega
                      refine lv_iconst (v := (-1)) hx hb dX12_best_161 (by decide) ?_
                      refine lv_istore (lv' := [(6, .int (-1)), (0, .ref o), (1, .int (nI xd)), (2, .int (nI xf)), (3, .int (nI xn)), (4, .int (nI xz)), (5, .int (if zgood σ xd i1 = true then 1 else 0))]) hx hb dX12_best_162 hl (by decide) rfl (fun ls hl => ?_)
                      refine lv_iconst (v := nI 0) hx hb dX12_best_164 (by decide) ?_
                      refine lv_istore (lv' := [(7, .int (nI 0)), (6, .int (-1)), (0, .ref o), (1, .int (nI xd)), (2, .int (nI xf)), (3, .int (nI xn)), (4, .int (nI xz)), (5, .int (if zgood σ xd i1 = true then 1 else 0))]) hx hb dX12_best_165 hl (by decide) rfl (fun ls hl => ?_)
                      refine lv_iconst (v := nI 0) hx hb dX12_best_167 (by decide) ?_
                      refine lv_istore (lv' := [(8, .int (nI 0)), (7, .int (nI 0)), (6, .int (-1)), (0, .ref o), (1, .int (nI xd)), (2, .int (nI xf)), (3, .int (nI xn)), (4, .int (nI xz)), (5, .int (if zgood σ xd i1 = true then 1 else 0))]) hx hb dX12_best_168 hl (by decide) rfl (fun ls hl => ?_)
                      have cut_170 : ∀ (NN : Nat) (c1 : Nat) (mm : Nat → Nat) (vv : Nat → Nat) (aa : Nat → Nat) (x30 : Nat) (x31 : Nat) (x32 : Nat) (x33 : Nat) (x34 : Nat) (hc1 : c1 ≤ σ.2 45 xd), σ.2 45 xd - c1 < NN → ∀ (H : Heap) (locs : List Loc) (ls : Array Slot), wH D cl A s.heap H locs (mw o q ci cI cJ (zw (zf σ) mm vv aa x30 x31 x32 x33 x34)) → lv_has ls 10 [(0, .ref o), (1, .int (nI xd)), (2, .int (nI xf)), (3, .int (nI xn)), (4, .int (nI xz)), (6, .int (nI (zb4 (zbestF σ xd xf xn xz) c1))), (7, .int (nI (zl4 (zbestF σ xd xf xn xz) c1))), (8, .int (nI c1))] → W p l e { frames := 7, cells := 0, slots := 0, locals := 180 } s m args below meth c H locs 0 0 Q (F0 m 170 ls []) := by
                        intro NN
                        induction NN with
                        | zero => intro c1 mm vv aa x30 x31 x32 x33 x34 hc1 hNN; exact absurd hNN (Nat.not_lt_zero _)
                        | succ NN ih_170 =>
                          intro c1 mm vv aa x30 x31 x32 x33 x34 hc1 hNN H locs ls X hl
                          refine lv_iload hx hb dX12_best_170 (lv_at hl 7 rfl) ?_
                          refine lv_aload_n hx hb dX12_best_172 rfl (lv_at hl 0 rfl) ?_
                          refine m_geta G X 45 rfl (hwd _ mk_32) rfl dX12_best_173 ?_
                          refine lv_iload_n hx hb dX12_best_176 rfl (lv_at hl 1 rfl) ?_
                          refine m_iald G X 45 rfl (i := xd) (by show _ < 8; omega) (by omega) dX12_best_177 ?_
                          refine gi_eq (a := (σ.2 45 xd)) rfl ?_
                          refine gn_icmp_ge (tgt := 230) hx hb dX12_best_178 (by decide) (by omega) (by omega) (fun c_178 => ?_) (fun c_178 => ?_)
                          ·
                            refine lv_iload hx hb dX12_best_230 (lv_at hl 5 rfl) ?_
                            exact finIP_of (by unfold zbestS; rw [if_neg (fun h9 => h9 ⟨c_14, c_26, c_38⟩), if_neg (Int32.not_lt.mpr c_48), ztoNat (show xd < 2147483648 by omega), if_neg (by omega), if_neg (fun h9 => h9 (by rw [show σ.2 45 xd = i1 by omega]; exact c_141)), if_neg (fun h9 => h9 c_151), ztoNat (show xf < 2147483648 by omega), ztoNat (show xn < 2147483648 by omega), show c1 = σ.2 45 xd by omega]; exact congrArg nI (if_neg (by omega))) (u := (zw (zf σ) mm vv aa x30 x31 x32 x33 x34)) (mEq_zw hW) X dX12_best_232 fin
                          ·
                            refine lv_aload_n hx hb dX12_best_181 rfl (lv_at hl 0 rfl) ?_
                            refine lv_aload_n hx hb dX12_best_182 rfl (lv_at hl 0 rfl) ?_
                            refine m_geta G X 46 rfl (hwd _ mk_33) rfl dX12_best_183 ?_
                            refine lv_bipush (v := nI 100) hx hb dX12_best_186 (by decide) ?_
                            refine lv_iload_n hx hb dX12_best_188 rfl (lv_at hl 1 rfl) ?_
                            refine gn_imul hx hb dX12_best_189  ?_
                            refine lv_iload hx hb dX12_best_190 (lv_at hl 7 rfl) ?_
                            refine gn_iadd hx hb dX12_best_192  ?_
                            refine m_lald G X 46 rfl (i := ((100 * xd) + c1)) (by show _ < 800; omega) (by omega) dX12_best_193 ?_
                            refine gl_eq (a := (σ.2 46 ((100 * xd) + c1))) rfl ?_
                            have hkd := zkd_lt (hg2 c1 (by omega))
                            refine gn_l2i hx hb dX12_best_194 ?_
                            refine gi_to (a := (zkd (σ.2 46 (100 * xd + c1)))) (zkd_eq _) ?_
                            refine lv_iload_n hx hb dX12_best_195 rfl (lv_at hl 2 rfl) ?_
                            refine lv_iload_n hx hb dX12_best_196 rfl (lv_at hl 3 rfl) ?_
                            refine lv_iload hx hb dX12_best_197 (lv_at hl 4 rfl) ?_
                            refine ctIP_V (wf := []) (As := [.int (nI (zkd (σ.2 46 (100 * xd + c1)))), .int (nI xf), .int (nI xn), .int (nI xz)]) (rest := []) (n := 4) hx hb hml hown hts hK hA (ap_nil X) hl.1 (m_recv G X) (c_meanOf hcl ht0 ht1 (σ := (zw (zf σ) mm vv aa x30 x31 x32 x33 x34)) (zkd (σ.2 46 (100 * xd + c1))) xf xn xz (hok) ((Or.inl hkd)) ((by omega)) (by omega) (zWok_ws hW _) (hp)) (cwV 4 hts (mg_V mk_246 mk_252 mk_253 mk_254 mk_43) rfl rfl rfl (by decide +kernel) ⟨Nat.le_of_ble_eq_true rfl, Nat.le_of_ble_eq_true rfl⟩) rfl (Nat.le_of_ble_eq_true rfl) dX12_best_199 ⟨Nat.le_refl _, Nat.le_refl _⟩ (fun H locs u_199 hu_199 X => ?_)
                            replace X := ap_nil' X
                            obtain ⟨m_199, v_199, a_199, y1_199, y2_199, y3_199, y4_199, y5_199, rfl⟩ := hu_199
                            replace X := wh_eq (σ' := (zw (zf σ) m_199 v_199 a_199 y1_199 y2_199 y3_199 y4_199 y5_199)) zw_zw X
                            refine gi_raw (y := nI (zmeans (zf σ) (zkd (σ.2 46 (100 * xd + c1))) xf xn xz)) (congrArg nI (zmeans_zw _ _ _ _)) ?_
                            refine gi_eq (a := (zbestF σ xd xf xn xz c1)) (rfl) ?_
                            refine lv_istore (lv' := [(9, .int (nI (zbestF σ xd xf xn xz c1))), (0, .ref o), (1, .int (nI xd)), (2, .int (nI xf)), (3, .int (nI xn)), (4, .int (nI xz)), (6, .int (nI (zb4 (zbestF σ xd xf xn xz) c1))), (7, .int (nI (zl4 (zbestF σ xd xf xn xz) c1))), (8, .int (nI c1))]) hx hb dX12_best_202 hl (by decide) rfl (fun ls hl => ?_)
                            have hmc : zbestF σ xd xf xn xz c1 < 2147483648 := zmeans_lt (σ := zf σ) hok (by omega) (by omega)
                            refine lv_iload hx hb dX12_best_204 (lv_at hl 6 rfl) ?_
                            by_cases e0 : c1 = 0
                            ·
                              refine gi_raw (y := (-1)) (by rw [show zb4 (zbestF σ xd xf xn xz) c1 = 4294967295 from if_pos e0]; exact zm1.symm) ?_
                              refine lv_if_lt (tgt := 216) hx hb dX12_best_206 (by decide) (fun c_206 => ?_) (fun c_206 => ?_)
                              ·
                                refine lv_iload hx hb dX12_best_216 (lv_at hl 8 rfl) ?_
                                refine lv_istore (lv' := [(6, .int (nI c1)), (9, .int (nI (zbestF σ xd xf xn xz c1))), (0, .ref o), (1, .int (nI xd)), (2, .int (nI xf)), (3, .int (nI xn)), (4, .int (nI xz)), (7, .int (nI (zl4 (zbestF σ xd xf xn xz) c1))), (8, .int (nI c1))]) hx hb dX12_best_218 hl (by decide) rfl (fun ls hl => ?_)
                                refine lv_iload hx hb dX12_best_220 (lv_at hl 1 rfl) ?_
                                refine lv_istore (lv' := [(7, .int (nI (zbestF σ xd xf xn xz c1))), (6, .int (nI c1)), (9, .int (nI (zbestF σ xd xf xn xz c1))), (0, .ref o), (1, .int (nI xd)), (2, .int (nI xf)), (3, .int (nI xn)), (4, .int (nI xz)), (8, .int (nI c1))]) hx hb dX12_best_222 hl (by decide) rfl (fun ls hl => ?_)
                                refine lv_iinc (v := nI (c1 + 1)) (lv' := [(8, .int (nI (c1 + 1))), (7, .int (nI (zbestF σ xd xf xn xz c1))), (6, .int (nI c1)), (9, .int (nI (zbestF σ xd xf xn xz c1))), (0, .ref o), (1, .int (nI xd)), (2, .int (nI xf)), (3, .int (nI xn)), (4, .int (nI xz))]) hx hb dX12_best_224 hl (k := 8) rfl (zn_inc _) (by decide) rfl (fun ls hl => ?_)
                                refine lv_goto (tgt := 170) hx hb dX12_best_227 (by decide) ?_
                                refine ih_170 (c1 + 1) m_199 v_199 a_199 y1_199 y2_199 y3_199 y4_199 y5_199 (by omega) (by omega) _ _ _ (by exact X) (by have hn9 := zb4_new (f := zbestF σ xd xf xn xz) (c := c1) (by first | exact Or.inl e0 | exact Or.inr c_213); rw [hn9.1, hn9.2]; exact lv_sub hl [4, 5, 6, 7, 8, 2, 1, 0] rfl)
                              · exact absurd c_206 (by decide)
                            have hz9 := zleast_lt (zbestF σ xd xf xn xz) c1 (by omega)
                            have hb9 : zb4 (zbestF σ xd xf xn xz) c1 = zleast (zbestF σ xd xf xn xz) c1 := if_neg e0
                            have hl9 : zl4 (zbestF σ xd xf xn xz) c1 = zbestF σ xd xf xn xz (zleast (zbestF σ xd xf xn xz) c1) := if_neg e0
                            have hm9 : zbestF σ xd xf xn xz (zleast (zbestF σ xd xf xn xz) c1) < 2147483648 := zmeans_lt (σ := zf σ) hok (by omega) (by omega)
                            refine gn_if_lt (tgt := 216) hx hb dX12_best_206 (by decide) (by omega) ?_
                            refine lv_iload hx hb dX12_best_209 (lv_at hl 0 rfl) ?_
                            refine lv_iload hx hb dX12_best_211 (lv_at hl 7 rfl) ?_
                            refine gn_icmp_ge (tgt := 224) hx hb dX12_best_213 (by decide) (by omega) (by rw [hl9]; exact hm9) (fun c_213 => ?_) (fun c_213 => ?_)
                            ·
                              refine lv_iinc (v := nI (c1 + 1)) (lv' := [(8, .int (nI (c1 + 1))), (9, .int (nI (zbestF σ xd xf xn xz c1))), (0, .ref o), (1, .int (nI xd)), (2, .int (nI xf)), (3, .int (nI xn)), (4, .int (nI xz)), (6, .int (nI (zb4 (zbestF σ xd xf xn xz) c1))), (7, .int (nI (zl4 (zbestF σ xd xf xn xz) c1)))]) hx hb dX12_best_224 hl (k := 8) rfl (zn_inc _) (by decide) rfl (fun ls hl => ?_)
                              refine lv_goto (tgt := 170) hx hb dX12_best_227 (by decide) ?_
                              refine ih_170 (c1 + 1) m_199 v_199 a_199 y1_199 y2_199 y3_199 y4_199 y5_199 (by omega) (by omega) _ _ _ (by exact X) (by have hn9 := zb4_old (f := zbestF σ xd xf xn xz) (c := c1) e0 c_213; rw [hn9.1, hn9.2]; exact lv_sub hl [2, 3, 4, 5, 6, 7, 8, 0] rfl)
                            ·
                              refine lv_iload hx hb dX12_best_216 (lv_at hl 8 rfl) ?_
                              refine lv_istore (lv' := [(6, .int (nI c1)), (9, .int (nI (zbestF σ xd xf xn xz c1))), (0, .ref o), (1, .int (nI xd)), (2, .int (nI xf)), (3, .int (nI xn)), (4, .int (nI xz)), (7, .int (nI (zl4 (zbestF σ xd xf xn xz) c1))), (8, .int (nI c1))]) hx hb dX12_best_218 hl (by decide) rfl (fun ls hl => ?_)
                              refine lv_iload hx hb dX12_best_220 (lv_at hl 1 rfl) ?_
                              refine lv_istore (lv' := [(7, .int (nI (zbestF σ xd xf xn xz c1))), (6, .int (nI c1)), (9, .int (nI (zbestF σ xd xf xn xz c1))), (0, .ref o), (1, .int (nI xd)), (2, .int (nI xf)), (3, .int (nI xn)), (4, .int (nI xz)), (8, .int (nI c1))]) hx hb dX12_best_222 hl (by decide) rfl (fun ls hl => ?_)
                              refine lv_iinc (v := nI (c1 + 1)) (lv' := [(8, .int (nI (c1 + 1))), (7, .int (nI (zbestF σ xd xf xn xz c1))), (6, .int (nI c1)), (9, .int (nI (zbestF σ xd xf xn xz c1))), (0, .ref o), (1, .int (nI xd)), (2, .int (nI xf)), (3, .int (nI xn)), (4, .int (nI xz))]) hx hb dX12_best_224 hl (k := 8) rfl (zn_inc _) (by decide) rfl (fun ls hl => ?_)
                              refine lv_goto (tgt := 170) hx hb dX12_best_227 (by decide) ?_
                              refine ih_170 (c1 + 1) m_199 v_199 a_199 y1_199 y2_199 y3_199 y4_199 y5_199 (by omega) (by omega) _ _ _ (by exact X) (by have hn9 := zb4_new (f := zbestF σ xd xf xn xz) (c := c1) (by first | exact Or.inl e0 | exact Or.inr c_213); rw [hn9.1, hn9.2]; exact lv_sub hl [4, 5, 6, 7, 8, 2, 1, 0] rfl)
                      refine cut_170 _ 0 (σ.2 29) (σ.2 35) (σ.2 36) (σ.1 30) (σ.1 31) (σ.1 32) (σ.1 33) (σ.1 34) (Nat.zero_le _) (Nat.lt_succ_self _) _ _ _ (by exact X) (by rw [zm1] at hl; exact lv_sub hl [3, 4, 5, 6, 7, 2, 1, 0] rfl)
                    ·
                      refine lv_bipush (v := (-3)) hx hb dX12_best_154 (by decide) ?_
                      exact finIP_of (by unfold zbestS; rw [if_neg (fun h9 => h9 ⟨c_14, c_26, c_38⟩), if_neg (Int32.not_lt.mpr c_48), ztoNat (show xd < 2147483648 by omega), if_neg (by omega), if_neg (fun h9 => h9 (by rw [show σ.2 45 xd = i1 by omega]; exact c_141)), if_pos c_151]) (u := σ) (mEq_refl hW) X dX12_best_156 fin
                  ·
                    refine lv_bipush (v := (-13)) hx hb dX12_best_144 (by decide) ?_
                    exact finIP_of (by unfold zbestS; rw [if_neg (fun h9 => h9 ⟨c_14, c_26, c_38⟩), if_neg (Int32.not_lt.mpr c_48), ztoNat (show xd < 2147483648 by omega), if_neg (by omega), if_pos (by rw [show σ.2 45 xd = i1 by omega]; exact c_141)]) (u := σ) (mEq_refl hW) X dX12_best_146 fin
                ·
                  refine lv_iload hx hb dX12_best_99 (lv_at hl 5 rfl) ?_
                  refine gb_if_eq (tgt := 130) hx hb dX12_best_101 (by decide) (fun c_101 => ?_) (fun c_101 => ?_)
                  ·
                    refine lv_iconst (v := nI 0) hx hb dX12_best_130 (by decide) ?_
                    refine lv_istore (lv' := [(5, .int (nI 0)), (0, .ref o), (1, .int (nI xd)), (2, .int (nI xf)), (3, .int (nI xn)), (4, .int (nI xz)), (6, .int (nI i1))]) hx hb dX12_best_131 hl (by decide) rfl (fun ls hl => ?_)
                    refine lv_iinc (v := nI (i1 + 1)) (lv' := [(6, .int (nI (i1 + 1))), (5, .int (nI 0)), (0, .ref o), (1, .int (nI xd)), (2, .int (nI xf)), (3, .int (nI xn)), (4, .int (nI xz))]) hx hb dX12_best_133 hl (k := 6) rfl (zn_inc _) (by decide) rfl (fun ls hl => ?_)
                    refine lv_goto (tgt := 88) hx hb dX12_best_136 (by decide) ?_
                    refine ih_88 (i1 + 1) (by omega) (by omega) _ _ _ (by exact X) (by first | (rw [if_pos (zgood_t c_101 c_123)]; exact lv_sub hl [2, 3, 4, 5, 6, 1, 0] rfl) | (rw [if_neg (zgood_f1 c_101)]; exact lv_sub hl [2, 3, 4, 5, 6, 1, 0] rfl) | (rw [if_neg (zgood_f2 c_123)]; exact lv_sub hl [2, 3, 4, 5, 6, 1, 0] rfl))
                  ·
                    refine lv_aload_n hx hb dX12_best_104 rfl (lv_at hl 0 rfl) ?_
                    refine m_geta G X 46 rfl (hwd _ mk_33) rfl dX12_best_105 ?_
                    refine lv_bipush (v := nI 100) hx hb dX12_best_108 (by decide) ?_
                    refine lv_iload_n hx hb dX12_best_110 rfl (lv_at hl 1 rfl) ?_
                    refine gn_imul hx hb dX12_best_111  ?_
                    refine lv_iload hx hb dX12_best_112 (lv_at hl 6 rfl) ?_
                    refine gn_iadd hx hb dX12_best_114  ?_
                    refine m_lald G X 46 rfl (i := ((100 * xd) + i1)) (by show _ < 800; omega) (by omega) dX12_best_115 ?_
                    refine lv_lconst (v := lN 0) hx hb dX12_best_116 (by decide) ?_
                    refine gn_ldc2 (v := 5) (k := 5) hx hb hown (hwd _ mk_260) (by decide) dX12_best_117 ?_
                    refine ctI_S (w := []) (wf := mw o q ci cI cJ σ) (As := [.long (lN (σ.2 46 ((100 * xd) + i1))), .long (lN 0), .long (lN 5)]) (rest := []) (n := 3) hx hb hml hown hts hK hA X hl.1 (c_in (lN (σ.2 46 ((100 * xd) + i1))) (lN 0) (lN 5) ) (va_cwS 3 hts (mg_S mk_38 mk_41 mk_42 mk_43) rfl rfl rfl (by decide +kernel) ⟨Nat.le_of_ble_eq_true rfl, Nat.le_of_ble_eq_true rfl⟩) rfl (Nat.le_of_ble_eq_true rfl) dX12_best_120 ⟨Nat.le_refl _, Nat.le_refl _⟩ (fun H locs X => ?_)
                    refine gb_if_eq (tgt := 130) hx hb dX12_best_123 (by decide) (fun c_123 => ?_) (fun c_123 => ?_)
                    ·
                      refine lv_iconst (v := nI 0) hx hb dX12_best_130 (by decide) ?_
                      refine lv_istore (lv' := [(5, .int (nI 0)), (0, .ref o), (1, .int (nI xd)), (2, .int (nI xf)), (3, .int (nI xn)), (4, .int (nI xz)), (6, .int (nI i1))]) hx hb dX12_best_131 hl (by decide) rfl (fun ls hl => ?_)
                      refine lv_iinc (v := nI (i1 + 1)) (lv' := [(6, .int (nI (i1 + 1))), (5, .int (nI 0)), (0, .ref o), (1, .int (nI xd)), (2, .int (nI xf)), (3, .int (nI xn)), (4, .int (nI xz))]) hx hb dX12_best_133 hl (k := 6) rfl (zn_inc _) (by decide) rfl (fun ls hl => ?_)
                      refine lv_goto (tgt := 88) hx hb dX12_best_136 (by decide) ?_
                      refine ih_88 (i1 + 1) (by omega) (by omega) _ _ _ (by exact X) (by first | (rw [if_pos (zgood_t c_101 c_123)]; exact lv_sub hl [2, 3, 4, 5, 6, 1, 0] rfl) | (rw [if_neg (zgood_f1 c_101)]; exact lv_sub hl [2, 3, 4, 5, 6, 1, 0] rfl) | (rw [if_neg (zgood_f2 c_123)]; exact lv_sub hl [2, 3, 4, 5, 6, 1, 0] rfl))
                    ·
                      refine lv_iconst (v := nI 1) hx hb dX12_best_126 (by decide) ?_
                      refine lv_goto (tgt := 131) hx hb dX12_best_127 (by decide) ?_
                      refine lv_istore (lv' := [(5, .int (nI 1)), (0, .ref o), (1, .int (nI xd)), (2, .int (nI xf)), (3, .int (nI xn)), (4, .int (nI xz)), (6, .int (nI i1))]) hx hb dX12_best_131 hl (by decide) rfl (fun ls hl => ?_)
                      refine lv_iinc (v := nI (i1 + 1)) (lv' := [(6, .int (nI (i1 + 1))), (5, .int (nI 1)), (0, .ref o), (1, .int (nI xd)), (2, .int (nI xf)), (3, .int (nI xn)), (4, .int (nI xz))]) hx hb dX12_best_133 hl (k := 6) rfl (zn_inc _) (by decide) rfl (fun ls hl => ?_)
                      refine lv_goto (tgt := 88) hx hb dX12_best_136 (by decide) ?_
                      refine ih_88 (i1 + 1) (by omega) (by omega) _ _ _ (by exact X) (by first | (rw [if_pos (zgood_t c_101 c_123)]; exact lv_sub hl [2, 3, 4, 5, 6, 1, 0] rfl) | (rw [if_neg (zgood_f1 c_101)]; exact lv_sub hl [2, 3, 4, 5, 6, 1, 0] rfl) | (rw [if_neg (zgood_f2 c_123)]; exact lv_sub hl [2, 3, 4, 5, 6, 1, 0] rfl))
            refine cut_88 _ 0 (Nat.zero_le _) (Nat.lt_succ_self _) _ _ _ (by exact X) (by rw [zgood_0]; exact lv_sub hl [2, 3, 4, 5, 6, 1, 0] rfl)
          ·
            refine lv_bipush (v := (-12)) hx hb dX12_best_66 (by decide) ?_
            exact finIP_of (by unfold zbestS; rw [if_neg (fun h9 => h9 ⟨c_14, c_26, c_38⟩), if_neg (Int32.not_lt.mpr c_48), ztoNat (show xd < 2147483648 by omega), if_pos (by omega)]) (u := σ) (mEq_refl hW) X dX12_best_68 fin
        ·
          refine lv_aload_n hx hb dX12_best_51 rfl (lv_at hl 0 rfl) ?_
          refine lv_iload_n hx hb dX12_best_52 rfl (lv_at hl 1 rfl) ?_
          refine ctI_V (wf := []) (As := [.int (nI xd)]) (rest := []) (n := 1) hx hb hml hown hts hK hA (ap_nil X) hl.1 (m_recv G X) (c_wrongRow hcl ht0 ht1 (σ := σ) (nI xd) (hok) (hh)) (cwV 1 hts (mg_V mk_86 mk_88 mk_89 mk_90 mk_43) rfl rfl rfl (by decide +kernel) ⟨Nat.le_of_ble_eq_true rfl, Nat.le_of_ble_eq_true rfl⟩) rfl (Nat.le_of_ble_eq_true rfl) dX12_best_53 ⟨Nat.le_refl _, Nat.le_refl _⟩ (fun H locs X => ?_)
          replace X := ap_nil' X
          exact finIP_of (by unfold zbestS; rw [if_neg (fun h9 => h9 ⟨c_14, c_26, c_38⟩), if_pos (Int32.not_le.mp c_48)]) (u := σ) (mEq_refl hW) X dX12_best_56 fin
      ·
        rw [zi20] at c_38
        refine lv_iconst (v := (-1)) hx hb dX12_best_41 (by decide) ?_
        exact finIP_of (by unfold zbestS; rw [if_pos (fun h9 => by first | exact c_14 h9.1 | exact c_26 h9.2.1 | exact c_38 h9.2.2)]) (u := σ) (mEq_refl hW) X dX12_best_42 fin
