set_option maxHeartbeats 4000000 in
set_option maxRecDepth 100000 in
theorem c_land {l : Launch} {D : va_G} {cl : List vw_C} {tys : List (ClassId × FieldType)} {o : Nat} {q : Nat → Nat} {ci : Nat} {cI cJ : ClassId} (hcl : cl[ci]? = some (RX12, TX12, 48)) (ht0 : tys[0]? = some (cI, .int)) (ht1 : tys[1]? = some (cJ, .long)) {σ : MS} {σ0 : MS} (h15 : σ = sF σ0 15 0) (d : Int32) (hok : mOk σ) (hsh : mSh σ) (hlk : lOk σ) (hbt : zbyt σ) (hbd : zbd σ) : ctIP l D cl tys yX12_land (Cond.code yX12_land cX12_land 10 (some .int) :: mW) { frames := 4, cells := 0, slots := 0, locals := 89 } [.ref o, .int d] (mw o q ci cI cJ σ0) (mw o q ci cI cJ) (zlnR σ d) (fun u => zlnP σ d u) := by
  refine ctIP_of (cc := cX12_land) (maxL := 10) (by decide +kernel) rfl (Nat.le_of_ble_eq_true rfl) ?_
  intro p e s m args below meth c A Q ls hx hb hml hown hts hK hA X hl fin
  replace hown : s.vm.findClass RX12 = some m.cls := hown
  have hwd : ∀ w ∈ mW, w.before args s = true := fun w h => hts w (List.mem_cons_of_mem _ h)
  have G : mG p c cX12_land s m args D cl tys ci cI cJ := ⟨hx, hb, hown, hwd, hK, hcl, ht0, ht1⟩
  replace hl : lv_has ls 10 [(0, .ref o), (1, .int d)] := hl
  obtain ⟨kr, kw, ks, kroad, kworld, ksort, kmet, ksum, kst, kco⟩ := id hok
  obtain ⟨hh, hru, hro, htb, hW, hp28, hth⟩ := id hsh
  have hp : σ.1 28 < 8 ∨ σ.1 28 = 4294967295 := Or.inr hp28
  refine lv_aload_n hx hb dX12_land_0 rfl (lv_at hl 0 rfl) ?_
  refine lv_iconst (v := nI 0) hx hb dX12_land_1 (by decide) ?_
  refine m_puti G X 15 rfl (hwd _ mk_35) rfl (ty := .int) (by decide +kernel) rfl rfl dX12_land_2 (fun H locs X => ?_)
  rw [← h15] at X
  refine lv_aload_n hx hb dX12_land_5 rfl (lv_at hl 0 rfl) ?_
  refine lv_iload_n hx hb dX12_land_6 rfl (lv_at hl 1 rfl) ?_
  refine ctI_V (wf := []) (As := [.int d]) (rest := []) (n := 1) hx hb hml hown hts hK hA (ap_nil X) hl.1 (m_recv G X) (c_wrongRow hcl ht0 ht1 (σ := σ) d (hok) (hh)) (cwV 1 hts (mg_V mk_86 mk_88 mk_89 mk_90 mk_43) rfl rfl rfl (by decide +kernel) ⟨Nat.le_of_ble_eq_true rfl, Nat.le_of_ble_eq_true rfl⟩) rfl (Nat.le_of_ble_eq_true rfl) dX12_land_7 ⟨Nat.le_refl _, Nat.le_refl _⟩ (fun H locs X => ?_)
  replace X := ap_nil' X
  refine lv_if_ge (tgt := 21) hx hb dX12_land_10 (by decide) (fun c_10 => ?_) (fun c_10 => ?_)
  ·
    obtain ⟨g1, g2⟩ := zrowK_in hh c_10
    obtain ⟨xd, hxd, rfl⟩ := zi_in (n := 8) (by decide) g1
    rw [ztoNat (show xd < 2147483648 by omega)] at g2
    obtain ⟨hs3, hm100⟩ := hro xd hxd g2
    refine lv_aload_n hx hb dX12_land_21 rfl (lv_at hl 0 rfl) ?_
    refine m_geta G X 44 rfl (hwd _ mk_31) rfl dX12_land_22 ?_
    refine lv_iload_n hx hb dX12_land_25 rfl (lv_at hl 1 rfl) ?_
    refine m_iald G X 44 rfl (i := xd) (by show _ < 8; omega) (by omega) dX12_land_26 ?_
    refine gn_if_eq (tgt := 35) hx hb dX12_land_27 (by decide) (by omega) (fun c_27 => ?_) (fun c_27 => ?_)
    ·
      have g44 : σ.2 44 xd = 0 := c_27
      refine lv_iconst (v := nI 0) hx hb dX12_land_35 (by decide) ?_
      refine lv_istore_n (lv' := [(2, .int (nI 0)), (0, .ref o), (1, .int (nI xd))]) hx hb dX12_land_36 rfl hl (by decide) rfl (fun ls hl => ?_)
      refine lv_iload_n hx hb dX12_land_37 rfl (lv_at hl 0 rfl) ?_
      refine lv_if_ge (tgt := 43) hx hb dX12_land_38 (by decide) (fun c_38 => ?_) (fun c_38 => ?_)
      ·
        refine lv_aload_n hx hb dX12_land_43 rfl (lv_at hl 1 rfl) ?_
        refine lv_bipush (v := nI 100) hx hb dX12_land_44 (by decide) ?_
        refine lv_iload_n hx hb dX12_land_46 rfl (lv_at hl 2 rfl) ?_
        refine gn_imul hx hb dX12_land_47  ?_
        refine m_puti G X 16 rfl (hwd _ mk_54) rfl (ty := .int) (by decide +kernel) rfl rfl dX12_land_48 (fun H locs X => ?_)
        refine lv_aload_n hx hb dX12_land_51 rfl (lv_at hl 1 rfl) ?_
        refine lv_aload_n hx hb dX12_land_52 rfl (lv_at hl 1 rfl) ?_
        refine m_geta G X 45 rfl (hwd _ mk_32) rfl dX12_land_53 ?_
        refine lv_iload_n hx hb dX12_land_56 rfl (lv_at hl 2 rfl) ?_
        refine m_iald G X 45 rfl (i := xd) (by show _ < 8; omega) (by omega) dX12_land_57 ?_
        refine gi_eq (a := (σ.2 45 xd)) rfl ?_
        refine m_puti G X 17 rfl (hwd _ mk_53) rfl (ty := .int) (by decide +kernel) rfl rfl dX12_land_58 (fun H locs X => ?_)
        refine lv_aload_n hx hb dX12_land_61 rfl (lv_at hl 1 rfl) ?_
        refine lv_iconst (v := nI 0) hx hb dX12_land_62 (by decide) ?_
        refine m_puti G X 18 rfl (hwd _ mk_52) rfl (ty := .int) (by decide +kernel) rfl rfl dX12_land_63 (fun H locs X => ?_)
        refine lv_aload_n hx hb dX12_land_66 rfl (lv_at hl 1 rfl) ?_
        refine lv_iconst (v := nI 0) hx hb dX12_land_67 (by decide) ?_
        refine m_puti G X 19 rfl (hwd _ mk_56) rfl (ty := .boolean) (by decide +kernel) (zb_nar (by omega)) (zb_fit (by omega)) dX12_land_68 (fun H locs X => ?_)
        refine lv_aload_n hx hb dX12_land_71 rfl (lv_at hl 1 rfl) ?_
        refine lv_iconst (v := nI 0) hx hb dX12_land_72 (by decide) ?_
        refine m_puti G X 20 rfl (hwd _ mk_67) rfl (ty := .int) (by decide +kernel) rfl rfl dX12_land_73 (fun H locs X => ?_)
        have cut_76 : ∀ (NN : Nat) (v1 : MS) (hv : zri (zv0 σ xd) v1), 36 - v1.1 20 < NN → ∀ (H : Heap) (locs : List Loc) (ls : Array Slot), wH D cl A s.heap H locs (mw o q ci cI cJ v1) → lv_has ls 10 [(0, .ref o), (1, .int (nI xd))] → W p l e { frames := 4, cells := 0, slots := 0, locals := 89 } s m args below meth c H locs 0 0 Q (F0 m 76 ls []) := by
          intro NN
          induction NN with
          | zero => intro v1 hv hNN; exact absurd hNN (Nat.not_lt_zero _)
          | succ NN ih_76 =>
            intro v1 hv hNN H locs ls X hl
            have hv17 : v1.1 17 = σ.2 45 xd := hv.1 17 (by decide) (by decide) (by decide)
            have hv16 : v1.1 16 = 100 * xd := hv.1 16 (by decide) (by decide) (by decide)
            have hv46 : v1.2 46 = σ.2 46 := hv.2.1 46 (by decide)
            have hv18 := hv.2.2.1
            have hv19 := hv.2.2.2.1
            refine lv_aload_n hx hb dX12_land_76 rfl (lv_at hl 0 rfl) ?_
            refine m_geti G X 19 rfl (hwd _ mk_56) rfl dX12_land_77 ?_
            refine gn_if_ne (tgt := 108) hx hb dX12_land_80 (by decide) (by omega) (fun c_80 => ?_) (fun c_80 => ?_)
            ·
              refine lv_aload_n hx hb dX12_land_108 rfl (lv_at hl 0 rfl) ?_
              refine m_geti G X 19 rfl (hwd _ mk_56) rfl dX12_land_109 ?_
              refine gn_if_eq (tgt := 124) hx hb dX12_land_112 (by decide) (by omega) (fun c_112 => ?_) (fun c_112 => ?_)
              ·
                exact absurd c_112 (by omega)
              ·
                refine lv_sipush (v := (-1000)) hx hb dX12_land_115 (by decide) ?_
                refine lv_aload_n hx hb dX12_land_118 rfl (lv_at hl 0 rfl) ?_
                refine m_geti G X 18 rfl (hwd _ mk_52) rfl dX12_land_119 ?_
                refine lv_isub hx hb dX12_land_122 ?_
                exact finIP_of ((zln_bad hxd g2 g44 hlk hbd hW hv (by omega)).1) (u := v1) ((zln_bad hxd g2 g44 hlk hbd hW hv (by omega)).2) X dX12_land_123 fin
            ·
              obtain ⟨gs34, gs3, _⟩ := hv.2.2.2.2.2 c_80
              refine lv_aload_n hx hb dX12_land_83 rfl (lv_at hl 0 rfl) ?_
              refine m_geti G X 20 rfl (hwd _ mk_67) rfl dX12_land_84 ?_
              refine gn_if_eq (tgt := 101) hx hb dX12_land_87 (by decide) (by omega) (fun c_87 => ?_) (fun c_87 => ?_)
              ·
                refine lv_aload_n hx hb dX12_land_101 rfl (lv_at hl 0 rfl) ?_
                refine ctVP_V (wf := []) (As := []) (rest := []) (n := 0) hx hb hml hown hts hK hA (ap_nil X) hl.1 (m_recv G X) (c_readStatement hcl ht0 ht1 (σ := v1) (show zpOk v1 from ⟨by omega, by omega, hv.2.2.1, hv.2.2.2.1⟩) (fun i9 hi9 => by have h9 := zln_by hxd g2 g44 hbt i9; rw [hv46]; simp only [hv16, hv17] at hi9 ⊢; exact h9 hi9) (by omega)) (cwV 0 hts (mg_V mk_74 mk_91 mk_92 mk_93 mk_43) rfl rfl rfl (by decide +kernel) ⟨Nat.le_of_ble_eq_true rfl, Nat.le_of_ble_eq_true rfl⟩) rfl (Nat.le_of_ble_eq_true rfl) dX12_land_102 ⟨Nat.le_refl _, Nat.le_refl _⟩ (fun H locs u_102 hu_102 X => ?_)
                replace X := ap_nil' X
                replace hu_102 : zrsP v1 u_102 := hu_102
                refine lv_goto (tgt := 76) hx hb dX12_land_105 (by decide) ?_
                refine ih_76 u_102 (zri_step hv c_80 (by first | exact Or.inl c_87 | exact Or.inr (by show v1.1 18 < σ.2 45 xd; omega)) hu_102) (by have hd9 := hu_102.2.2.2.1; omega) _ _ _ (by exact X) (by exact lv_sub hl [0, 1] rfl)
              ·
                refine lv_aload_n hx hb dX12_land_90 rfl (lv_at hl 0 rfl) ?_
                refine m_geti G X 18 rfl (hwd _ mk_52) rfl dX12_land_91 ?_
                refine lv_aload_n hx hb dX12_land_94 rfl (lv_at hl 0 rfl) ?_
                refine m_geti G X 17 rfl (hwd _ mk_53) rfl dX12_land_95 ?_
                refine gn_icmp_ge (tgt := 108) hx hb dX12_land_98 (by decide) (by omega) (by omega) (fun c_98 => ?_) (fun c_98 => ?_)
                ·
                  refine lv_aload_n hx hb dX12_land_108 rfl (lv_at hl 0 rfl) ?_
                  refine m_geti G X 19 rfl (hwd _ mk_56) rfl dX12_land_109 ?_
                  refine gn_if_eq (tgt := 124) hx hb dX12_land_112 (by decide) (by omega) (fun c_112 => ?_) (fun c_112 => ?_)
                  ·
                    refine lv_aload_n hx hb dX12_land_124 rfl (lv_at hl 0 rfl) ?_
                    refine m_geti G X 0 rfl (hwd _ mk_77) rfl dX12_land_125 ?_
                    refine lv_istore_n (lv' := [(3, .int (nI (v1.1 0))), (0, .ref o), (1, .int (nI xd))]) hx hb dX12_land_128 rfl hl (by decide) rfl (fun ls hl => ?_)
                    refine lv_aload_n hx hb dX12_land_129 rfl (lv_at hl 1 rfl) ?_
                    refine m_geti G X 4 rfl (hwd _ mk_45) rfl dX12_land_130 ?_
                    refine lv_istore (lv' := [(4, .int (nI (v1.1 4))), (3, .int (nI (v1.1 0))), (0, .ref o), (1, .int (nI xd))]) hx hb dX12_land_133 hl (by decide) rfl (fun ls hl => ?_)
                    refine lv_aload_n hx hb dX12_land_135 rfl (lv_at hl 2 rfl) ?_
                    refine m_geti G X 8 rfl (hwd _ mk_80) rfl dX12_land_136 ?_
                    refine lv_istore (lv' := [(5, .int (nI (v1.1 8))), (4, .int (nI (v1.1 4))), (3, .int (nI (v1.1 0))), (0, .ref o), (1, .int (nI xd))]) hx hb dX12_land_139 hl (by decide) rfl (fun ls hl => ?_)
                    refine lv_aload_n hx hb dX12_land_141 rfl (lv_at hl 3 rfl) ?_
                    refine m_geti G X 12 rfl (hwd _ mk_81) rfl dX12_land_142 ?_
                    refine lv_istore (lv' := [(6, .int (nI (v1.1 12))), (5, .int (nI (v1.1 8))), (4, .int (nI (v1.1 4))), (3, .int (nI (v1.1 0))), (0, .ref o), (1, .int (nI xd))]) hx hb dX12_land_145 hl (by decide) rfl (fun ls hl => ?_)
                    refine lv_aload_n hx hb dX12_land_147 rfl (lv_at hl 4 rfl) ?_
                    refine m_geti G X 13 rfl (hwd _ mk_13) rfl dX12_land_148 ?_
                    refine lv_istore (lv' := [(7, .int (nI (v1.1 13))), (6, .int (nI (v1.1 12))), (5, .int (nI (v1.1 8))), (4, .int (nI (v1.1 4))), (3, .int (nI (v1.1 0))), (0, .ref o), (1, .int (nI xd))]) hx hb dX12_land_151 hl (by decide) rfl (fun ls hl => ?_)
                    refine lv_iconst (v := nI 0) hx hb dX12_land_153 (by decide) ?_
                    refine lv_istore (lv' := [(8, .int (nI 0)), (7, .int (nI (v1.1 13))), (6, .int (nI (v1.1 12))), (5, .int (nI (v1.1 8))), (4, .int (nI (v1.1 4))), (3, .int (nI (v1.1 0))), (0, .ref o), (1, .int (nI xd))]) hx hb dX12_land_154 hl (by decide) rfl (fun ls hl => ?_)
                    have cut_156 : ∀ (NN : Nat) (k1 : Nat) (hk1 : k1 ≤ 48), 48 - k1 < NN → ∀ (H : Heap) (locs : List Loc) (ls : Array Slot), wH D cl A s.heap H locs (mw o q ci cI cJ (sA v1 26 (zcp (v1.2 11) (v1.2 26) k1))) → lv_has ls 10 [(0, .ref o), (1, .int (nI xd)), (3, .int (nI (v1.1 0))), (4, .int (nI (v1.1 4))), (5, .int (nI (v1.1 8))), (6, .int (nI (v1.1 12))), (7, .int (nI (v1.1 13))), (8, .int (nI k1))] → W p l e { frames := 4, cells := 0, slots := 0, locals := 89 } s m args below meth c H locs 0 0 Q (F0 m 156 ls []) := by
                      intro NN
                      induction NN with
                      | zero => intro k1 hk1 hNN; exact absurd hNN (Nat.not_lt_zero _)
                      | succ NN ih_156 =>
                        intro k1 hk1 hNN H locs ls X hl
                        refine lv_iload hx hb dX12_land_156 (lv_at hl 7 rfl) ?_
                        refine lv_bipush (v := nI 48) hx hb dX12_land_158 (by decide) ?_
                        refine gn_icmp_ge (tgt := 183) hx hb dX12_land_160 (by decide) (by omega) (by omega) (fun c_160 => ?_) (fun c_160 => ?_)
                        ·
                          obtain rfl : k1 = 48 := by omega
                          replace X := wh_eq (σ' := (zW0 v1)) rfl X
                          have hW0 := zln_l0 hxd g2 g44 hlk hv
                          have hB0 := zln_b0 hxd g2 g44 hbd hv
                          refine lv_iconst (v := nI 0) hx hb dX12_land_183 (by decide) ?_
                          refine lv_istore (lv' := [(8, .int (nI 0)), (0, .ref o), (1, .int (nI xd)), (3, .int (nI (v1.1 0))), (4, .int (nI (v1.1 4))), (5, .int (nI (v1.1 8))), (6, .int (nI (v1.1 12))), (7, .int (nI (v1.1 13)))]) hx hb dX12_land_184 hl (by decide) rfl (fun ls hl => ?_)
                          have cut_186 : ∀ (NN : Nat) (i2 : Nat) (v2 : MS) (hi2 : i2 ≤ v1.1 20) (hw2 : zrj (zhh σ xd) (v1.1 20) (zW0 v1) v2 i2), v1.1 20 - i2 < NN → ∀ (H : Heap) (locs : List Loc) (ls : Array Slot), wH D cl A s.heap H locs (mw o q ci cI cJ v2) → lv_has ls 10 [(0, .ref o), (1, .int (nI xd)), (3, .int (nI (v1.1 0))), (4, .int (nI (v1.1 4))), (5, .int (nI (v1.1 8))), (6, .int (nI (v1.1 12))), (7, .int (nI (v1.1 13))), (8, .int (nI i2))] → W p l e { frames := 4, cells := 0, slots := 0, locals := 89 } s m args below meth c H locs 0 0 Q (F0 m 186 ls []) := by
                            intro NN
                            induction NN with
                            | zero => intro i2 v2 hi2 hw2 hNN; exact absurd hNN (Nat.not_lt_zero _)
                            | succ NN ih_186 =>
                              intro i2 v2 hi2 hw2 hNN H locs ls X hl
                              have hv20 : v2.1 20 = v1.1 20 := hw2.1 20 (by decide) (by decide) (by decide) (by decide) (by decide)
                              refine lv_iload hx hb dX12_land_186 (lv_at hl 7 rfl) ?_
                              refine lv_aload_n hx hb dX12_land_188 rfl (lv_at hl 0 rfl) ?_
                              refine m_geti G X 20 rfl (hwd _ mk_67) rfl dX12_land_189 ?_
                              refine gn_icmp_ge (tgt := 281) hx hb dX12_land_192 (by decide) (by omega) (by omega) (fun c_192 => ?_) (fun c_192 => ?_)
                              ·
                                have hie : i2 = v1.1 20 := by omega
                                rw [hie] at hw2
                                refine lv_aload_n hx hb dX12_land_281 rfl (lv_at hl 0 rfl) ?_
                                refine ctV_V (wf := []) (As := []) (rest := []) (n := 0) hx hb hml hown hts hK hA (ap_nil X) hl.1 (m_recv G X) (c_thinkAnew hcl ht0 ht1 (σ := v2)  (hw2.2.2.1.1)) (cwV 0 hts (mg_V mk_87 mk_97 mk_98 mk_99 mk_43) rfl rfl rfl (by decide +kernel) ⟨Nat.le_of_ble_eq_true rfl, Nat.le_of_ble_eq_true rfl⟩) rfl (Nat.le_of_ble_eq_true rfl) dX12_land_282 ⟨Nat.le_refl _, Nat.le_refl _⟩ (fun H locs X => ?_)
                                replace X := ap_nil' X
                                refine lv_aload_n hx hb dX12_land_285 rfl (lv_at hl 0 rfl) ?_
                                refine m_geti G X 20 rfl (hwd _ mk_67) rfl dX12_land_286 ?_
                                refine gi_eq (a := (v2.1 20)) rfl ?_
                                exact finIP_of ((zln_ok hxd g2 g44 hW hv c_80 (by omega) hw2).1) (u := (sA v2 14 (zcp ((v2.2 5)) (v2.2 14) ((v2.1 4))))) ((zln_ok hxd g2 g44 hW hv c_80 (by omega) hw2).2) X dX12_land_289 fin
                              ·
                                refine lv_aload_n hx hb dX12_land_195 rfl (lv_at hl 0 rfl) ?_
                                refine lv_iload hx hb dX12_land_196 (lv_at hl 7 rfl) ?_
                                refine ctI_V (wf := []) (As := [.int (nI i2)]) (rest := []) (n := 1) hx hb hml hown hts hK hA (ap_nil X) hl.1 (m_recv G X) (c_comes hcl ht0 ht1 (σ := v2) i2 (hw2.2.2.1.1) (zrj_rd hw2 (zln_row hv c_80 (by omega)) (by omega))) (cwV 1 hts (mg_V mk_85 mk_94 mk_95 mk_96 mk_43) rfl rfl rfl (by decide +kernel) ⟨Nat.le_of_ble_eq_true rfl, Nat.le_of_ble_eq_true rfl⟩) rfl (Nat.le_of_ble_eq_true rfl) dX12_land_198 ⟨Nat.le_refl _, Nat.le_refl _⟩ (fun H locs X => ?_)
                                replace X := ap_nil' X
                                refine gb_if_ne (tgt := 275) hx hb dX12_land_201 (by decide) (fun c_201 => ?_) (fun c_201 => ?_)
                                ·
                                  refine lv_iinc (v := nI (i2 + 1)) (lv' := [(8, .int (nI (i2 + 1))), (0, .ref o), (1, .int (nI xd)), (3, .int (nI (v1.1 0))), (4, .int (nI (v1.1 4))), (5, .int (nI (v1.1 8))), (6, .int (nI (v1.1 12))), (7, .int (nI (v1.1 13)))]) hx hb dX12_land_275 hl (k := 7) rfl (zn_inc _) (by decide) rfl (fun ls hl => ?_)
                                  refine lv_goto (tgt := 186) hx hb dX12_land_278 (by decide) ?_
                                  refine ih_186 (i2 + 1) (zcoT v2 i2) (by omega) (zrj_step hw2 (by omega) (by omega) (zln_row hv c_80 (by omega)) c_201) (by omega) _ _ _ (by exact X) (by exact lv_sub hl [1, 2, 3, 4, 5, 6, 7, 0] rfl)
                                ·
                                  rw [zcoT_n c_201] at X
                                  refine lv_aload_n hx hb dX12_land_204 rfl (lv_at hl 0 rfl) ?_
                                  refine lv_iload_n hx hb dX12_land_205 rfl (lv_at hl 2 rfl) ?_
                                  refine m_puti G X 0 rfl (hwd _ mk_77) rfl (ty := .int) (by decide +kernel) rfl rfl dX12_land_206 (fun H locs X => ?_)
                                  refine lv_aload_n hx hb dX12_land_209 rfl (lv_at hl 0 rfl) ?_
                                  refine lv_iload hx hb dX12_land_210 (lv_at hl 3 rfl) ?_
                                  refine m_puti G X 4 rfl (hwd _ mk_45) rfl (ty := .int) (by decide +kernel) rfl rfl dX12_land_212 (fun H locs X => ?_)
                                  refine lv_aload_n hx hb dX12_land_215 rfl (lv_at hl 0 rfl) ?_
                                  refine lv_iload hx hb dX12_land_216 (lv_at hl 4 rfl) ?_
                                  refine m_puti G X 8 rfl (hwd _ mk_80) rfl (ty := .int) (by decide +kernel) rfl rfl dX12_land_218 (fun H locs X => ?_)
                                  refine lv_aload_n hx hb dX12_land_221 rfl (lv_at hl 0 rfl) ?_
                                  refine lv_iload hx hb dX12_land_222 (lv_at hl 5 rfl) ?_
                                  refine m_puti G X 12 rfl (hwd _ mk_81) rfl (ty := .int) (by decide +kernel) rfl rfl dX12_land_224 (fun H locs X => ?_)
                                  refine lv_aload_n hx hb dX12_land_227 rfl (lv_at hl 0 rfl) ?_
                                  refine lv_iload hx hb dX12_land_228 (lv_at hl 6 rfl) ?_
                                  refine m_puti G X 13 rfl (hwd _ mk_13) rfl (ty := .int) (by decide +kernel) rfl rfl dX12_land_230 (fun H locs X => ?_)
                                  refine lv_iconst (v := nI 0) hx hb dX12_land_233 (by decide) ?_
                                  refine lv_istore (lv' := [(9, .int (nI 0)), (0, .ref o), (1, .int (nI xd)), (3, .int (nI (v1.1 0))), (4, .int (nI (v1.1 4))), (5, .int (nI (v1.1 8))), (6, .int (nI (v1.1 12))), (7, .int (nI (v1.1 13))), (8, .int (nI i2))]) hx hb dX12_land_234 hl (by decide) rfl (fun ls hl => ?_)
                                  have cut_236 : ∀ (NN : Nat) (k2 : Nat) (hk2 : k2 ≤ 48), 48 - k2 < NN → ∀ (H : Heap) (locs : List Loc) (ls : Array Slot), wH D cl A s.heap H locs (mw o q ci cI cJ (sA (zFS v1 v2) 11 (zcp (v2.2 26) (v2.2 11) k2))) → lv_has ls 10 [(0, .ref o), (1, .int (nI xd)), (8, .int (nI i2)), (9, .int (nI k2))] → W p l e { frames := 4, cells := 0, slots := 0, locals := 89 } s m args below meth c H locs 0 0 Q (F0 m 236 ls []) := by
                                    intro NN
                                    induction NN with
                                    | zero => intro k2 hk2 hNN; exact absurd hNN (Nat.not_lt_zero _)
                                    | succ NN ih_236 =>
                                      intro k2 hk2 hNN H locs ls X hl
                                      refine lv_iload hx hb dX12_land_236 (lv_at hl 3 rfl) ?_
                                      refine lv_bipush (v := nI 48) hx hb dX12_land_238 (by decide) ?_
                                      refine gn_icmp_ge (tgt := 263) hx hb dX12_land_240 (by decide) (by omega) (by omega) (fun c_240 => ?_) (fun c_240 => ?_)
                                      ·
                                        obtain rfl : k2 = 48 := by omega
                                        refine lv_sipush (v := (-2000)) hx hb dX12_land_263 (by decide) ?_
                                        refine lv_aload_n hx hb dX12_land_266 rfl (lv_at hl 0 rfl) ?_
                                        refine m_geta G X 21 rfl (hwd _ mk_16) rfl dX12_land_267 ?_
                                        refine lv_iload hx hb dX12_land_270 (lv_at hl 2 rfl) ?_
                                        refine m_iald G X 21 rfl (i := i2) (by show _ < 50; omega) (by omega) dX12_land_272 ?_
                                        refine gi_eq (a := ((zFS v1 v2).2 21 i2)) rfl ?_
                                        refine lv_isub hx hb dX12_land_273 ?_
                                        exact finIP_of ((zln_fail hxd g2 g44 hlk hbd hW hv c_80 (by omega) hw2 (by omega) c_201).1) (u := (sA (zFS v1 v2) 11 (zcp (v2.2 26) (v2.2 11) 48))) ((zln_fail hxd g2 g44 hlk hbd hW hv c_80 (by omega) hw2 (by omega) c_201).2) X dX12_land_274 fin
                                      ·
                                        refine lv_aload_n hx hb dX12_land_243 rfl (lv_at hl 0 rfl) ?_
                                        refine m_geta G X 11 rfl (hwd _ mk_12) rfl dX12_land_244 ?_
                                        refine lv_iload hx hb dX12_land_247 (lv_at hl 3 rfl) ?_
                                        refine lv_aload_n hx hb dX12_land_249 rfl (lv_at hl 0 rfl) ?_
                                        refine m_geta G X 26 rfl (hwd _ mk_21) rfl dX12_land_250 ?_
                                        refine lv_iload hx hb dX12_land_253 (lv_at hl 3 rfl) ?_
                                        refine m_iald G X 26 rfl (i := k2) (by show _ < 48; omega) (by omega) dX12_land_255 ?_
                                        refine gi_eq (a := ((zFS v1 v2).2 26 k2)) rfl ?_
                                        refine m_iast G X 11 rfl (i := k2) (v := ((zFS v1 v2).2 26 k2)) (by show _ < 48; omega) (by omega) dX12_land_256 (fun H locs X => ?_)
                                        refine lv_iinc (v := nI (k2 + 1)) (lv' := [(9, .int (nI (k2 + 1))), (0, .ref o), (1, .int (nI xd)), (8, .int (nI i2))]) hx hb dX12_land_257 hl (k := 3) rfl (zn_inc _) (by decide) rfl (fun ls hl => ?_)
                                        refine lv_goto (tgt := 236) hx hb dX12_land_260 (by decide) ?_
                                        refine ih_236 (k2 + 1) (by omega) (by omega) _ _ _ (by exact wh_eq (sA_f1 (zFS v1 v2) 11 (v2.2 26) k2 _ rfl) X) (by exact lv_sub hl [1, 2, 3, 0] rfl)
                                  refine cut_236 _ 0 (Nat.zero_le _) (Nat.lt_succ_self _) _ _ _ (by exact wh_eq (sA_f0 (zFS v1 v2) 11 (v2.2 26)) X) (by exact lv_sub hl [1, 2, 8, 0] rfl)
                          refine cut_186 _ 0 (zW0 v1) (Nat.zero_le _) (zrj_0 hW0 hB0) (Nat.lt_succ_self _) _ _ _ (by exact X) (by exact lv_sub hl [1, 2, 3, 4, 5, 6, 7, 0] rfl)
                        ·
                          refine lv_aload_n hx hb dX12_land_163 rfl (lv_at hl 0 rfl) ?_
                          refine m_geta G X 26 rfl (hwd _ mk_21) rfl dX12_land_164 ?_
                          refine lv_iload hx hb dX12_land_167 (lv_at hl 7 rfl) ?_
                          refine lv_aload_n hx hb dX12_land_169 rfl (lv_at hl 0 rfl) ?_
                          refine m_geta G X 11 rfl (hwd _ mk_12) rfl dX12_land_170 ?_
                          refine lv_iload hx hb dX12_land_173 (lv_at hl 7 rfl) ?_
                          refine m_iald G X 11 rfl (i := k1) (by show _ < 48; omega) (by omega) dX12_land_175 ?_
                          refine gi_eq (a := (v1.2 11 k1)) rfl ?_
                          refine m_iast G X 26 rfl (i := k1) (v := (v1.2 11 k1)) (by show _ < 48; omega) (by omega) dX12_land_176 (fun H locs X => ?_)
                          refine lv_iinc (v := nI (k1 + 1)) (lv' := [(8, .int (nI (k1 + 1))), (0, .ref o), (1, .int (nI xd)), (3, .int (nI (v1.1 0))), (4, .int (nI (v1.1 4))), (5, .int (nI (v1.1 8))), (6, .int (nI (v1.1 12))), (7, .int (nI (v1.1 13)))]) hx hb dX12_land_177 hl (k := 7) rfl (zn_inc _) (by decide) rfl (fun ls hl => ?_)
                          refine lv_goto (tgt := 156) hx hb dX12_land_180 (by decide) ?_
                          refine ih_156 (k1 + 1) (by omega) (by omega) _ _ _ (by exact wh_eq (sA_f1 v1 26 (v1.2 11) k1 _ rfl) X) (by exact lv_sub hl [1, 2, 3, 4, 5, 6, 7, 0] rfl)
                    refine cut_156 _ 0 (Nat.zero_le _) (Nat.lt_succ_self _) _ _ _ (by exact wh_eq (sA_f0 v1 26 (v1.2 11)) X) (by exact lv_sub hl [6, 7, 5, 4, 3, 2, 1, 0] rfl)
                  ·
                    exact absurd c_112 (by omega)
                ·
                  refine lv_aload_n hx hb dX12_land_101 rfl (lv_at hl 0 rfl) ?_
                  refine ctVP_V (wf := []) (As := []) (rest := []) (n := 0) hx hb hml hown hts hK hA (ap_nil X) hl.1 (m_recv G X) (c_readStatement hcl ht0 ht1 (σ := v1) (show zpOk v1 from ⟨by omega, by omega, hv.2.2.1, hv.2.2.2.1⟩) (fun i9 hi9 => by have h9 := zln_by hxd g2 g44 hbt i9; rw [hv46]; simp only [hv16, hv17] at hi9 ⊢; exact h9 hi9) (by omega)) (cwV 0 hts (mg_V mk_74 mk_91 mk_92 mk_93 mk_43) rfl rfl rfl (by decide +kernel) ⟨Nat.le_of_ble_eq_true rfl, Nat.le_of_ble_eq_true rfl⟩) rfl (Nat.le_of_ble_eq_true rfl) dX12_land_102 ⟨Nat.le_refl _, Nat.le_refl _⟩ (fun H locs u_102 hu_102 X => ?_)
                  replace X := ap_nil' X
                  replace hu_102 : zrsP v1 u_102 := hu_102
                  refine lv_goto (tgt := 76) hx hb dX12_land_105 (by decide) ?_
                  refine ih_76 u_102 (zri_step hv c_80 (by first | exact Or.inl c_87 | exact Or.inr (by show v1.1 18 < σ.2 45 xd; omega)) hu_102) (by have hd9 := hu_102.2.2.2.1; omega) _ _ _ (by exact X) (by exact lv_sub hl [0, 1] rfl)
        refine cut_76 _ (zv0 σ xd) (zri_0 rfl rfl rfl) (Nat.lt_succ_self _) _ _ _ (by exact X) (by exact lv_sub hl [1, 2] rfl)
      · exact absurd c_38 (by decide)
    ·
      refine lv_bipush (v := (-12)) hx hb dX12_land_30 (by decide) ?_
      refine lv_goto (tgt := 36) hx hb dX12_land_32 (by decide) ?_
      refine lv_istore_n (lv' := [(2, .int (-12)), (0, .ref o), (1, .int (nI xd))]) hx hb dX12_land_36 rfl hl (by decide) rfl (fun ls hl => ?_)
      refine lv_iload_n hx hb dX12_land_37 rfl (lv_at hl 0 rfl) ?_
      refine lv_if_ge (tgt := 43) hx hb dX12_land_38 (by decide) (fun c_38 => ?_) (fun c_38 => ?_)
      · exact absurd c_38 (by decide)
      ·
        refine lv_iload_n hx hb dX12_land_41 rfl (lv_at hl 0 rfl) ?_
        exact finIP_of (zlan_k hxd g2 (Nat.ne_of_gt c_27)) (u := σ) (zln_no hlk hbd hW (by show ¬ 0 < zlanR σ σ (nI xd) (fun _ => 0); rw [← zlan_k (τ := σ) (t := fun _ => 0) hxd g2 (Nat.ne_of_gt c_27)]; decide)) X dX12_land_42 fin
  ·
    refine lv_aload_n hx hb dX12_land_13 rfl (lv_at hl 0 rfl) ?_
    refine lv_iload_n hx hb dX12_land_14 rfl (lv_at hl 1 rfl) ?_
    refine ctI_V (wf := []) (As := [.int d]) (rest := []) (n := 1) hx hb hml hown hts hK hA (ap_nil X) hl.1 (m_recv G X) (c_wrongRow hcl ht0 ht1 (σ := σ) d (hok) (hh)) (cwV 1 hts (mg_V mk_86 mk_88 mk_89 mk_90 mk_43) rfl rfl rfl (by decide +kernel) ⟨Nat.le_of_ble_eq_true rfl, Nat.le_of_ble_eq_true rfl⟩) rfl (Nat.le_of_ble_eq_true rfl) dX12_land_15 ⟨Nat.le_refl _, Nat.le_refl _⟩ (fun H locs X => ?_)
    replace X := ap_nil' X
    refine lv_goto (tgt := 36) hx hb dX12_land_18 (by decide) ?_
    refine lv_istore_n (lv' := [(2, .int (zrowK σ d)), (0, .ref o), (1, .int d)]) hx hb dX12_land_36 rfl hl (by decide) rfl (fun ls hl => ?_)
    refine lv_iload_n hx hb dX12_land_37 rfl (lv_at hl 0 rfl) ?_
    refine lv_if_ge (tgt := 43) hx hb dX12_land_38 (by decide) (fun c_38 => ?_) (fun c_38 => ?_)
    ·
      exact absurd c_38 c_10
    ·
      refine lv_iload_n hx hb dX12_land_41 rfl (lv_at hl 0 rfl) ?_
      exact finIP_of (by unfold zlnR zlanR; rw [if_pos (Int32.not_le.mp c_10)]) (u := σ) (zln_no hlk hbd hW (by unfold zlnR zlanR; rw [if_pos (Int32.not_le.mp c_10)]; exact Int32.not_lt.mpr (Int32.le_of_lt (Int32.not_le.mp c_10)))) X dX12_land_42 fin
