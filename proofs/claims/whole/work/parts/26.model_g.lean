set_option maxHeartbeats 4000000 in
set_option maxRecDepth 100000 in
theorem c_walkBy {l : Launch} {D : va_G} {cl : List vw_C} {tys : List (ClassId × FieldType)} {o : Nat} {q : Nat → Nat} {ci : Nat} {cI cJ : ClassId} (hcl : cl[ci]? = some (RX12, TX12, 48)) (ht0 : tys[0]? = some (cI, .int)) (ht1 : tys[1]? = some (cJ, .long)) {σ : MS} (xw : Nat) (xc : Nat) (xr : Nat) (xf : Nat) (xz : Nat) (hok : mOk σ) (hw : xw < σ.1 4) (hc : xc < 8) (hr : xr < 6 ∨ xr = 4294967295) (hf : xf < 100) (hB : ∀ w, w < σ.1 4 → σ.2 29 w ≤ 100000000000) (hW : zWok (σ.2 27)) (hp : σ.1 28 < 8 ∨ σ.1 28 = 4294967295) : ctVP l D cl tys yX12_walkBy (Cond.code yX12_walkBy cX12_walkBy 13 (none) :: mW) { frames := 4, cells := 0, slots := 0, locals := 96 } [.ref o, .int (nI xw), .int (nI xc), .int (nI xr), .int (nI xf), .int (nI xz)] (mw o q ci cI cJ σ) (mw o q ci cI cJ) (fun u => ∃ m9 v9 a9 se9, u = zw σ m9 v9 a9 (zwalk σ xw xc xr xf (σ.2 29) xz).2.1 (zwalk σ xw xc xr xf (σ.2 29) xz).2.2.1 (zwalk σ xw xc xr xf (σ.2 29) xz).2.2.2 (zwalk σ xw xc xr xf (σ.2 29) xz).1 se9) := by
  refine ctVP_of (cc := cX12_walkBy) (maxL := 13) (by decide +kernel) rfl (Nat.le_of_ble_eq_true rfl) ?_
  intro p e s m args below meth c A Q ls hx hb hml hown hts hK hA X hl fin
  replace hown : s.vm.findClass RX12 = some m.cls := hown
  have hwd : ∀ w ∈ mW, w.before args s = true := fun w h => hts w (List.mem_cons_of_mem _ h)
  have G : mG p c cX12_walkBy s m args D cl tys ci cI cJ := ⟨hx, hb, hown, hwd, hK, hcl, ht0, ht1⟩
  replace hl : lv_has ls 13 [(0, .ref o), (1, .int (nI xw)), (2, .int (nI xc)), (3, .int (nI xr)), (4, .int (nI xf)), (5, .int (nI xz))] := hl
  obtain ⟨kr, kw, ks, kroad, kworld, ksort, kmet, ksum, kst, kco⟩ := id hok
  replace X := wh_eq (zw_self σ) X
  have hkw := kworld xw hw
  refine lv_aload_n hx hb dX12_walkBy_0 rfl (lv_at hl 0 rfl) ?_
  refine lv_iconst (v := nI 0) hx hb dX12_walkBy_1 (by decide) ?_
  refine m_puti G X 30 rfl (hwd _ mk_198) rfl (ty := .int) (by decide +kernel) rfl rfl dX12_walkBy_2 (fun H locs X => ?_)
  replace X := wh_eq (zw_F30 (x := 0)) X
  refine lv_aload_n hx hb dX12_walkBy_5 rfl (lv_at hl 0 rfl) ?_
  refine lv_iconst (v := nI 0) hx hb dX12_walkBy_6 (by decide) ?_
  refine m_puti G X 31 rfl (hwd _ mk_199) rfl (ty := .int) (by decide +kernel) rfl rfl dX12_walkBy_7 (fun H locs X => ?_)
  replace X := wh_eq (zw_F31 (x := 0)) X
  refine lv_aload_n hx hb dX12_walkBy_10 rfl (lv_at hl 0 rfl) ?_
  refine lv_iconst (v := nI 0) hx hb dX12_walkBy_11 (by decide) ?_
  refine m_puti G X 32 rfl (hwd _ mk_214) rfl (ty := .int) (by decide +kernel) rfl rfl dX12_walkBy_12 (fun H locs X => ?_)
  replace X := wh_eq (zw_F32 (x := 0)) X
  refine lv_aload_n hx hb dX12_walkBy_15 rfl (lv_at hl 0 rfl) ?_
  refine lv_iconst (v := nI 0) hx hb dX12_walkBy_16 (by decide) ?_
  refine m_puti G X 33 rfl (hwd _ mk_215) rfl (ty := .boolean) (by decide +kernel) (zb_nar (by omega)) (zb_fit (by omega)) dX12_walkBy_17 (fun H locs X => ?_)
  replace X := wh_eq (zw_F33 (x := 0)) X
  refine lv_aload_n hx hb dX12_walkBy_20 rfl (lv_at hl 0 rfl) ?_
  refine lv_iload hx hb dX12_walkBy_21 (lv_at hl 5 rfl) ?_
  refine m_puti G X 34 rfl (hwd _ mk_200) rfl (ty := .int) (by decide +kernel) rfl rfl dX12_walkBy_23 (fun H locs X => ?_)
  replace X := wh_eq (zw_F34 (x := xz)) X
  refine lv_iload_n hx hb dX12_walkBy_26 rfl (lv_at hl 2 rfl) ?_
  refine lv_istore (lv' := [(6, .int (nI xc)), (0, .ref o), (1, .int (nI xw)), (2, .int (nI xc)), (3, .int (nI xr)), (4, .int (nI xf)), (5, .int (nI xz))]) hx hb dX12_walkBy_27 hl (by decide) rfl (fun ls hl => ?_)
  have cut_51 : ∀ (an0 : Nat) (han0 : an0 = if xr = 1 ∨ xr = 2 ∨ xr = 5 then 1 else 0), ∀ (H : Heap) (locs : List Loc) (ls : Array Slot), wH D cl A s.heap H locs (mw o q ci cI cJ (zw σ (σ.2 29) (σ.2 35) (σ.2 36) 0 0 0 0 xz)) → lv_has ls 13 [(0, .ref o), (1, .int (nI xw)), (2, .int (nI xc)), (3, .int (nI xr)), (4, .int (nI xf)), (5, .int (nI xz)), (6, .int (nI xc)), (7, .int (nI an0))] → W p l e { frames := 4, cells := 0, slots := 0, locals := 96 } s m args below meth c H locs 0 0 Q (F0 m 51 ls []) := by
    intro an0 han0 H locs ls X hl
    refine lv_iconst (v := nI 1) hx hb dX12_walkBy_51 (by decide) ?_
    refine lv_istore (lv' := [(8, .int (nI 1)), (0, .ref o), (1, .int (nI xw)), (2, .int (nI xc)), (3, .int (nI xr)), (4, .int (nI xf)), (5, .int (nI xz)), (6, .int (nI xc)), (7, .int (nI an0))]) hx hb dX12_walkBy_52 hl (by decide) rfl (fun ls hl => ?_)
    have cut_78 : ∀ (NN : Nat) (k : Nat) (m0 : Nat → Nat) (v0 : Nat → Nat) (a0 : Nat → Nat) (mi : Nat) (as : Nat) (go : Nat) (se : Nat) (pl : Nat) (an : Nat) (ca : Nat) (s1 : Nat) (hks : s1 + k = 200) (hmB : ∀ w, w < σ.1 4 → m0 w ≤ 100000000000) (hpl : pl < 8) (han : an < 2) (hca : ca < 2) (hres : zloop σ xw xr xf k m0 mi as go se pl an ca = zwalk σ xw xc xr xf (σ.2 29) xz), k < NN → ∀ (H : Heap) (locs : List Loc) (ls : Array Slot), wH D cl A s.heap H locs (mw o q ci cI cJ (zw σ m0 v0 a0 mi as go 0 se)) → lv_has ls 13 [(0, .ref o), (1, .int (nI xw)), (2, .int (nI xc)), (3, .int (nI xr)), (4, .int (nI xf)), (5, .int (nI xz)), (6, .int (nI pl)), (7, .int (nI an)), (8, .int (nI ca)), (9, .int (nI s1))] → W p l e { frames := 4, cells := 0, slots := 0, locals := 96 } s m args below meth c H locs 0 0 Q (F0 m 78 ls []) := by
      intro NN
      induction NN with
      | zero => intro k m0 v0 a0 mi as go se pl an ca s1 hks hmB hpl han hca hres hNN; exact absurd hNN (Nat.not_lt_zero _)
      | succ NN ih_78 =>
        intro k m0 v0 a0 mi as go se pl an ca s1 hks hmB hpl han hca hres hNN H locs ls X hl
        refine lv_iload hx hb dX12_walkBy_78 (lv_at hl 6 rfl) ?_
        refine lv_aload_n hx hb dX12_walkBy_80 rfl (lv_at hl 0 rfl) ?_
        refine m_geta G X 6 rfl (hwd _ mk_8) rfl dX12_walkBy_81 ?_
        refine lv_iload_n hx hb dX12_walkBy_84 rfl (lv_at hl 1 rfl) ?_
        refine m_iald G X 6 rfl (i := xw) (by show _ < 5; omega) (by omega) dX12_walkBy_85 ?_
        refine gi_eq (a := (σ.2 6 xw)) rfl ?_
        refine gn_icmp_eq (tgt := 408) hx hb dX12_walkBy_86 (by decide) (by omega) (by omega) (fun c_86 => ?_) (fun c_86 => ?_)
        ·
          exact fin _ _ _ _ (zw σ m0 v0 a0 mi as go 0 se) (⟨m0, v0, a0, se, by rw [← hres, zloop_there c_86]⟩) X dX12_walkBy_408
        ·
          refine lv_aload_n hx hb dX12_walkBy_89 rfl (lv_at hl 0 rfl) ?_
          refine m_geti G X 33 rfl (hwd _ mk_215) rfl dX12_walkBy_90 ?_
          refine gi_eq (a := 0) rfl ?_
          refine gn_if_ne (tgt := 408) hx hb dX12_walkBy_93 (by decide) (by omega) (fun c_93 => ?_) (fun c_93 => ?_)
          · exact absurd c_93 (by decide)
          ·
            have cut_133 : ∀ (m1 : Nat → Nat) (a1 : Nat → Nat) (mi1 : Nat) (as1 : Nat) (se1 : Nat) (hm1B : ∀ w, w < σ.1 4 → m1 w ≤ 100000000000) (h0 : k = 0 → (1, mi1, as1, go) = zwalk σ xw xc xr xf (σ.2 29) xz) (h1 : ∀ k9, k = k9 + 1 → zaft σ xw (zloop σ xw xr xf k9) m1 mi1 as1 go se1 pl an = zwalk σ xw xc xr xf (σ.2 29) xz), ∀ (H : Heap) (locs : List Loc) (ls : Array Slot), wH D cl A s.heap H locs (mw o q ci cI cJ (zw σ m1 v0 a1 mi1 as1 go 0 se1)) → lv_has ls 13 [(0, .ref o), (1, .int (nI xw)), (2, .int (nI xc)), (3, .int (nI xr)), (4, .int (nI xf)), (5, .int (nI xz)), (6, .int (nI pl)), (7, .int (nI an)), (9, .int (nI s1))] → W p l e { frames := 4, cells := 0, slots := 0, locals := 96 } s m args below meth c H locs 0 0 Q (F0 m 133 ls []) := by
              intro m1 a1 mi1 as1 se1 hm1B h0 h1 H locs ls X hl
              refine lv_iconst (v := nI 0) hx hb dX12_walkBy_133 (by decide) ?_
              refine lv_istore (lv' := [(8, .int (nI 0)), (0, .ref o), (1, .int (nI xw)), (2, .int (nI xc)), (3, .int (nI xr)), (4, .int (nI xf)), (5, .int (nI xz)), (6, .int (nI pl)), (7, .int (nI an)), (9, .int (nI s1))]) hx hb dX12_walkBy_134 hl (by decide) rfl (fun ls hl => ?_)
              refine lv_aload_n hx hb dX12_walkBy_136 rfl (lv_at hl 1 rfl) ?_
              refine lv_aload_n hx hb dX12_walkBy_137 rfl (lv_at hl 1 rfl) ?_
              refine m_geti G X 33 rfl (hwd _ mk_215) rfl dX12_walkBy_138 ?_
              refine gi_eq (a := 0) rfl ?_
              refine gn_if_ne (tgt := 152) hx hb dX12_walkBy_141 (by decide) (by omega) (fun c_141 => ?_) (fun c_141 => ?_)
              · exact absurd c_141 (by decide)
              ·
                refine lv_iload hx hb dX12_walkBy_144 (lv_at hl 9 rfl) ?_
                refine lv_sipush (v := nI 200) hx hb dX12_walkBy_146 (by decide) ?_
                refine gn_icmp_ne (tgt := 156) hx hb dX12_walkBy_149 (by decide) (by omega) (by omega) (fun c_149 => ?_) (fun c_149 => ?_)
                ·
                  refine lv_iconst (v := nI 0) hx hb dX12_walkBy_156 (by decide) ?_
                  refine m_puti G X 33 rfl (hwd _ mk_215) rfl (ty := .boolean) (by decide +kernel) (zb_nar (by omega)) (zb_fit (by omega)) dX12_walkBy_157 (fun H locs X => ?_)
                  replace X := wh_eq (zw_F33 (x := 0)) X
                  refine lv_aload_n hx hb dX12_walkBy_160 rfl (lv_at hl 1 rfl) ?_
                  refine m_geti G X 33 rfl (hwd _ mk_215) rfl dX12_walkBy_161 ?_
                  refine gi_eq (a := 0) rfl ?_
                  refine gn_if_ne (tgt := 78) hx hb dX12_walkBy_164 (by decide) (by omega) (fun c_164 => ?_) (fun c_164 => ?_)
                  · exact absurd c_164 (by decide)
                  ·
                    have cut_345 : ∀ (m2 : Nat → Nat) (mi2 : Nat) (go2 : Nat) (pl2 : Nat) (ca2 : Nat) (hm2B : ∀ w, w < σ.1 4 → m2 w ≤ 100000000000) (hpl2 : pl2 < 8) (hca2 : ca2 < 2) (hk345 : ∃ k2, k = k2 + 1 ∧ zthen σ (zloop σ xw xr xf k2) m2 mi2 as1 go2 se1 pl2 an ca2 = zwalk σ xw xc xr xf (σ.2 29) xz), ∀ (H : Heap) (locs : List Loc) (ls : Array Slot), wH D cl A s.heap H locs (mw o q ci cI cJ (zw σ m2 v0 a1 mi2 as1 go2 0 se1)) → lv_has ls 13 [(0, .ref o), (1, .int (nI xw)), (2, .int (nI xc)), (3, .int (nI xr)), (4, .int (nI xf)), (5, .int (nI xz)), (6, .int (nI pl2)), (7, .int (nI an)), (8, .int (nI ca2)), (9, .int (nI s1))] → W p l e { frames := 4, cells := 0, slots := 0, locals := 96 } s m args below meth c H locs 0 0 Q (F0 m 345 ls []) := by
                      intro m2 mi2 go2 pl2 ca2 hm2B hpl2 hca2 hk345 H locs ls X hl
                      obtain ⟨k2, hk2, hz2⟩ := hk345
                      refine lv_iinc (v := nI (s1 + 1)) (lv' := [(9, .int (nI (s1 + 1))), (0, .ref o), (1, .int (nI xw)), (2, .int (nI xc)), (3, .int (nI xr)), (4, .int (nI xf)), (5, .int (nI xz)), (6, .int (nI pl2)), (7, .int (nI an)), (8, .int (nI ca2))]) hx hb dX12_walkBy_345 hl (k := 9) rfl (zn_inc _) (by decide) rfl (fun ls hl => ?_)
                      refine lv_aload_n hx hb dX12_walkBy_348 rfl (lv_at hl 1 rfl) ?_
                      refine ctI_V (wf := []) (As := []) (rest := []) (n := 0) hx hb hml hown hts hK hA (ap_nil X) hl.1 (m_recv G X) (c_settle hcl ht0 ht1 (σ := (zw σ m2 v0 a1 mi2 as1 go2 0 se1))  (hok) (fun w9 hw9 => Nat.lt_of_le_of_lt (hm2B w9 hw9) (by decide))) (cwV 0 hts (mg_V mk_152 mk_159 mk_160 mk_161 mk_43) rfl rfl rfl (by decide +kernel) ⟨Nat.le_of_ble_eq_true rfl, Nat.le_of_ble_eq_true rfl⟩) rfl (Nat.le_of_ble_eq_true rfl) dX12_walkBy_349 ⟨Nat.le_refl _, Nat.le_refl _⟩ (fun H locs X => ?_)
                      replace X := ap_nil' X
                      refine gi_raw (y := (if zgall (m2) ((σ.1 4)) ≠ 0 then 1 else 0)) rfl ?_
                      replace X := wh_eq (zw_A29 (g := zset (σ.1 4) (m2))) X
                      refine gb_if_ne (tgt := 405) hx hb dX12_walkBy_352 (by decide) (fun c_352 => ?_) (fun c_352 => ?_)
                      ·
                        refine lv_goto (tgt := 78) hx hb dX12_walkBy_405 (by decide) ?_
                        refine ih_78 k2 (zset (σ.1 4) (m2)) v0 a1 mi2 as1 go2 se1 pl2 an ca2 (s1 + 1) (by omega) (fun w9 hw9 => zset_le (fun k9 hk9 => Nat.lt_of_le_of_lt (hm2B k9 hk9) (by decide)) w9 hw9) (hpl2) (han) (hca2) (by have h9 := hz2; unfold zthen at h9; rw [if_neg c_352] at h9; exact h9) (by omega) _ _ _ (by exact X) (by exact lv_sub hl [1, 2, 3, 4, 5, 6, 7, 8, 9, 0] rfl)
                      ·
                        have hz0 : zgall m2 (σ.1 4) = 0 := Decidable.not_not.mp c_352
                        refine lv_aload_n hx hb dX12_walkBy_355 rfl (lv_at hl 1 rfl) ?_
                        refine lv_iload hx hb dX12_walkBy_356 (lv_at hl 8 rfl) ?_
                        refine gn_if_ne (tgt := 365) hx hb dX12_walkBy_358 (by decide) (by omega) (fun c_358 => ?_) (fun c_358 => ?_)
                        ·
                          refine lv_iconst (v := nI 0) hx hb dX12_walkBy_365 (by decide) ?_
                          refine m_puti G X 33 rfl (hwd _ mk_215) rfl (ty := .boolean) (by decide +kernel) (zb_nar (by omega)) (zb_fit (by omega)) dX12_walkBy_366 (fun H locs X => ?_)
                          replace X := wh_eq (zw_F33 (x := 0)) X
                          refine lv_iinc (v := nI an + Int32.ofInt (-1)) (lv' := [(7, .int (nI an + Int32.ofInt (-1))), (9, .int (nI (s1 + 1))), (0, .ref o), (1, .int (nI xw)), (2, .int (nI xc)), (3, .int (nI xr)), (4, .int (nI xf)), (5, .int (nI xz)), (6, .int (nI pl2)), (8, .int (nI ca2))]) hx hb dX12_walkBy_369 hl (k := 8) rfl rfl (by decide) rfl (fun ls hl => ?_)
                          refine lv_iconst (v := nI 0) hx hb dX12_walkBy_372 (by decide) ?_
                          refine lv_istore (lv' := [(12, .int (nI 0)), (7, .int (nI an + Int32.ofInt (-1))), (9, .int (nI (s1 + 1))), (0, .ref o), (1, .int (nI xw)), (2, .int (nI xc)), (3, .int (nI xr)), (4, .int (nI xf)), (5, .int (nI xz)), (6, .int (nI pl2)), (8, .int (nI ca2))]) hx hb dX12_walkBy_373 hl (by decide) rfl (fun ls hl => ?_)
                          have cut_375 : ∀ (NN : Nat) (o1 : Nat) (ho1 : o1 ≤ σ.1 4), σ.1 4 - o1 < NN → ∀ (H : Heap) (locs : List Loc) (ls : Array Slot), wH D cl A s.heap H locs (mw o q ci cI cJ (zw σ (zcp (σ.2 5) (zset (σ.1 4) m2) o1) v0 a1 mi2 as1 go2 0 se1)) → lv_has ls 13 [(0, .ref o), (1, .int (nI xw)), (2, .int (nI xc)), (3, .int (nI xr)), (4, .int (nI xf)), (5, .int (nI xz)), (6, .int (nI pl2)), (7, .int (nI an + Int32.ofInt (-1))), (8, .int (nI ca2)), (9, .int (nI (s1 + 1))), (12, .int (nI o1))] → W p l e { frames := 4, cells := 0, slots := 0, locals := 96 } s m args below meth c H locs 0 0 Q (F0 m 375 ls []) := by
                            intro NN
                            induction NN with
                            | zero => intro o1 ho1 hNN; exact absurd hNN (Nat.not_lt_zero _)
                            | succ NN ih_375 =>
                              intro o1 ho1 hNN H locs ls X hl
                              refine lv_iload hx hb dX12_walkBy_375 (lv_at hl 10 rfl) ?_
                              refine lv_aload_n hx hb dX12_walkBy_377 rfl (lv_at hl 0 rfl) ?_
                              refine m_geti G X 4 rfl (hwd _ mk_45) rfl dX12_walkBy_378 ?_
                              refine gi_eq (a := (σ.1 4)) rfl ?_
                              refine gn_icmp_ge (tgt := 405) hx hb dX12_walkBy_381 (by decide) (by omega) (by omega) (fun c_381 => ?_) (fun c_381 => ?_)
                              ·
                                refine lv_goto (tgt := 78) hx hb dX12_walkBy_405 (by decide) ?_
                                refine ih_78 k2 (zcp (σ.2 5) (zset (σ.1 4) m2) (σ.1 4)) v0 a1 mi2 as1 go2 se1 pl2 (an - 1) ca2 (s1 + 1) (by omega) (zcp_le (fun w9 hw9 => Nat.le_trans (kworld w9 hw9).2.1 (by decide))) (hpl2) (by omega) (hca2) (by have h9 := hz2; unfold zthen at h9; rw [if_pos hz0, if_neg (by omega)] at h9; rw [zset_zero hz0]; exact h9) (by omega) _ _ _ (by exact wh_eq (zw_c (by rw [show o1 = σ.1 4 by omega]) rfl rfl rfl rfl rfl rfl rfl) X) (by rw [zm1_inc (by omega) han] at hl; exact lv_sub hl [0, 1, 2, 3, 4, 5, 6, 7, 8, 9] rfl)
                              ·
                                have hkc := kworld o1 c_381
                                refine lv_aload_n hx hb dX12_walkBy_384 rfl (lv_at hl 0 rfl) ?_
                                refine m_geta G X 29 rfl (hwd _ mk_24) rfl dX12_walkBy_385 ?_
                                refine lv_iload hx hb dX12_walkBy_388 (lv_at hl 10 rfl) ?_
                                refine lv_aload_n hx hb dX12_walkBy_390 rfl (lv_at hl 0 rfl) ?_
                                refine m_geta G X 5 rfl (hwd _ mk_7) rfl dX12_walkBy_391 ?_
                                refine lv_iload hx hb dX12_walkBy_394 (lv_at hl 10 rfl) ?_
                                refine m_iald G X 5 rfl (i := o1) (by show _ < 5; omega) (by omega) dX12_walkBy_396 ?_
                                refine gi_eq (a := (σ.2 5 o1)) rfl ?_
                                refine gn_i2l hx hb dX12_walkBy_397 (by omega) ?_
                                refine m_last G X 29 rfl (i := o1) (v := (σ.2 5 o1)) (by show _ < 5; omega) (by omega) dX12_walkBy_398 (fun H locs X => ?_)
                                replace X := wh_eq zw_E29 X
                                refine lv_iinc (v := nI (o1 + 1)) (lv' := [(12, .int (nI (o1 + 1))), (0, .ref o), (1, .int (nI xw)), (2, .int (nI xc)), (3, .int (nI xr)), (4, .int (nI xf)), (5, .int (nI xz)), (6, .int (nI pl2)), (7, .int (nI an + Int32.ofInt (-1))), (8, .int (nI ca2)), (9, .int (nI (s1 + 1)))]) hx hb dX12_walkBy_399 hl (k := 10) rfl (zn_inc _) (by decide) rfl (fun ls hl => ?_)
                                refine lv_goto (tgt := 375) hx hb dX12_walkBy_402 (by decide) ?_
                                refine ih_375 (o1 + 1) (by omega) (by omega) _ _ _ (by exact wh_eq (zw_c (zcp_1 rfl) rfl rfl rfl rfl rfl rfl rfl) X) (by exact lv_sub hl [1, 2, 3, 4, 5, 6, 7, 8, 9, 10, 0] rfl)
                          refine cut_375 _ 0 (Nat.zero_le _) (Nat.lt_succ_self _) _ _ _ (by exact wh_eq (zw_c (funext fun a9 => (zcp_out (Nat.zero_le a9)).symm) rfl rfl rfl rfl rfl rfl rfl) X) (by exact lv_sub hl [3, 4, 5, 6, 7, 8, 9, 1, 10, 2, 0] rfl)
                        ·
                          have han0 : an = 0 := c_358
                          refine lv_iconst (v := nI 1) hx hb dX12_walkBy_361 (by decide) ?_
                          refine lv_goto (tgt := 366) hx hb dX12_walkBy_362 (by decide) ?_
                          refine m_puti G X 33 rfl (hwd _ mk_215) rfl (ty := .boolean) (by decide +kernel) (zb_nar (by omega)) (zb_fit (by omega)) dX12_walkBy_366 (fun H locs X => ?_)
                          replace X := wh_eq (zw_F33 (x := 1)) X
                          refine lv_iinc (v := nI an + Int32.ofInt (-1)) (lv' := [(7, .int (nI an + Int32.ofInt (-1))), (9, .int (nI (s1 + 1))), (0, .ref o), (1, .int (nI xw)), (2, .int (nI xc)), (3, .int (nI xr)), (4, .int (nI xf)), (5, .int (nI xz)), (6, .int (nI pl2)), (8, .int (nI ca2))]) hx hb dX12_walkBy_369 hl (k := 8) rfl rfl (by decide) rfl (fun ls hl => ?_)
                          refine lv_iconst (v := nI 0) hx hb dX12_walkBy_372 (by decide) ?_
                          refine lv_istore (lv' := [(12, .int (nI 0)), (7, .int (nI an + Int32.ofInt (-1))), (9, .int (nI (s1 + 1))), (0, .ref o), (1, .int (nI xw)), (2, .int (nI xc)), (3, .int (nI xr)), (4, .int (nI xf)), (5, .int (nI xz)), (6, .int (nI pl2)), (8, .int (nI ca2))]) hx hb dX12_walkBy_373 hl (by decide) rfl (fun ls hl => ?_)
                          have cut_375 : ∀ (NN : Nat) (o1 : Nat) (ho1 : o1 ≤ σ.1 4), σ.1 4 - o1 < NN → ∀ (H : Heap) (locs : List Loc) (ls : Array Slot), wH D cl A s.heap H locs (mw o q ci cI cJ (zw σ (zcp (σ.2 5) (zset (σ.1 4) m2) o1) v0 a1 mi2 as1 go2 1 se1)) → lv_has ls 13 [(0, .ref o), (1, .int (nI xw)), (2, .int (nI xc)), (3, .int (nI xr)), (4, .int (nI xf)), (5, .int (nI xz)), (6, .int (nI pl2)), (7, .int (nI an + Int32.ofInt (-1))), (8, .int (nI ca2)), (9, .int (nI (s1 + 1))), (12, .int (nI o1))] → W p l e { frames := 4, cells := 0, slots := 0, locals := 96 } s m args below meth c H locs 0 0 Q (F0 m 375 ls []) := by
                            intro NN
                            induction NN with
                            | zero => intro o1 ho1 hNN; exact absurd hNN (Nat.not_lt_zero _)
                            | succ NN ih_375 =>
                              intro o1 ho1 hNN H locs ls X hl
                              refine lv_iload hx hb dX12_walkBy_375 (lv_at hl 10 rfl) ?_
                              refine lv_aload_n hx hb dX12_walkBy_377 rfl (lv_at hl 0 rfl) ?_
                              refine m_geti G X 4 rfl (hwd _ mk_45) rfl dX12_walkBy_378 ?_
                              refine gi_eq (a := (σ.1 4)) rfl ?_
                              refine gn_icmp_ge (tgt := 405) hx hb dX12_walkBy_381 (by decide) (by omega) (by omega) (fun c_381 => ?_) (fun c_381 => ?_)
                              ·
                                refine lv_goto (tgt := 78) hx hb dX12_walkBy_405 (by decide) ?_
                                refine lv_iload hx hb dX12_walkBy_78 (lv_at hl 6 rfl) ?_
                                refine lv_aload_n hx hb dX12_walkBy_80 rfl (lv_at hl 0 rfl) ?_
                                refine m_geta G X 6 rfl (hwd _ mk_8) rfl dX12_walkBy_81 ?_
                                refine lv_iload_n hx hb dX12_walkBy_84 rfl (lv_at hl 1 rfl) ?_
                                refine m_iald G X 6 rfl (i := xw) (by show _ < 5; omega) (by omega) dX12_walkBy_85 ?_
                                refine gi_eq (a := (σ.2 6 xw)) rfl ?_
                                refine gn_icmp_eq (tgt := 408) hx hb dX12_walkBy_86 (by decide) (by omega) (by omega) (fun c_86 => ?_) (fun c_86 => ?_)
                                ·
                                  exact fin _ _ _ _ (zw σ (zcp (σ.2 5) (zset (σ.1 4) m2) o1) v0 a1 mi2 as1 go2 1 se1) (⟨_, v0, a1, se1, by have h9 := hz2; unfold zthen at h9; rw [if_pos hz0, if_pos han0] at h9; rw [← h9]⟩) X dX12_walkBy_408
                                ·
                                  refine lv_aload_n hx hb dX12_walkBy_89 rfl (lv_at hl 0 rfl) ?_
                                  refine m_geti G X 33 rfl (hwd _ mk_215) rfl dX12_walkBy_90 ?_
                                  refine gi_eq (a := 1) rfl ?_
                                  refine gn_if_ne (tgt := 408) hx hb dX12_walkBy_93 (by decide) (by omega) (fun c_93 => ?_) (fun c_93 => ?_)
                                  ·
                                    exact fin _ _ _ _ (zw σ (zcp (σ.2 5) (zset (σ.1 4) m2) o1) v0 a1 mi2 as1 go2 1 se1) (⟨_, v0, a1, se1, by have h9 := hz2; unfold zthen at h9; rw [if_pos hz0, if_pos han0] at h9; rw [← h9]⟩) X dX12_walkBy_408
                                  · exact absurd c_93 (by decide)
                              ·
                                have hkc := kworld o1 c_381
                                refine lv_aload_n hx hb dX12_walkBy_384 rfl (lv_at hl 0 rfl) ?_
                                refine m_geta G X 29 rfl (hwd _ mk_24) rfl dX12_walkBy_385 ?_
                                refine lv_iload hx hb dX12_walkBy_388 (lv_at hl 10 rfl) ?_
                                refine lv_aload_n hx hb dX12_walkBy_390 rfl (lv_at hl 0 rfl) ?_
                                refine m_geta G X 5 rfl (hwd _ mk_7) rfl dX12_walkBy_391 ?_
                                refine lv_iload hx hb dX12_walkBy_394 (lv_at hl 10 rfl) ?_
                                refine m_iald G X 5 rfl (i := o1) (by show _ < 5; omega) (by omega) dX12_walkBy_396 ?_
                                refine gi_eq (a := (σ.2 5 o1)) rfl ?_
                                refine gn_i2l hx hb dX12_walkBy_397 (by omega) ?_
                                refine m_last G X 29 rfl (i := o1) (v := (σ.2 5 o1)) (by show _ < 5; omega) (by omega) dX12_walkBy_398 (fun H locs X => ?_)
                                replace X := wh_eq zw_E29 X
                                refine lv_iinc (v := nI (o1 + 1)) (lv' := [(12, .int (nI (o1 + 1))), (0, .ref o), (1, .int (nI xw)), (2, .int (nI xc)), (3, .int (nI xr)), (4, .int (nI xf)), (5, .int (nI xz)), (6, .int (nI pl2)), (7, .int (nI an + Int32.ofInt (-1))), (8, .int (nI ca2)), (9, .int (nI (s1 + 1)))]) hx hb dX12_walkBy_399 hl (k := 10) rfl (zn_inc _) (by decide) rfl (fun ls hl => ?_)
                                refine lv_goto (tgt := 375) hx hb dX12_walkBy_402 (by decide) ?_
                                refine ih_375 (o1 + 1) (by omega) (by omega) _ _ _ (by exact wh_eq (zw_c (zcp_1 rfl) rfl rfl rfl rfl rfl rfl rfl) X) (by exact lv_sub hl [1, 2, 3, 4, 5, 6, 7, 8, 9, 10, 0] rfl)
                          refine cut_375 _ 0 (Nat.zero_le _) (Nat.lt_succ_self _) _ _ _ (by exact wh_eq (zw_c (funext fun a9 => (zcp_out (Nat.zero_le a9)).symm) rfl rfl rfl rfl rfl rfl rfl) X) (by exact lv_sub hl [3, 4, 5, 6, 7, 8, 9, 1, 10, 2, 0] rfl)
                    refine lv_aload_n hx hb dX12_walkBy_167 rfl (lv_at hl 1 rfl) ?_
                    refine ctI_V (wf := []) (As := []) (rest := []) (n := 0) hx hb hml hown hts hK hA (ap_nil X) hl.1 (m_recv G X) (c_likeliest hcl ht0 ht1 (σ := (zw σ m1 v0 a1 mi1 as1 go 0 se1))  (hok) (fun w9 hw9 => Nat.lt_of_le_of_lt (hm1B w9 hw9) (by decide))) (cwV 0 hts (mg_V mk_157 mk_162 mk_163 mk_164 mk_43) rfl rfl rfl (by decide +kernel) ⟨Nat.le_of_ble_eq_true rfl, Nat.le_of_ble_eq_true rfl⟩) rfl (Nat.le_of_ble_eq_true rfl) dX12_walkBy_168 ⟨Nat.le_refl _, Nat.le_refl _⟩ (fun H locs X => ?_)
                    replace X := ap_nil' X
                    refine gi_raw (y := (nI (zbest (m1) ((σ.1 4))))) rfl ?_
                    obtain ⟨l1, hl1⟩ : ∃ l1, l1 = zbest m1 (σ.1 4) := ⟨_, rfl⟩
                    refine gi_eq (a := l1) (hl1.symm) ?_
                    refine lv_istore (lv' := [(10, .int (nI l1)), (8, .int (nI 0)), (0, .ref o), (1, .int (nI xw)), (2, .int (nI xc)), (3, .int (nI xr)), (4, .int (nI xf)), (5, .int (nI xz)), (6, .int (nI pl)), (7, .int (nI an)), (9, .int (nI s1))]) hx hb dX12_walkBy_171 hl (by decide) rfl (fun ls hl => ?_)
                    have hl9 : l1 < σ.1 4 := by rw [hl1]; exact zbest_lt m1 (σ.1 4) (by omega)
                    have hkl := kworld l1 hl9
                    refine lv_aload_n hx hb dX12_walkBy_173 rfl (lv_at hl 2 rfl) ?_
                    refine m_geta G X 6 rfl (hwd _ mk_8) rfl dX12_walkBy_174 ?_
                    refine lv_iload hx hb dX12_walkBy_177 (lv_at hl 0 rfl) ?_
                    refine m_iald G X 6 rfl (i := l1) (by show _ < 5; omega) (by omega) dX12_walkBy_179 ?_
                    refine gi_eq (a := (σ.2 6 l1)) rfl ?_
                    refine lv_iload hx hb dX12_walkBy_180 (lv_at hl 8 rfl) ?_
                    refine gn_icmp_ne (tgt := 190) hx hb dX12_walkBy_182 (by decide) (by omega) (by omega) (fun c_182 => ?_) (fun c_182 => ?_)
                    ·
                      have hgl : ¬ σ.2 6 l1 = pl := c_182
                      refine lv_aload_n hx hb dX12_walkBy_190 rfl (lv_at hl 2 rfl) ?_
                      refine lv_iload hx hb dX12_walkBy_191 (lv_at hl 0 rfl) ?_
                      refine lv_iload hx hb dX12_walkBy_193 (lv_at hl 8 rfl) ?_
                      refine ctI_V (wf := []) (As := [.int (nI l1), .int (nI pl)]) (rest := []) (n := 2) hx hb hml hown hts hK hA (ap_nil X) hl.1 (m_recv G X) (c_nextRoad hcl ht0 ht1 (σ := (zw σ m1 v0 a1 mi1 as1 go 0 se1)) l1 pl (hok) (hl9) (by omega) (hW)) (cwV 2 hts (mg_V mk_124 mk_132 mk_133 mk_134 mk_43) rfl rfl rfl (by decide +kernel) ⟨Nat.le_of_ble_eq_true rfl, Nat.le_of_ble_eq_true rfl⟩) rfl (Nat.le_of_ble_eq_true rfl) dX12_walkBy_195 ⟨Nat.le_refl _, Nat.le_refl _⟩ (fun H locs X => ?_)
                      replace X := ap_nil' X
                      refine gi_raw (y := (znext σ l1 pl)) rfl ?_
                      by_cases en : znext σ l1 pl = -4
                      ·
                        refine gi_raw (y := (-4)) en ?_
                        refine lv_istore (lv' := [(11, .int (-4)), (10, .int (nI l1)), (8, .int (nI 0)), (0, .ref o), (1, .int (nI xw)), (2, .int (nI xc)), (3, .int (nI xr)), (4, .int (nI xf)), (5, .int (nI xz)), (6, .int (nI pl)), (7, .int (nI an)), (9, .int (nI s1))]) hx hb dX12_walkBy_198 hl (by decide) rfl (fun ls hl => ?_)
                        refine lv_aload_n hx hb dX12_walkBy_200 rfl (lv_at hl 3 rfl) ?_
                        refine m_geta G X 6 rfl (hwd _ mk_8) rfl dX12_walkBy_201 ?_
                        refine lv_iload hx hb dX12_walkBy_204 (lv_at hl 1 rfl) ?_
                        refine m_iald G X 6 rfl (i := l1) (by show _ < 5; omega) (by omega) dX12_walkBy_206 ?_
                        refine gi_eq (a := (σ.2 6 l1)) rfl ?_
                        refine lv_iload hx hb dX12_walkBy_207 (lv_at hl 9 rfl) ?_
                        refine gn_icmp_ne (tgt := 263) hx hb dX12_walkBy_209 (by decide) (by omega) (by omega) (fun c_209 => ?_) (fun c_209 => ?_)
                        ·
                          refine lv_iload hx hb dX12_walkBy_263 (lv_at hl 0 rfl) ?_
                          refine lv_if_ge (tgt := 279) hx hb dX12_walkBy_265 (by decide) (fun c_265 => ?_) (fun c_265 => ?_)
                          · exact absurd c_265 (by decide)
                          ·
                            refine lv_aload_n hx hb dX12_walkBy_268 rfl (lv_at hl 3 rfl) ?_
                            refine m_geta G X 29 rfl (hwd _ mk_24) rfl dX12_walkBy_269 ?_
                            refine lv_iload hx hb dX12_walkBy_272 (lv_at hl 1 rfl) ?_
                            refine lv_lconst (v := lN 0) hx hb dX12_walkBy_274 (by decide) ?_
                            refine m_last G X 29 rfl (i := l1) (v := 0) (by show _ < 5; omega) (by omega) dX12_walkBy_275 (fun H locs X => ?_)
                            replace X := wh_eq zw_E29 X
                            refine lv_goto (tgt := 345) hx hb dX12_walkBy_276 (by decide) ?_
                            refine cut_345 (fun a1 => if a1 = l1 then 0 else m1 a1) mi1 go pl 0 (fun w9 hw9 => zite_le (hm1B w9 hw9)) (by omega) (by decide) (⟨k - 1, by omega, by have h9 := h1 (k - 1) (by omega); unfold zaft at h9; rw [zstep_none hl1 hgl en] at h9; exact h9⟩) _ _ _ (by exact X) (by exact lv_sub hl [3, 4, 5, 6, 7, 8, 9, 10, 2, 11] rfl)
                        ·
                          exact absurd c_209 hgl
                      obtain ⟨r1, hr1⟩ : ∃ r1, r1 = zfirst (znextP σ l1 pl) (σ.1 0) := ⟨_, rfl⟩
                      obtain ⟨hn1, hn2, hn3⟩ := znext_r en
                      rw [← hr1] at hn1 hn2 hn3
                      refine gi_to (a := r1) hn1 ?_
                      have hkr := kroad r1 hn2
                      have hbe := (of_decide_eq_true hn3).1
                      refine lv_istore (lv' := [(11, .int (nI r1)), (10, .int (nI l1)), (8, .int (nI 0)), (0, .ref o), (1, .int (nI xw)), (2, .int (nI xc)), (3, .int (nI xr)), (4, .int (nI xf)), (5, .int (nI xz)), (6, .int (nI pl)), (7, .int (nI an)), (9, .int (nI s1))]) hx hb dX12_walkBy_198 hl (by decide) rfl (fun ls hl => ?_)
                      refine lv_aload_n hx hb dX12_walkBy_200 rfl (lv_at hl 3 rfl) ?_
                      refine m_geta G X 6 rfl (hwd _ mk_8) rfl dX12_walkBy_201 ?_
                      refine lv_iload hx hb dX12_walkBy_204 (lv_at hl 1 rfl) ?_
                      refine m_iald G X 6 rfl (i := l1) (by show _ < 5; omega) (by omega) dX12_walkBy_206 ?_
                      refine gi_eq (a := (σ.2 6 l1)) rfl ?_
                      refine lv_iload hx hb dX12_walkBy_207 (lv_at hl 9 rfl) ?_
                      refine gn_icmp_ne (tgt := 263) hx hb dX12_walkBy_209 (by decide) (by omega) (by omega) (fun c_209 => ?_) (fun c_209 => ?_)
                      ·
                        refine lv_iload hx hb dX12_walkBy_263 (lv_at hl 0 rfl) ?_
                        refine gn_if_ge (tgt := 279) hx hb dX12_walkBy_265 (by decide) (by omega) ?_
                        refine lv_aload_n hx hb dX12_walkBy_279 rfl (lv_at hl 3 rfl) ?_
                        refine lv_iload_n hx hb dX12_walkBy_280 rfl (lv_at hl 4 rfl) ?_
                        refine lv_iload hx hb dX12_walkBy_281 (lv_at hl 0 rfl) ?_
                        refine ctI_V (wf := []) (As := [.int (nI xw), .int (nI r1)]) (rest := []) (n := 2) hx hb hml hown hts hK hA (ap_nil X) hl.1 (m_recv G X) (c_isShut hcl ht0 ht1 (σ := (zw σ m1 v0 a1 mi1 as1 go 0 se1)) xw r1 (hok) (hw) (by omega)) (cwV 2 hts (mg_V mk_113 mk_117 mk_118 mk_119 mk_43) rfl rfl rfl (by decide +kernel) ⟨Nat.le_of_ble_eq_true rfl, Nat.le_of_ble_eq_true rfl⟩) rfl (Nat.le_of_ble_eq_true rfl) dX12_walkBy_283 ⟨Nat.le_refl _, Nat.le_refl _⟩ (fun H locs X => ?_)
                        replace X := ap_nil' X
                        refine gi_raw (y := (if zshut σ xw r1 then 1 else 0)) rfl ?_
                        refine gb_if_eq (tgt := 299) hx hb dX12_walkBy_286 (by decide) (fun c_286 => ?_) (fun c_286 => ?_)
                        ·
                          refine lv_aload_n hx hb dX12_walkBy_299 rfl (lv_at hl 3 rfl) ?_
                          refine lv_dup hx hb dX12_walkBy_300 rfl ?_
                          refine m_geti G X 30 rfl (hwd _ mk_198) rfl dX12_walkBy_301 ?_
                          refine gi_eq (a := mi1) rfl ?_
                          refine lv_aload_n hx hb dX12_walkBy_304 rfl (lv_at hl 3 rfl) ?_
                          refine m_geta G X 3 rfl (hwd _ mk_6) rfl dX12_walkBy_305 ?_
                          refine lv_iload hx hb dX12_walkBy_308 (lv_at hl 0 rfl) ?_
                          refine m_iald G X 3 rfl (i := r1) (by show _ < 16; omega) (by omega) dX12_walkBy_310 ?_
                          refine gi_eq (a := (σ.2 3 r1)) rfl ?_
                          refine gn_iadd hx hb dX12_walkBy_311  ?_
                          refine m_puti G X 30 rfl (hwd _ mk_198) rfl (ty := .int) (by decide +kernel) rfl rfl dX12_walkBy_312 (fun H locs X => ?_)
                          replace X := wh_eq (zw_F30 (x := (mi1 + (σ.2 3 r1)))) X
                          refine lv_aload_n hx hb dX12_walkBy_315 rfl (lv_at hl 3 rfl) ?_
                          refine lv_iload hx hb dX12_walkBy_316 (lv_at hl 0 rfl) ?_
                          refine lv_iload hx hb dX12_walkBy_318 (lv_at hl 9 rfl) ?_
                          refine ctI_V (wf := []) (As := [.int (nI r1), .int (nI pl)]) (rest := []) (n := 2) hx hb hml hown hts hK hA (ap_nil X) hl.1 (m_recv G X) (c_otherEnd hcl ht0 ht1 (σ := (zw σ m1 v0 a1 (mi1 + (σ.2 3 r1)) as1 go 0 se1)) r1 pl (hok) (hn2) (by omega)) (cwV 2 hts (mg_V mk_123 mk_125 mk_126 mk_127 mk_43) rfl rfl rfl (by decide +kernel) ⟨Nat.le_of_ble_eq_true rfl, Nat.le_of_ble_eq_true rfl⟩) rfl (Nat.le_of_ble_eq_true rfl) dX12_walkBy_320 ⟨Nat.le_refl _, Nat.le_refl _⟩ (fun H locs X => ?_)
                          replace X := ap_nil' X
                          refine gi_raw (y := (if (σ.2 1) r1 = pl then nI ((σ.2 2) r1) else if (σ.2 2) r1 = pl then nI ((σ.2 1) r1) else -1)) rfl ?_
                          by_cases e1 : σ.2 1 r1 = pl
                          ·
                            refine gi_raw (y := nI (σ.2 2 r1)) (if_pos e1) ?_
                            refine lv_istore (lv' := [(6, .int (nI (σ.2 2 r1))), (11, .int (nI r1)), (10, .int (nI l1)), (8, .int (nI 0)), (0, .ref o), (1, .int (nI xw)), (2, .int (nI xc)), (3, .int (nI xr)), (4, .int (nI xf)), (5, .int (nI xz)), (7, .int (nI an)), (9, .int (nI s1))]) hx hb dX12_walkBy_323 hl (by decide) rfl (fun ls hl => ?_)
                            refine lv_aload_n hx hb dX12_walkBy_325 rfl (lv_at hl 4 rfl) ?_
                            refine lv_dup hx hb dX12_walkBy_326 rfl ?_
                            refine m_geti G X 32 rfl (hwd _ mk_214) rfl dX12_walkBy_327 ?_
                            refine gi_eq (a := go) rfl ?_
                            refine lv_iconst (v := nI 1) hx hb dX12_walkBy_330 (by decide) ?_
                            refine gn_iadd hx hb dX12_walkBy_331  ?_
                            refine m_puti G X 32 rfl (hwd _ mk_214) rfl (ty := .int) (by decide +kernel) rfl rfl dX12_walkBy_332 (fun H locs X => ?_)
                            replace X := wh_eq (zw_F32 (x := (go + 1))) X
                            refine lv_iconst (v := nI 1) hx hb dX12_walkBy_335 (by decide) ?_
                            refine lv_istore (lv' := [(8, .int (nI 1)), (6, .int (nI (σ.2 2 r1))), (11, .int (nI r1)), (10, .int (nI l1)), (0, .ref o), (1, .int (nI xw)), (2, .int (nI xc)), (3, .int (nI xr)), (4, .int (nI xf)), (5, .int (nI xz)), (7, .int (nI an)), (9, .int (nI s1))]) hx hb dX12_walkBy_336 hl (by decide) rfl (fun ls hl => ?_)
                            refine lv_aload_n hx hb dX12_walkBy_338 rfl (lv_at hl 4 rfl) ?_
                            refine lv_iload hx hb dX12_walkBy_339 (lv_at hl 2 rfl) ?_
                            refine lv_iconst (v := nI 1) hx hb dX12_walkBy_341 (by decide) ?_
                            refine ctV_V (wf := []) (As := [.int (nI r1), .int (nI 1)]) (rest := []) (n := 2) hx hb hml hown hts hK hA (ap_nil X) hl.1 (m_recv G X) (c_see hcl ht0 ht1 (σ := (zw σ m1 v0 a1 (mi1 + (σ.2 3 r1)) as1 (go + 1) 0 se1)) r1 1 (hok) ((by omega)) (by omega)) (cwV 2 hts (mg_V mk_180 mk_181 mk_182 mk_183 mk_43) rfl rfl rfl (by decide +kernel) ⟨Nat.le_of_ble_eq_true rfl, Nat.le_of_ble_eq_true rfl⟩) rfl (Nat.le_of_ble_eq_true rfl) dX12_walkBy_342 ⟨Nat.le_refl _, Nat.le_refl _⟩ (fun H locs X => ?_)
                            replace X := ap_nil' X
                            replace X := wh_eq (zw_A29 (g := zcp (zseeM σ (m1) r1 1) (m1) ((σ.1 4)))) X
                            refine cut_345 (zcp (zseeM σ (m1) r1 1) (m1) ((σ.1 4))) (mi1 + (σ.2 3 r1)) (go + 1) (σ.2 2 r1) 1 (zcp_le (fun w9 hw9 => zite_le (hm1B w9 hw9))) (by omega) (by decide) (⟨k - 1, by omega, by have h9 := h1 (k - 1) (by omega); unfold zaft at h9; rw [zstep_goA hl1 hgl en hr1 c_286 e1] at h9; exact h9⟩) _ _ _ (by exact X) (by exact lv_sub hl [4, 5, 6, 7, 8, 9, 1, 10, 0, 11] rfl)
                          have e2 : σ.2 2 r1 = pl := by omega
                          refine gi_raw (y := nI (σ.2 1 r1)) (by rw [if_neg e1, if_pos e2]) ?_
                          refine lv_istore (lv' := [(6, .int (nI (σ.2 1 r1))), (11, .int (nI r1)), (10, .int (nI l1)), (8, .int (nI 0)), (0, .ref o), (1, .int (nI xw)), (2, .int (nI xc)), (3, .int (nI xr)), (4, .int (nI xf)), (5, .int (nI xz)), (7, .int (nI an)), (9, .int (nI s1))]) hx hb dX12_walkBy_323 hl (by decide) rfl (fun ls hl => ?_)
                          refine lv_aload_n hx hb dX12_walkBy_325 rfl (lv_at hl 4 rfl) ?_
                          refine lv_dup hx hb dX12_walkBy_326 rfl ?_
                          refine m_geti G X 32 rfl (hwd _ mk_214) rfl dX12_walkBy_327 ?_
                          refine gi_eq (a := go) rfl ?_
                          refine lv_iconst (v := nI 1) hx hb dX12_walkBy_330 (by decide) ?_
                          refine gn_iadd hx hb dX12_walkBy_331  ?_
                          refine m_puti G X 32 rfl (hwd _ mk_214) rfl (ty := .int) (by decide +kernel) rfl rfl dX12_walkBy_332 (fun H locs X => ?_)
                          replace X := wh_eq (zw_F32 (x := (go + 1))) X
                          refine lv_iconst (v := nI 1) hx hb dX12_walkBy_335 (by decide) ?_
                          refine lv_istore (lv' := [(8, .int (nI 1)), (6, .int (nI (σ.2 1 r1))), (11, .int (nI r1)), (10, .int (nI l1)), (0, .ref o), (1, .int (nI xw)), (2, .int (nI xc)), (3, .int (nI xr)), (4, .int (nI xf)), (5, .int (nI xz)), (7, .int (nI an)), (9, .int (nI s1))]) hx hb dX12_walkBy_336 hl (by decide) rfl (fun ls hl => ?_)
                          refine lv_aload_n hx hb dX12_walkBy_338 rfl (lv_at hl 4 rfl) ?_
                          refine lv_iload hx hb dX12_walkBy_339 (lv_at hl 2 rfl) ?_
                          refine lv_iconst (v := nI 1) hx hb dX12_walkBy_341 (by decide) ?_
                          refine ctV_V (wf := []) (As := [.int (nI r1), .int (nI 1)]) (rest := []) (n := 2) hx hb hml hown hts hK hA (ap_nil X) hl.1 (m_recv G X) (c_see hcl ht0 ht1 (σ := (zw σ m1 v0 a1 (mi1 + (σ.2 3 r1)) as1 (go + 1) 0 se1)) r1 1 (hok) ((by omega)) (by omega)) (cwV 2 hts (mg_V mk_180 mk_181 mk_182 mk_183 mk_43) rfl rfl rfl (by decide +kernel) ⟨Nat.le_of_ble_eq_true rfl, Nat.le_of_ble_eq_true rfl⟩) rfl (Nat.le_of_ble_eq_true rfl) dX12_walkBy_342 ⟨Nat.le_refl _, Nat.le_refl _⟩ (fun H locs X => ?_)
                          replace X := ap_nil' X
                          replace X := wh_eq (zw_A29 (g := zcp (zseeM σ (m1) r1 1) (m1) ((σ.1 4)))) X
                          refine cut_345 (zcp (zseeM σ (m1) r1 1) (m1) ((σ.1 4))) (mi1 + (σ.2 3 r1)) (go + 1) (σ.2 1 r1) 1 (zcp_le (fun w9 hw9 => zite_le (hm1B w9 hw9))) (by omega) (by decide) (⟨k - 1, by omega, by have h9 := h1 (k - 1) (by omega); unfold zaft at h9; rw [zstep_goB hl1 hgl en hr1 c_286 e1] at h9; exact h9⟩) _ _ _ (by exact X) (by exact lv_sub hl [4, 5, 6, 7, 8, 9, 1, 10, 0, 11] rfl)
                        ·
                          refine lv_aload_n hx hb dX12_walkBy_289 rfl (lv_at hl 3 rfl) ?_
                          refine lv_iload hx hb dX12_walkBy_290 (lv_at hl 0 rfl) ?_
                          refine lv_iconst (v := nI 0) hx hb dX12_walkBy_292 (by decide) ?_
                          refine ctV_V (wf := []) (As := [.int (nI r1), .int (nI 0)]) (rest := []) (n := 2) hx hb hml hown hts hK hA (ap_nil X) hl.1 (m_recv G X) (c_see hcl ht0 ht1 (σ := (zw σ m1 v0 a1 mi1 as1 go 0 se1)) r1 0 (hok) ((by omega)) (by omega)) (cwV 2 hts (mg_V mk_180 mk_181 mk_182 mk_183 mk_43) rfl rfl rfl (by decide +kernel) ⟨Nat.le_of_ble_eq_true rfl, Nat.le_of_ble_eq_true rfl⟩) rfl (Nat.le_of_ble_eq_true rfl) dX12_walkBy_293 ⟨Nat.le_refl _, Nat.le_refl _⟩ (fun H locs X => ?_)
                          replace X := ap_nil' X
                          replace X := wh_eq (zw_A29 (g := zcp (zseeM σ (m1) r1 0) (m1) ((σ.1 4)))) X
                          refine lv_goto (tgt := 345) hx hb dX12_walkBy_296 (by decide) ?_
                          refine cut_345 (zcp (zseeM σ (m1) r1 0) (m1) ((σ.1 4))) mi1 go pl 0 (zcp_le (fun w9 hw9 => zite_le (hm1B w9 hw9))) (by omega) (by decide) (⟨k - 1, by omega, by have h9 := h1 (k - 1) (by omega); unfold zaft at h9; rw [zstep_shut hl1 hgl en hr1 c_286] at h9; exact h9⟩) _ _ _ (by exact X) (by exact lv_sub hl [3, 4, 5, 6, 7, 8, 9, 10, 2, 11] rfl)
                      ·
                        exact absurd c_209 hgl
                    ·
                      have hgl : σ.2 6 l1 = pl := c_182
                      refine lv_bipush (v := (-4)) hx hb dX12_walkBy_185 (by decide) ?_
                      refine lv_goto (tgt := 198) hx hb dX12_walkBy_187 (by decide) ?_
                      refine lv_istore (lv' := [(11, .int (-4)), (10, .int (nI l1)), (8, .int (nI 0)), (0, .ref o), (1, .int (nI xw)), (2, .int (nI xc)), (3, .int (nI xr)), (4, .int (nI xf)), (5, .int (nI xz)), (6, .int (nI pl)), (7, .int (nI an)), (9, .int (nI s1))]) hx hb dX12_walkBy_198 hl (by decide) rfl (fun ls hl => ?_)
                      refine lv_aload_n hx hb dX12_walkBy_200 rfl (lv_at hl 3 rfl) ?_
                      refine m_geta G X 6 rfl (hwd _ mk_8) rfl dX12_walkBy_201 ?_
                      refine lv_iload hx hb dX12_walkBy_204 (lv_at hl 1 rfl) ?_
                      refine m_iald G X 6 rfl (i := l1) (by show _ < 5; omega) (by omega) dX12_walkBy_206 ?_
                      refine gi_eq (a := (σ.2 6 l1)) rfl ?_
                      refine lv_iload hx hb dX12_walkBy_207 (lv_at hl 9 rfl) ?_
                      refine gn_icmp_ne (tgt := 263) hx hb dX12_walkBy_209 (by decide) (by omega) (by omega) (fun c_209 => ?_) (fun c_209 => ?_)
                      ·
                        exact absurd hgl c_209
                      ·
                        refine lv_iconst (v := nI 0) hx hb dX12_walkBy_212 (by decide) ?_
                        refine lv_istore (lv' := [(12, .int (nI 0)), (11, .int (-4)), (10, .int (nI l1)), (8, .int (nI 0)), (0, .ref o), (1, .int (nI xw)), (2, .int (nI xc)), (3, .int (nI xr)), (4, .int (nI xf)), (5, .int (nI xz)), (6, .int (nI pl)), (7, .int (nI an)), (9, .int (nI s1))]) hx hb dX12_walkBy_213 hl (by decide) rfl (fun ls hl => ?_)
                        have cut_215 : ∀ (NN : Nat) (o1 : Nat) (ho1 : o1 ≤ σ.1 4), σ.1 4 - o1 < NN → ∀ (H : Heap) (locs : List Loc) (ls : Array Slot), wH D cl A s.heap H locs (mw o q ci cI cJ (zw σ (zcp (fun o9 => if σ.2 6 o9 = pl then 0 else m1 o9) m1 o1) v0 a1 mi1 as1 go 0 se1)) → lv_has ls 13 [(0, .ref o), (1, .int (nI xw)), (2, .int (nI xc)), (3, .int (nI xr)), (4, .int (nI xf)), (5, .int (nI xz)), (6, .int (nI pl)), (7, .int (nI an)), (8, .int (nI 0)), (9, .int (nI s1)), (12, .int (nI o1))] → W p l e { frames := 4, cells := 0, slots := 0, locals := 96 } s m args below meth c H locs 0 0 Q (F0 m 215 ls []) := by
                          intro NN
                          induction NN with
                          | zero => intro o1 ho1 hNN; exact absurd hNN (Nat.not_lt_zero _)
                          | succ NN ih_215 =>
                            intro o1 ho1 hNN H locs ls X hl
                            refine lv_iload hx hb dX12_walkBy_215 (lv_at hl 10 rfl) ?_
                            refine lv_aload_n hx hb dX12_walkBy_217 rfl (lv_at hl 0 rfl) ?_
                            refine m_geti G X 4 rfl (hwd _ mk_45) rfl dX12_walkBy_218 ?_
                            refine gi_eq (a := (σ.1 4)) rfl ?_
                            refine gn_icmp_ge (tgt := 260) hx hb dX12_walkBy_221 (by decide) (by omega) (by omega) (fun c_221 => ?_) (fun c_221 => ?_)
                            ·
                              refine lv_goto (tgt := 345) hx hb dX12_walkBy_260 (by decide) ?_
                              refine cut_345 (zcp (fun o9 => if σ.2 6 o9 = pl then 0 else m1 o9) m1 (σ.1 4)) mi1 go pl 0 (zcp_le (fun w9 hw9 => zite_le (hm1B w9 hw9))) (by omega) (by decide) (⟨k - 1, by omega, by have h9 := h1 (k - 1) (by omega); unfold zaft at h9; rw [zstep_goal hl1 hgl] at h9; exact h9⟩) _ _ _ (by exact wh_eq (zw_c (by rw [show o1 = σ.1 4 by omega]) rfl rfl rfl rfl rfl rfl rfl) X) (by exact lv_sub hl [0, 1, 2, 3, 4, 5, 6, 7, 8, 9] rfl)
                            ·
                              have hko := kworld o1 c_221
                              refine lv_aload_n hx hb dX12_walkBy_224 rfl (lv_at hl 0 rfl) ?_
                              refine m_geta G X 29 rfl (hwd _ mk_24) rfl dX12_walkBy_225 ?_
                              refine lv_iload hx hb dX12_walkBy_228 (lv_at hl 10 rfl) ?_
                              refine lv_aload_n hx hb dX12_walkBy_230 rfl (lv_at hl 0 rfl) ?_
                              refine m_geta G X 6 rfl (hwd _ mk_8) rfl dX12_walkBy_231 ?_
                              refine lv_iload hx hb dX12_walkBy_234 (lv_at hl 10 rfl) ?_
                              refine m_iald G X 6 rfl (i := o1) (by show _ < 5; omega) (by omega) dX12_walkBy_236 ?_
                              refine gi_eq (a := (σ.2 6 o1)) rfl ?_
                              refine lv_iload hx hb dX12_walkBy_237 (lv_at hl 6 rfl) ?_
                              refine gn_icmp_ne (tgt := 246) hx hb dX12_walkBy_239 (by decide) (by omega) (by omega) (fun c_239 => ?_) (fun c_239 => ?_)
                              ·
                                refine lv_aload_n hx hb dX12_walkBy_246 rfl (lv_at hl 0 rfl) ?_
                                refine m_geta G X 29 rfl (hwd _ mk_24) rfl dX12_walkBy_247 ?_
                                refine lv_iload hx hb dX12_walkBy_250 (lv_at hl 10 rfl) ?_
                                refine m_lald G X 29 rfl (i := o1) (by show _ < 5; omega) (by omega) dX12_walkBy_252 ?_
                                refine gl_eq (a := ((zcp (fun o9 => if σ.2 6 o9 = pl then 0 else m1 o9) m1 o1) o1)) rfl ?_
                                refine gl_eq (a := (m1 o1)) (zcp_out (Nat.le_refl _)) ?_
                                refine m_last G X 29 rfl (i := o1) (v := (m1 o1)) (by show _ < 5; omega) (by omega) dX12_walkBy_253 (fun H locs X => ?_)
                                replace X := wh_eq zw_E29 X
                                refine lv_iinc (v := nI (o1 + 1)) (lv' := [(12, .int (nI (o1 + 1))), (0, .ref o), (1, .int (nI xw)), (2, .int (nI xc)), (3, .int (nI xr)), (4, .int (nI xf)), (5, .int (nI xz)), (6, .int (nI pl)), (7, .int (nI an)), (8, .int (nI 0)), (9, .int (nI s1))]) hx hb dX12_walkBy_254 hl (k := 10) rfl (zn_inc _) (by decide) rfl (fun ls hl => ?_)
                                refine lv_goto (tgt := 215) hx hb dX12_walkBy_257 (by decide) ?_
                                refine ih_215 (o1 + 1) (by omega) (by omega) _ _ _ (by exact wh_eq (zw_c (zcp_1 (by first | exact (if_pos c_239).symm | exact (if_neg c_239).symm)) rfl rfl rfl rfl rfl rfl rfl) X) (by exact lv_sub hl [1, 2, 3, 4, 5, 6, 7, 8, 9, 10, 0] rfl)
                              ·
                                refine lv_lconst (v := lN 0) hx hb dX12_walkBy_242 (by decide) ?_
                                refine lv_goto (tgt := 253) hx hb dX12_walkBy_243 (by decide) ?_
                                refine m_last G X 29 rfl (i := o1) (v := 0) (by show _ < 5; omega) (by omega) dX12_walkBy_253 (fun H locs X => ?_)
                                replace X := wh_eq zw_E29 X
                                refine lv_iinc (v := nI (o1 + 1)) (lv' := [(12, .int (nI (o1 + 1))), (0, .ref o), (1, .int (nI xw)), (2, .int (nI xc)), (3, .int (nI xr)), (4, .int (nI xf)), (5, .int (nI xz)), (6, .int (nI pl)), (7, .int (nI an)), (8, .int (nI 0)), (9, .int (nI s1))]) hx hb dX12_walkBy_254 hl (k := 10) rfl (zn_inc _) (by decide) rfl (fun ls hl => ?_)
                                refine lv_goto (tgt := 215) hx hb dX12_walkBy_257 (by decide) ?_
                                refine ih_215 (o1 + 1) (by omega) (by omega) _ _ _ (by exact wh_eq (zw_c (zcp_1 (by first | exact (if_pos c_239).symm | exact (if_neg c_239).symm)) rfl rfl rfl rfl rfl rfl rfl) X) (by exact lv_sub hl [1, 2, 3, 4, 5, 6, 7, 8, 9, 10, 0] rfl)
                        refine cut_215 _ 0 (Nat.zero_le _) (Nat.lt_succ_self _) _ _ _ (by exact wh_eq (zw_c (funext fun a9 => (zcp_out (Nat.zero_le a9)).symm) rfl rfl rfl rfl rfl rfl rfl) X) (by exact lv_sub hl [4, 5, 6, 7, 8, 9, 10, 11, 3, 12, 0] rfl)
                ·
                  refine lv_iconst (v := nI 1) hx hb dX12_walkBy_152 (by decide) ?_
                  refine lv_goto (tgt := 157) hx hb dX12_walkBy_153 (by decide) ?_
                  refine m_puti G X 33 rfl (hwd _ mk_215) rfl (ty := .boolean) (by decide +kernel) (zb_nar (by omega)) (zb_fit (by omega)) dX12_walkBy_157 (fun H locs X => ?_)
                  replace X := wh_eq (zw_F33 (x := 1)) X
                  refine lv_aload_n hx hb dX12_walkBy_160 rfl (lv_at hl 1 rfl) ?_
                  refine m_geti G X 33 rfl (hwd _ mk_215) rfl dX12_walkBy_161 ?_
                  refine gi_eq (a := 1) rfl ?_
                  refine gn_if_ne (tgt := 78) hx hb dX12_walkBy_164 (by decide) (by omega) (fun c_164 => ?_) (fun c_164 => ?_)
                  ·
                    refine lv_iload hx hb dX12_walkBy_78 (lv_at hl 7 rfl) ?_
                    refine lv_aload_n hx hb dX12_walkBy_80 rfl (lv_at hl 1 rfl) ?_
                    refine m_geta G X 6 rfl (hwd _ mk_8) rfl dX12_walkBy_81 ?_
                    refine lv_iload_n hx hb dX12_walkBy_84 rfl (lv_at hl 2 rfl) ?_
                    refine m_iald G X 6 rfl (i := xw) (by show _ < 5; omega) (by omega) dX12_walkBy_85 ?_
                    refine gi_eq (a := (σ.2 6 xw)) rfl ?_
                    refine gn_icmp_eq (tgt := 408) hx hb dX12_walkBy_86 (by decide) (by omega) (by omega) (fun c_86 => ?_) (fun c_86 => ?_)
                    ·
                      exact fin _ _ _ _ (zw σ m1 v0 a1 mi1 as1 go 1 se1) (⟨m1, v0, a1, se1, by rw [← h0 (by omega)]⟩) X dX12_walkBy_408
                    ·
                      refine lv_aload_n hx hb dX12_walkBy_89 rfl (lv_at hl 1 rfl) ?_
                      refine m_geti G X 33 rfl (hwd _ mk_215) rfl dX12_walkBy_90 ?_
                      refine gi_eq (a := 1) rfl ?_
                      refine gn_if_ne (tgt := 408) hx hb dX12_walkBy_93 (by decide) (by omega) (fun c_93 => ?_) (fun c_93 => ?_)
                      ·
                        exact fin _ _ _ _ (zw σ m1 v0 a1 mi1 as1 go 1 se1) (⟨m1, v0, a1, se1, by rw [← h0 (by omega)]⟩) X dX12_walkBy_408
                      · exact absurd c_93 (by decide)
                  · exact absurd c_164 (by decide)
            refine lv_iload hx hb dX12_walkBy_96 (lv_at hl 8 rfl) ?_
            refine gn_if_eq (tgt := 133) hx hb dX12_walkBy_98 (by decide) (by omega) (fun c_98 => ?_) (fun c_98 => ?_)
            ·
              refine cut_133 m0 a0 mi as se (hmB) (fun hk => by subst hk; rw [← hres, zloop_0n c_86 (fun h9 => by first | exact absurd h9.1 (by omega) | (rcases h9.2 with h9 | h9; exact absurd h9 c_103; first | exact absurd h9.1 c_108 | exact c_117 h9.2))]) (fun k9 hk => by subst hk; rw [← hres, zloop_sn c_86 (fun h9 => by first | exact absurd h9.1 (by omega) | (rcases h9.2 with h9 | h9; exact absurd h9 c_103; first | exact absurd h9.1 c_108 | exact c_117 h9.2))]) _ _ _ (by exact X) (by exact lv_sub hl [0, 1, 2, 3, 4, 5, 6, 7, 9] rfl)
            ·
              refine lv_iload_n hx hb dX12_walkBy_101 rfl (lv_at hl 3 rfl) ?_
              refine lv_iconst (v := nI 3) hx hb dX12_walkBy_102 (by decide) ?_
              refine gn_icmp_eq (tgt := 120) hx hb dX12_walkBy_103 (by decide) (by omega) (by omega) (fun c_103 => ?_) (fun c_103 => ?_)
              ·
                refine lv_aload_n hx hb dX12_walkBy_120 rfl (lv_at hl 0 rfl) ?_
                refine lv_iload hx hb dX12_walkBy_121 (lv_at hl 6 rfl) ?_
                refine lv_aload_n hx hb dX12_walkBy_123 rfl (lv_at hl 0 rfl) ?_
                refine lv_iload hx hb dX12_walkBy_124 (lv_at hl 6 rfl) ?_
                refine lv_iload_n hx hb dX12_walkBy_126 rfl (lv_at hl 1 rfl) ?_
                refine ctI_V (wf := []) (As := [.int (nI pl), .int (nI xw)]) (rest := [.int (nI pl), .ref o]) (n := 2) hx hb hml hown hts hK hA (ap_nil X) hl.1 (m_recv G X) (c_ask hcl ht0 ht1 (σ := (zw σ m0 v0 a0 mi as go 0 se)) pl xw (hok) (by omega) (hw) (hW) (hp)) (cwV 2 hts (mg_V mk_197 mk_205 mk_206 mk_207 mk_43) rfl rfl rfl (by decide +kernel) ⟨Nat.le_of_ble_eq_true rfl, Nat.le_of_ble_eq_true rfl⟩) rfl (Nat.le_of_ble_eq_true rfl) dX12_walkBy_127 ⟨Nat.le_refl _, Nat.le_refl _⟩ (fun H locs X => ?_)
                replace X := ap_nil' X
                refine gi_raw (y := (nI (zans σ (znx (se)) pl xw))) rfl ?_
                replace X := wh_eq (zw_F30F31F34 (mi + (σ.1 13)) (as + 1) (znx se)) X
                refine ctV_V (wf := []) (As := [.int (nI pl), .int (nI (zans σ (znx (se)) pl xw))]) (rest := []) (n := 2) hx hb hml hown hts hK hA (ap_nil X) hl.1 (m_recv G X) (c_hearOnWay hcl ht0 ht1 (σ := (zw σ m0 v0 a0 (mi + (σ.1 13)) (as + 1) go 0 (znx se))) pl (zans σ (znx (se)) pl xw) (hok) (hmB) (by omega) (zans_lt hw) (hW) (hp)) (cwV 2 hts (mg_V mk_213 mk_222 mk_223 mk_224 mk_43) rfl rfl rfl (by decide +kernel) ⟨Nat.le_of_ble_eq_true rfl, Nat.le_of_ble_eq_true rfl⟩) rfl (Nat.le_of_ble_eq_true rfl) dX12_walkBy_130 ⟨Nat.le_refl _, Nat.le_refl _⟩ (fun H locs X => ?_)
                replace X := ap_nil' X
                replace X := wh_eq (zw_A36A29 (zcp (m0) (a0) (σ.1 4)) (zhowM σ (m0) pl (zans σ (znx (se)) pl xw))) X
                refine cut_133 (zhowM σ (m0) pl (zans σ (znx (se)) pl xw)) (zcp (m0) (a0) (σ.1 4)) (mi + (σ.1 13)) (as + 1) (znx se) (zhowM_le hok hpl hmB) (fun hk => by subst hk; rw [← hres, zloop_0a c_86 ⟨by omega, by first | exact Or.inl c_103 | exact Or.inr ⟨c_108, c_117⟩⟩]) (fun k9 hk => by subst hk; rw [← hres, zloop_sa c_86 ⟨by omega, by first | exact Or.inl c_103 | exact Or.inr ⟨c_108, c_117⟩⟩]) _ _ _ (by exact X) (by exact lv_sub hl [0, 1, 2, 3, 4, 5, 6, 7, 9] rfl)
              ·
                refine lv_iload_n hx hb dX12_walkBy_106 rfl (lv_at hl 3 rfl) ?_
                refine lv_iconst (v := nI 4) hx hb dX12_walkBy_107 (by decide) ?_
                refine gn_icmp_ne (tgt := 133) hx hb dX12_walkBy_108 (by decide) (by omega) (by omega) (fun c_108 => ?_) (fun c_108 => ?_)
                ·
                  refine cut_133 m0 a0 mi as se (hmB) (fun hk => by subst hk; rw [← hres, zloop_0n c_86 (fun h9 => by first | exact absurd h9.1 (by omega) | (rcases h9.2 with h9 | h9; exact absurd h9 c_103; first | exact absurd h9.1 c_108 | exact c_117 h9.2))]) (fun k9 hk => by subst hk; rw [← hres, zloop_sn c_86 (fun h9 => by first | exact absurd h9.1 (by omega) | (rcases h9.2 with h9 | h9; exact absurd h9 c_103; first | exact absurd h9.1 c_108 | exact c_117 h9.2))]) _ _ _ (by exact X) (by exact lv_sub hl [0, 1, 2, 3, 4, 5, 6, 7, 9] rfl)
                ·
                  refine lv_aload_n hx hb dX12_walkBy_111 rfl (lv_at hl 0 rfl) ?_
                  refine lv_iload hx hb dX12_walkBy_112 (lv_at hl 4 rfl) ?_
                  refine ctI_V (wf := []) (As := [.int (nI xf)]) (rest := []) (n := 1) hx hb hml hown hts hK hA (ap_nil X) hl.1 (m_recv G X) (c_doubts hcl ht0 ht1 (σ := (zw σ m0 v0 a0 mi as go 0 se)) xf (hok) (hmB) (Nat.lt_of_le_of_lt (Nat.zero_le _) hw) (by omega)) (cwV 1 hts (mg_V mk_212 mk_219 mk_220 mk_221 mk_43) rfl rfl rfl (by decide +kernel) ⟨Nat.le_of_ble_eq_true rfl, Nat.le_of_ble_eq_true rfl⟩) rfl (Nat.le_of_ble_eq_true rfl) dX12_walkBy_114 ⟨Nat.le_refl _, Nat.le_refl _⟩ (fun H locs X => ?_)
                  replace X := ap_nil' X
                  refine gi_raw (y := (if zdb σ (m0) xf then 1 else 0)) rfl ?_
                  refine gb_if_eq (tgt := 133) hx hb dX12_walkBy_117 (by decide) (fun c_117 => ?_) (fun c_117 => ?_)
                  ·
                    refine cut_133 m0 a0 mi as se (hmB) (fun hk => by subst hk; rw [← hres, zloop_0n c_86 (fun h9 => by first | exact absurd h9.1 (by omega) | (rcases h9.2 with h9 | h9; exact absurd h9 c_103; first | exact absurd h9.1 c_108 | exact c_117 h9.2))]) (fun k9 hk => by subst hk; rw [← hres, zloop_sn c_86 (fun h9 => by first | exact absurd h9.1 (by omega) | (rcases h9.2 with h9 | h9; exact absurd h9 c_103; first | exact absurd h9.1 c_108 | exact c_117 h9.2))]) _ _ _ (by exact X) (by exact lv_sub hl [0, 1, 2, 3, 4, 5, 6, 7, 9] rfl)
                  ·
                    refine lv_aload_n hx hb dX12_walkBy_120 rfl (lv_at hl 0 rfl) ?_
                    refine lv_iload hx hb dX12_walkBy_121 (lv_at hl 6 rfl) ?_
                    refine lv_aload_n hx hb dX12_walkBy_123 rfl (lv_at hl 0 rfl) ?_
                    refine lv_iload hx hb dX12_walkBy_124 (lv_at hl 6 rfl) ?_
                    refine lv_iload_n hx hb dX12_walkBy_126 rfl (lv_at hl 1 rfl) ?_
                    refine ctI_V (wf := []) (As := [.int (nI pl), .int (nI xw)]) (rest := [.int (nI pl), .ref o]) (n := 2) hx hb hml hown hts hK hA (ap_nil X) hl.1 (m_recv G X) (c_ask hcl ht0 ht1 (σ := (zw σ m0 v0 a0 mi as go 0 se)) pl xw (hok) (by omega) (hw) (hW) (hp)) (cwV 2 hts (mg_V mk_197 mk_205 mk_206 mk_207 mk_43) rfl rfl rfl (by decide +kernel) ⟨Nat.le_of_ble_eq_true rfl, Nat.le_of_ble_eq_true rfl⟩) rfl (Nat.le_of_ble_eq_true rfl) dX12_walkBy_127 ⟨Nat.le_refl _, Nat.le_refl _⟩ (fun H locs X => ?_)
                    replace X := ap_nil' X
                    refine gi_raw (y := (nI (zans σ (znx (se)) pl xw))) rfl ?_
                    replace X := wh_eq (zw_F30F31F34 (mi + (σ.1 13)) (as + 1) (znx se)) X
                    refine ctV_V (wf := []) (As := [.int (nI pl), .int (nI (zans σ (znx (se)) pl xw))]) (rest := []) (n := 2) hx hb hml hown hts hK hA (ap_nil X) hl.1 (m_recv G X) (c_hearOnWay hcl ht0 ht1 (σ := (zw σ m0 v0 a0 (mi + (σ.1 13)) (as + 1) go 0 (znx se))) pl (zans σ (znx (se)) pl xw) (hok) (hmB) (by omega) (zans_lt hw) (hW) (hp)) (cwV 2 hts (mg_V mk_213 mk_222 mk_223 mk_224 mk_43) rfl rfl rfl (by decide +kernel) ⟨Nat.le_of_ble_eq_true rfl, Nat.le_of_ble_eq_true rfl⟩) rfl (Nat.le_of_ble_eq_true rfl) dX12_walkBy_130 ⟨Nat.le_refl _, Nat.le_refl _⟩ (fun H locs X => ?_)
                    replace X := ap_nil' X
                    replace X := wh_eq (zw_A36A29 (zcp (m0) (a0) (σ.1 4)) (zhowM σ (m0) pl (zans σ (znx (se)) pl xw))) X
                    refine cut_133 (zhowM σ (m0) pl (zans σ (znx (se)) pl xw)) (zcp (m0) (a0) (σ.1 4)) (mi + (σ.1 13)) (as + 1) (znx se) (zhowM_le hok hpl hmB) (fun hk => by subst hk; rw [← hres, zloop_0a c_86 ⟨by omega, by first | exact Or.inl c_103 | exact Or.inr ⟨c_108, c_117⟩⟩]) (fun k9 hk => by subst hk; rw [← hres, zloop_sa c_86 ⟨by omega, by first | exact Or.inl c_103 | exact Or.inr ⟨c_108, c_117⟩⟩]) _ _ _ (by exact X) (by exact lv_sub hl [0, 1, 2, 3, 4, 5, 6, 7, 9] rfl)
    refine lv_iload hx hb dX12_walkBy_54 (lv_at hl 7 rfl) ?_
    refine lv_aload_n hx hb dX12_walkBy_56 rfl (lv_at hl 1 rfl) ?_
    refine m_geta G X 6 rfl (hwd _ mk_8) rfl dX12_walkBy_57 ?_
    refine lv_iload_n hx hb dX12_walkBy_60 rfl (lv_at hl 2 rfl) ?_
    refine m_iald G X 6 rfl (i := xw) (by show _ < 5; omega) (by omega) dX12_walkBy_61 ?_
    refine gi_eq (a := (σ.2 6 xw)) rfl ?_
    refine gn_icmp_eq (tgt := 75) hx hb dX12_walkBy_62 (by decide) (by omega) (by omega) (fun c_62 => ?_) (fun c_62 => ?_)
    ·
      refine lv_iconst (v := nI 0) hx hb dX12_walkBy_75 (by decide) ?_
      refine lv_istore (lv' := [(9, .int (nI 0)), (8, .int (nI 1)), (0, .ref o), (1, .int (nI xw)), (2, .int (nI xc)), (3, .int (nI xr)), (4, .int (nI xf)), (5, .int (nI xz)), (6, .int (nI xc)), (7, .int (nI an0))]) hx hb dX12_walkBy_76 hl (by decide) rfl (fun ls hl => ?_)
      refine cut_78 _ 200 (σ.2 29) (σ.2 35) (σ.2 36) 0 0 0 xz xc an0 1 0 (by omega) (hB) (hc) (by rw [han0]; split <;> omega) (by omega) (by unfold zwalk; rw [if_pos c_62, zloop_there c_62]) (Nat.lt_succ_self _) _ _ _ (by exact X) (by exact lv_sub hl [2, 3, 4, 5, 6, 7, 8, 9, 1, 0] rfl)
    ·
      refine lv_aload_n hx hb dX12_walkBy_65 rfl (lv_at hl 1 rfl) ?_
      refine lv_iload_n hx hb dX12_walkBy_66 rfl (lv_at hl 2 rfl) ?_
      refine lv_iload hx hb dX12_walkBy_67 (lv_at hl 7 rfl) ?_
      refine lv_iload_n hx hb dX12_walkBy_69 rfl (lv_at hl 4 rfl) ?_
      refine lv_iload hx hb dX12_walkBy_70 (lv_at hl 5 rfl) ?_
      refine ctVP_V (wf := []) (As := [.int (nI xw), .int (nI xc), .int (nI xr), .int (nI xf)]) (rest := []) (n := 4) hx hb hml hown hts hK hA (ap_nil X) hl.1 (m_recv G X) (c_begin hcl ht0 ht1 (σ := (zw σ (σ.2 29) (σ.2 35) (σ.2 36) 0 0 0 0 xz)) xw xc xr xf (hok) (hw) (by omega) (by omega) (by omega) (hW) (hp)) (cwV 4 hts (mg_V mk_211 mk_216 mk_217 mk_218 mk_43) rfl rfl rfl (by decide +kernel) ⟨Nat.le_of_ble_eq_true rfl, Nat.le_of_ble_eq_true rfl⟩) rfl (Nat.le_of_ble_eq_true rfl) dX12_walkBy_72 ⟨Nat.le_refl _, Nat.le_refl _⟩ (fun H locs u_72 hu_72 X => ?_)
      replace X := ap_nil' X
      obtain ⟨v_72, rfl⟩ := hu_72
      rw [ztold_zw] at X
      replace X := wh_eq (σ' := (zw σ (zbmind σ (σ.2 29) (ztold σ (xz) xc xw xr xf)) v_72 (σ.2 36) (0 + zasks xr xf * σ.1 13) (0 + zasks xr xf) 0 0 (zsd (xz) (zasks xr xf)))) zw_zw X
      refine lv_iconst (v := nI 0) hx hb dX12_walkBy_75 (by decide) ?_
      refine lv_istore (lv' := [(9, .int (nI 0)), (8, .int (nI 1)), (0, .ref o), (1, .int (nI xw)), (2, .int (nI xc)), (3, .int (nI xr)), (4, .int (nI xf)), (5, .int (nI xz)), (6, .int (nI xc)), (7, .int (nI an0))]) hx hb dX12_walkBy_76 hl (by decide) rfl (fun ls hl => ?_)
      refine cut_78 _ 200 (zbmind σ (σ.2 29) (ztold σ (xz) xc xw xr xf)) v_72 (σ.2 36) (0 + zasks xr xf * σ.1 13) (0 + zasks xr xf) 0 (zsd (xz) (zasks xr xf)) xc an0 1 0 (by omega) (zbmind_le hB) (hc) (by rw [han0]; split <;> omega) (by omega) (by unfold zwalk; rw [if_neg c_62, han0]) (Nat.lt_succ_self _) _ _ _ (by exact X) (by exact lv_sub hl [2, 3, 4, 5, 6, 7, 8, 9, 1, 0] rfl)
  refine lv_iload_n hx hb dX12_walkBy_29 rfl (lv_at hl 4 rfl) ?_
  refine lv_iconst (v := nI 1) hx hb dX12_walkBy_30 (by decide) ?_
  refine gn_icmp_eq (tgt := 44) hx hb dX12_walkBy_31 (by decide) (by omega) (by omega) (fun c_31 => ?_) (fun c_31 => ?_)
  ·
    refine lv_iconst (v := nI 1) hx hb dX12_walkBy_44 (by decide) ?_
    refine lv_goto (tgt := 49) hx hb dX12_walkBy_45 (by decide) ?_
    refine lv_istore (lv' := [(7, .int (nI 1)), (6, .int (nI xc)), (0, .ref o), (1, .int (nI xw)), (2, .int (nI xc)), (3, .int (nI xr)), (4, .int (nI xf)), (5, .int (nI xz))]) hx hb dX12_walkBy_49 hl (by decide) rfl (fun ls hl => ?_)
    refine cut_51 1 (by first | rw [if_pos (by omega)] | rw [if_neg (by omega)]) _ _ _ (by exact X) (by exact lv_sub hl [2, 3, 4, 5, 6, 7, 1, 0] rfl)
  ·
    refine lv_iload_n hx hb dX12_walkBy_34 rfl (lv_at hl 4 rfl) ?_
    refine lv_iconst (v := nI 2) hx hb dX12_walkBy_35 (by decide) ?_
    refine gn_icmp_eq (tgt := 44) hx hb dX12_walkBy_36 (by decide) (by omega) (by omega) (fun c_36 => ?_) (fun c_36 => ?_)
    ·
      refine lv_iconst (v := nI 1) hx hb dX12_walkBy_44 (by decide) ?_
      refine lv_goto (tgt := 49) hx hb dX12_walkBy_45 (by decide) ?_
      refine lv_istore (lv' := [(7, .int (nI 1)), (6, .int (nI xc)), (0, .ref o), (1, .int (nI xw)), (2, .int (nI xc)), (3, .int (nI xr)), (4, .int (nI xf)), (5, .int (nI xz))]) hx hb dX12_walkBy_49 hl (by decide) rfl (fun ls hl => ?_)
      refine cut_51 1 (by first | rw [if_pos (by omega)] | rw [if_neg (by omega)]) _ _ _ (by exact X) (by exact lv_sub hl [2, 3, 4, 5, 6, 7, 1, 0] rfl)
    ·
      refine lv_iload_n hx hb dX12_walkBy_39 rfl (lv_at hl 4 rfl) ?_
      refine lv_iconst (v := nI 5) hx hb dX12_walkBy_40 (by decide) ?_
      refine gn_icmp_ne (tgt := 48) hx hb dX12_walkBy_41 (by decide) (by omega) (by omega) (fun c_41 => ?_) (fun c_41 => ?_)
      ·
        refine lv_iconst (v := nI 0) hx hb dX12_walkBy_48 (by decide) ?_
        refine lv_istore (lv' := [(7, .int (nI 0)), (6, .int (nI xc)), (0, .ref o), (1, .int (nI xw)), (2, .int (nI xc)), (3, .int (nI xr)), (4, .int (nI xf)), (5, .int (nI xz))]) hx hb dX12_walkBy_49 hl (by decide) rfl (fun ls hl => ?_)
        refine cut_51 0 (by first | rw [if_pos (by omega)] | rw [if_neg (by omega)]) _ _ _ (by exact X) (by exact lv_sub hl [2, 3, 4, 5, 6, 7, 1, 0] rfl)
      ·
        refine lv_iconst (v := nI 1) hx hb dX12_walkBy_44 (by decide) ?_
        refine lv_goto (tgt := 49) hx hb dX12_walkBy_45 (by decide) ?_
        refine lv_istore (lv' := [(7, .int (nI 1)), (6, .int (nI xc)), (0, .ref o), (1, .int (nI xw)), (2, .int (nI xc)), (3, .int (nI xr)), (4, .int (nI xf)), (5, .int (nI xz))]) hx hb dX12_walkBy_49 hl (by decide) rfl (fun ls hl => ?_)
        refine cut_51 1 (by first | rw [if_pos (by omega)] | rw [if_neg (by omega)]) _ _ _ (by exact X) (by exact lv_sub hl [2, 3, 4, 5, 6, 7, 1, 0] rfl)
