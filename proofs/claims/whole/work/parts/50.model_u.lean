set_option maxHeartbeats 4000000 in
set_option maxRecDepth 100000 in
theorem c_worthBy {l : Launch} {D : va_G} {cl : List vw_C} {tys : List (ClassId × FieldType)} {o : Nat} {q : Nat → Nat} {ci : Nat} {cI cJ : ClassId} (hcl : cl[ci]? = some (RX12, TX12, 48)) (ht0 : tys[0]? = some (cI, .int)) (ht1 : tys[1]? = some (cJ, .long)) {σ : MS} (xc : Nat) (xp : Nat) (hok : mOk σ) (hc : xc < 8) (hp9 : xp ≤ 30) (hW : zWok (σ.2 27)) (hp : σ.1 28 < 8 ∨ σ.1 28 = 4294967295) (htb : ∀ w, w < σ.1 4 → σ.2 14 w ≤ 100000000000) : ctLP l D cl tys yX12_worthBy (Cond.code yX12_worthBy cX12_worthBy 11 (some .long) :: mW) { frames := 5, cells := 0, slots := 0, locals := 128 } [.ref o, .int (nI xc), .int (nI xp)] (mw o q ci cI cJ σ) (mw o q ci cI cJ) (zwsum σ xc xp (σ.1 4)) (fun u => ∃ m9 v9 a9 b1 b2 b3 b4 b5, u = zw σ m9 v9 a9 b1 b2 b3 b4 b5) := by
  refine ctLP_of (cc := cX12_worthBy) (maxL := 11) (by decide +kernel) rfl (Nat.le_of_ble_eq_true rfl) ?_
  intro p e s m args below meth c A Q ls hx hb hml hown hts hK hA X hl fin
  replace hown : s.vm.findClass RX12 = some m.cls := hown
  have hwd : ∀ w ∈ mW, w.before args s = true := fun w h => hts w (List.mem_cons_of_mem _ h)
  have G : mG p c cX12_worthBy s m args D cl tys ci cI cJ := ⟨hx, hb, hown, hwd, hK, hcl, ht0, ht1⟩
  replace hl : lv_has ls 11 [(0, .ref o), (1, .int (nI xc)), (2, .int (nI xp))] := hl
  obtain ⟨kr, kw, ks, kroad, kworld, ksort, kmet, ksum, kst, kco⟩ := id hok
  replace X := wh_eq (zw_self σ) X
  refine lv_lconst (v := lN 0) hx hb dX12_worthBy_0 (by decide) ?_
  refine lv_lstore_n (lv' := [(3, .long (lN 0)), (0, .ref o), (1, .int (nI xc)), (2, .int (nI xp))]) hx hb dX12_worthBy_1 rfl hl (by decide) rfl (fun ls hl => ?_)
  refine lv_iconst (v := nI 0) hx hb dX12_worthBy_2 (by decide) ?_
  refine lv_istore (lv' := [(5, .int (nI 0)), (3, .long (lN 0)), (0, .ref o), (1, .int (nI xc)), (2, .int (nI xp))]) hx hb dX12_worthBy_3 hl (by decide) rfl (fun ls hl => ?_)
  have cut_5 : ∀ (NN : Nat) (w1 : Nat) (mm : Nat → Nat) (vv : Nat → Nat) (aa : Nat → Nat) (x30 : Nat) (x31 : Nat) (x32 : Nat) (x33 : Nat) (x34 : Nat) (h1 : w1 ≤ σ.1 4), σ.1 4 - w1 < NN → ∀ (H : Heap) (locs : List Loc) (ls : Array Slot), wH D cl A s.heap H locs (mw o q ci cI cJ (zw σ mm vv aa x30 x31 x32 x33 x34)) → lv_has ls 11 [(0, .ref o), (1, .int (nI xc)), (2, .int (nI xp)), (3, .long (zwsum σ xc xp w1)), (5, .int (nI w1))] → W p l e { frames := 5, cells := 0, slots := 0, locals := 128 } s m args below meth c H locs 0 0 Q (F0 m 5 ls []) := by
    intro NN
    induction NN with
    | zero => intro w1 mm vv aa x30 x31 x32 x33 x34 h1 hNN; exact absurd hNN (Nat.not_lt_zero _)
    | succ NN ih_5 =>
      intro w1 mm vv aa x30 x31 x32 x33 x34 h1 hNN H locs ls X hl
      refine lv_iload hx hb dX12_worthBy_5 (lv_at hl 4 rfl) ?_
      refine lv_aload_n hx hb dX12_worthBy_7 rfl (lv_at hl 0 rfl) ?_
      refine m_geti G X 4 rfl (hwd _ mk_45) rfl dX12_worthBy_8 ?_
      refine gi_eq (a := (σ.1 4)) rfl ?_
      refine gn_icmp_ge (tgt := 183) hx hb dX12_worthBy_11 (by decide) (by omega) (by omega) (fun c_11 => ?_) (fun c_11 => ?_)
      ·
        refine lv_lload_n hx hb dX12_worthBy_183 rfl (lv_at hl 3 rfl) ?_
        exact finLP_of (by rw [show w1 = σ.1 4 by omega]) (u := (zw σ mm vv aa x30 x31 x32 x33 x34)) (⟨_, _, _, _, _, _, _, _, rfl⟩) X dX12_worthBy_184 fin
      ·
        refine lv_aload_n hx hb dX12_worthBy_14 rfl (lv_at hl 0 rfl) ?_
        refine m_geta G X 14 rfl (hwd _ mk_15) rfl dX12_worthBy_15 ?_
        have hta := htb w1 c_11
        refine lv_iload hx hb dX12_worthBy_18 (lv_at hl 4 rfl) ?_
        refine m_lald G X 14 rfl (i := w1) (by show _ < 5; omega) (by omega) dX12_worthBy_20 ?_
        refine gl_eq (a := (σ.2 14 w1)) rfl ?_
        refine lv_lconst (v := lN 0) hx hb dX12_worthBy_21 (by decide) ?_
        refine gn_lc_le (tgt := 177) hx hb dX12_worthBy_22 dX12_worthBy_23 (by decide) (by omega) (by omega) (fun c_22 => ?_) (fun c_22 => ?_)
        ·
          refine lv_iinc (v := nI (w1 + 1)) (lv' := [(5, .int (nI (w1 + 1))), (0, .ref o), (1, .int (nI xc)), (2, .int (nI xp)), (3, .long (zwsum σ xc xp w1))]) hx hb dX12_worthBy_177 hl (k := 4) rfl (zn_inc _) (by decide) rfl (fun ls hl => ?_)
          refine lv_goto (tgt := 5) hx hb dX12_worthBy_180 (by decide) ?_
          refine ih_5 (w1 + 1) mm vv aa x30 x31 x32 x33 x34 (by omega) (by omega) _ _ _ (by exact X) (by rw [show zwsum σ xc xp w1 = zwsum σ xc xp (w1 + 1) from (if_neg (by omega)).symm] at hl; exact lv_sub hl [1, 2, 3, 4, 0] rfl)
        ·
          refine lv_aload_n hx hb dX12_worthBy_26 rfl (lv_at hl 0 rfl) ?_
          refine ctV_V (wf := []) (As := []) (rest := []) (n := 0) hx hb hml hown hts hK hA (ap_nil X) hl.1 (m_recv G X) (c_setMind hcl ht0 ht1 (σ := (zw σ mm vv aa x30 x31 x32 x33 x34))  (hok)) (cwV 0 hts (mg_V mk_156 mk_168 mk_169 mk_170 mk_43) rfl rfl rfl (by decide +kernel) ⟨Nat.le_of_ble_eq_true rfl, Nat.le_of_ble_eq_true rfl⟩) rfl (Nat.le_of_ble_eq_true rfl) dX12_worthBy_27 ⟨Nat.le_refl _, Nat.le_refl _⟩ (fun H locs X => ?_)
          replace X := ap_nil' X
          replace X := wh_eq (zw_A29 (g := zcp ((σ.2 14)) (mm) ((σ.1 4)))) X
          refine lv_aload_n hx hb dX12_worthBy_30 rfl (lv_at hl 0 rfl) ?_
          refine lv_iload hx hb dX12_worthBy_31 (lv_at hl 4 rfl) ?_
          refine lv_iload_n hx hb dX12_worthBy_33 rfl (lv_at hl 1 rfl) ?_
          refine lv_iconst (v := (-1)) hx hb dX12_worthBy_34 (by decide) ?_
          refine gi_to (a := 4294967295) (zm1) ?_
          refine lv_iconst (v := nI 0) hx hb dX12_worthBy_35 (by decide) ?_
          refine lv_iconst (v := nI 0) hx hb dX12_worthBy_36 (by decide) ?_
          refine ctVP_V (wf := []) (As := [.int (nI w1), .int (nI xc), .int (nI 4294967295), .int (nI 0), .int (nI 0)]) (rest := []) (n := 5) hx hb hml hown hts hK hA (ap_nil X) hl.1 (m_recv G X) (c_walkBy hcl ht0 ht1 (σ := (zw σ (zcp ((σ.2 14)) (mm) ((σ.1 4))) vv aa x30 x31 x32 x33 x34)) w1 xc 4294967295 0 0 (hok) (c_11) (by omega) (by omega) (by omega) (fun w9 hw9 => by (show (zcp (σ.2 14) mm (σ.1 4)) w9 ≤ _); rw [zcp_in (show w9 < σ.1 4 from hw9)]; exact htb w9 hw9) (hW) (hp)) (cwV 5 hts (mg_V mk_225 mk_226 mk_227 mk_228 mk_43) rfl rfl rfl (by decide +kernel) ⟨Nat.le_of_ble_eq_true rfl, Nat.le_of_ble_eq_true rfl⟩) rfl (Nat.le_of_ble_eq_true rfl) dX12_worthBy_37 ⟨Nat.le_refl _, Nat.le_refl _⟩ (fun H locs u_37 hu_37 X => ?_)
          replace X := ap_nil' X
          obtain ⟨m_37, v_37, a_37, se_37, rfl⟩ := hu_37
          simp only [zwalk_zw] at X
          replace X := wh_eq (σ' := (zw σ m_37 v_37 a_37 ((zwalk σ w1 xc 4294967295 0 (zcp ((σ.2 14)) (mm) ((σ.1 4))) 0).2.1) ((zwalk σ w1 xc 4294967295 0 (zcp ((σ.2 14)) (mm) ((σ.1 4))) 0).2.2.1) ((zwalk σ w1 xc 4294967295 0 (zcp ((σ.2 14)) (mm) ((σ.1 4))) 0).2.2.2) ((zwalk σ w1 xc 4294967295 0 (zcp ((σ.2 14)) (mm) ((σ.1 4))) 0).1) se_37)) zw_zw X
          have hrc1 : zwalk σ w1 xc 4294967295 0 (zcp (σ.2 14) mm (σ.1 4)) 0 = zwalk σ w1 xc 4294967295 0 (σ.2 14) 0 := zwalk_cong (by omega) (fun w9 hw9 => zcp_in hw9)
          have hmn := zwalk_min hok (w := w1) (c := xc) (rule := 4294967295) (z := 0) (m := zcp (σ.2 14) mm (σ.1 4)) (show 0 < 100 by decide)
          have cut_71 : ∀ (v6 : Int64) (mmc : Nat → Nat) (vvc : Nat → Nat) (aac : Nat → Nat) (x30c : Nat) (x31c : Nat) (x32c : Nat) (x33c : Nat) (x34c : Nat) (hv6 : v6 = zwr σ xc xp w1 0), ∀ (H : Heap) (locs : List Loc) (ls : Array Slot), wH D cl A s.heap H locs (mw o q ci cI cJ (zw σ mmc vvc aac x30c x31c x32c x33c x34c)) → lv_has ls 11 [(0, .ref o), (1, .int (nI xc)), (2, .int (nI xp)), (3, .long (zwsum σ xc xp w1)), (5, .int (nI w1)), (6, .long v6)] → W p l e { frames := 5, cells := 0, slots := 0, locals := 128 } s m args below meth c H locs 0 0 Q (F0 m 71 ls []) := by
            intro v6 mmc vvc aac x30c x31c x32c x33c x34c hv6 H locs ls X hl
            refine lv_iconst (v := (-1)) hx hb dX12_worthBy_71 (by decide) ?_
            refine lv_istore (lv' := [(8, .int (-1)), (0, .ref o), (1, .int (nI xc)), (2, .int (nI xp)), (3, .long (zwsum σ xc xp w1)), (5, .int (nI w1)), (6, .long v6)]) hx hb dX12_worthBy_72 hl (by decide) rfl (fun ls hl => ?_)
            have cut_74 : ∀ (NN : Nat) (k1 : Nat) (mmd : Nat → Nat) (vvd : Nat → Nat) (aad : Nat → Nat) (x30d : Nat) (x31d : Nat) (x32d : Nat) (x33d : Nat) (x34d : Nat) (hk1 : k1 ≤ σ.1 4 + 1), σ.1 4 + 1 - k1 < NN → ∀ (H : Heap) (locs : List Loc) (ls : Array Slot), wH D cl A s.heap H locs (mw o q ci cI cJ (zw σ mmd vvd aad x30d x31d x32d x33d x34d)) → lv_has ls 11 [(0, .ref o), (1, .int (nI xc)), (2, .int (nI xp)), (3, .long (zwsum σ xc xp w1)), (5, .int (nI w1)), (6, .long (zwr σ xc xp w1 k1)), (8, .int (nI (zac k1)))] → W p l e { frames := 5, cells := 0, slots := 0, locals := 128 } s m args below meth c H locs 0 0 Q (F0 m 74 ls []) := by
              intro NN
              induction NN with
              | zero => intro k1 mmd vvd aad x30d x31d x32d x33d x34d hk1 hNN; exact absurd hNN (Nat.not_lt_zero _)
              | succ NN ih_74 =>
                intro k1 mmd vvd aad x30d x31d x32d x33d x34d hk1 hNN H locs ls X hl
                refine lv_iload hx hb dX12_worthBy_74 (lv_at hl 6 rfl) ?_
                refine lv_aload_n hx hb dX12_worthBy_76 rfl (lv_at hl 0 rfl) ?_
                refine m_geti G X 4 rfl (hwd _ mk_45) rfl dX12_worthBy_77 ?_
                refine gi_eq (a := (σ.1 4)) rfl ?_
                refine lv_icmp_ge (tgt := 164) hx hb dX12_worthBy_80 (by decide) (fun c_80 => ?_) (fun c_80 => ?_)
                ·
                  rw [zac_ge (by omega) (by omega)] at c_80
                  refine lv_lload_n hx hb dX12_worthBy_164 rfl (lv_at hl 3 rfl) ?_
                  refine lv_lload hx hb dX12_worthBy_165 (lv_at hl 5 rfl) ?_
                  refine lv_aload_n hx hb dX12_worthBy_167 rfl (lv_at hl 0 rfl) ?_
                  refine m_geta G X 14 rfl (hwd _ mk_15) rfl dX12_worthBy_168 ?_
                  refine lv_iload hx hb dX12_worthBy_171 (lv_at hl 4 rfl) ?_
                  refine m_lald G X 14 rfl (i := w1) (by show _ < 5; omega) (by omega) dX12_worthBy_173 ?_
                  refine gl_eq (a := (σ.2 14 w1)) rfl ?_
                  refine lv_lmul hx hb dX12_worthBy_174 ?_
                  refine lv_ladd hx hb dX12_worthBy_175 ?_
                  refine lv_lstore_n (lv' := [(3, .long ((zwsum σ xc xp w1) + ((zwr σ xc xp w1 k1) * lN (σ.2 14 w1)))), (0, .ref o), (1, .int (nI xc)), (2, .int (nI xp)), (5, .int (nI w1)), (6, .long (zwr σ xc xp w1 k1)), (8, .int (nI (zac k1)))]) hx hb dX12_worthBy_176 rfl hl (by decide) rfl (fun ls hl => ?_)
                  refine lv_iinc (v := nI (w1 + 1)) (lv' := [(5, .int (nI (w1 + 1))), (3, .long ((zwsum σ xc xp w1) + ((zwr σ xc xp w1 k1) * lN (σ.2 14 w1)))), (0, .ref o), (1, .int (nI xc)), (2, .int (nI xp)), (6, .long (zwr σ xc xp w1 k1)), (8, .int (nI (zac k1)))]) hx hb dX12_worthBy_177 hl (k := 4) rfl (zn_inc _) (by decide) rfl (fun ls hl => ?_)
                  refine lv_goto (tgt := 5) hx hb dX12_worthBy_180 (by decide) ?_
                  refine ih_5 (w1 + 1) mmd vvd aad x30d x31d x32d x33d x34d (by omega) (by omega) _ _ _ (by exact X) (by rw [show zwsum σ xc xp w1 + zwr σ xc xp w1 k1 * lN (σ.2 14 w1) = zwsum σ xc xp (w1 + 1) by rw [zwsum, if_pos c_22, show k1 = σ.1 4 + 1 by omega]] at hl; exact lv_sub hl [2, 3, 4, 1, 0] rfl)
                ·
                  rw [zac_ge (by omega) (by omega)] at c_80
                  have hac9 : zac k1 < σ.1 4 ∨ zac k1 = 4294967295 := by unfold zac; split <;> omega
                  refine lv_aload_n hx hb dX12_worthBy_83 rfl (lv_at hl 0 rfl) ?_
                  refine lv_iload_n hx hb dX12_worthBy_84 rfl (lv_at hl 1 rfl) ?_
                  refine lv_iload hx hb dX12_worthBy_85 (lv_at hl 6 rfl) ?_
                  refine lv_iload hx hb dX12_worthBy_87 (lv_at hl 4 rfl) ?_
                  refine ctI_V (wf := []) (As := [.int (nI xc), .int (nI (zac k1)), .int (nI w1)]) (rest := []) (n := 3) hx hb hml hown hts hK hA (ap_nil X) hl.1 (m_recv G X) (c_hundredths hcl ht0 ht1 (σ := (zw σ mmd vvd aad x30d x31d x32d x33d x34d)) xc (zac k1) w1 (hok) (by omega) (hac9) (c_11) (hW) (hp)) (cwV 3 hts (mg_V mk_141 mk_147 mk_148 mk_149 mk_43) rfl rfl rfl (by decide +kernel) ⟨Nat.le_of_ble_eq_true rfl, Nat.le_of_ble_eq_true rfl⟩) rfl (Nat.le_of_ble_eq_true rfl) dX12_worthBy_89 ⟨Nat.le_refl _, Nat.le_refl _⟩ (fun H locs X => ?_)
                  replace X := ap_nil' X
                  refine gi_raw (y := (nI (zhund σ xc (zac k1) w1))) rfl ?_
                  refine lv_istore (lv' := [(9, .int (nI (zhund σ xc (zac k1) w1))), (0, .ref o), (1, .int (nI xc)), (2, .int (nI xp)), (3, .long (zwsum σ xc xp w1)), (5, .int (nI w1)), (6, .long (zwr σ xc xp w1 k1)), (8, .int (nI (zac k1)))]) hx hb dX12_worthBy_92 hl (by decide) rfl (fun ls hl => ?_)
                  have hhu := zhund_le (a := zac k1) (w := w1) hok hc
                  refine lv_iload hx hb dX12_worthBy_94 (lv_at hl 0 rfl) ?_
                  refine gn_if_le (tgt := 158) hx hb dX12_worthBy_96 (by decide) (by omega) (fun c_96 => ?_) (fun c_96 => ?_)
                  ·
                    refine lv_iinc (v := nI ((zac k1) + 1)) (lv' := [(8, .int (nI ((zac k1) + 1))), (9, .int (nI (zhund σ xc (zac k1) w1))), (0, .ref o), (1, .int (nI xc)), (2, .int (nI xp)), (3, .long (zwsum σ xc xp w1)), (5, .int (nI w1)), (6, .long (zwr σ xc xp w1 k1))]) hx hb dX12_worthBy_158 hl (k := 7) rfl (zn_inc _) (by decide) rfl (fun ls hl => ?_)
                    refine lv_goto (tgt := 74) hx hb dX12_worthBy_161 (by decide) ?_
                    refine ih_74 (k1 + 1) mmd vvd aad x30d x31d x32d x33d x34d (by omega) (by omega) _ _ _ (by exact X) (by rw [zac_inc] at hl; rw [zwr_0 (p := xp) (by omega)] at hl; exact lv_sub hl [2, 3, 4, 5, 6, 7, 0] rfl)
                  ·
                    refine lv_aload_n hx hb dX12_worthBy_99 rfl (lv_at hl 1 rfl) ?_
                    refine ctV_V (wf := []) (As := []) (rest := []) (n := 0) hx hb hml hown hts hK hA (ap_nil X) hl.1 (m_recv G X) (c_setMind hcl ht0 ht1 (σ := (zw σ mmd vvd aad x30d x31d x32d x33d x34d))  (hok)) (cwV 0 hts (mg_V mk_156 mk_168 mk_169 mk_170 mk_43) rfl rfl rfl (by decide +kernel) ⟨Nat.le_of_ble_eq_true rfl, Nat.le_of_ble_eq_true rfl⟩) rfl (Nat.le_of_ble_eq_true rfl) dX12_worthBy_100 ⟨Nat.le_refl _, Nat.le_refl _⟩ (fun H locs X => ?_)
                    replace X := ap_nil' X
                    replace X := wh_eq (zw_A29 (g := zcp ((σ.2 14)) (mmd) ((σ.1 4)))) X
                    refine lv_aload_n hx hb dX12_worthBy_103 rfl (lv_at hl 1 rfl) ?_
                    refine lv_iload_n hx hb dX12_worthBy_104 rfl (lv_at hl 2 rfl) ?_
                    refine lv_iload hx hb dX12_worthBy_105 (lv_at hl 7 rfl) ?_
                    refine ctV_V (wf := []) (As := [.int (nI xc), .int (nI (zac k1))]) (rest := []) (n := 2) hx hb hml hown hts hK hA (ap_nil X) hl.1 (m_recv G X) (c_hear hcl ht0 ht1 (σ := (zw σ (zcp ((σ.2 14)) (mmd) ((σ.1 4))) vvd aad x30d x31d x32d x33d x34d)) xc (zac k1) (hok) (by omega) (hac9) (hW) (hp)) (cwV 2 hts (mg_V mk_172 mk_173 mk_174 mk_175 mk_43) rfl rfl rfl (by decide +kernel) ⟨Nat.le_of_ble_eq_true rfl, Nat.le_of_ble_eq_true rfl⟩) rfl (Nat.le_of_ble_eq_true rfl) dX12_worthBy_107 ⟨Nat.le_refl _, Nat.le_refl _⟩ (fun H locs X => ?_)
                    replace X := ap_nil' X
                    replace X := wh_eq (zw_A29 (g := zcp (zhearM σ ((zcp ((σ.2 14)) (mmd) ((σ.1 4)))) xc (zac k1)) (zcp ((σ.2 14)) (mmd) ((σ.1 4))) ((σ.1 4)))) X
                    refine lv_aload_n hx hb dX12_worthBy_110 rfl (lv_at hl 1 rfl) ?_
                    have hsm9 : zsame (σ.1 4) (zcp (zhearM σ (zcp (σ.2 14) mmd (σ.1 4)) xc (zac k1)) (zcp (σ.2 14) mmd (σ.1 4)) (σ.1 4)) (zHa σ xc (zac k1)) := fun w9 hw9 => by (show zcp _ _ _ w9 = σ.2 14 w9 * _); rw [zcp_in hw9]; (show (zcp (σ.2 14) mmd (σ.1 4)) w9 * _ = _); rw [zcp_in hw9]
                    refine ctI_V (wf := []) (As := []) (rest := []) (n := 0) hx hb hml hown hts hK hA (ap_nil X) hl.1 (m_recv G X) (c_settle hcl ht0 ht1 (σ := (zw σ (zcp (zhearM σ ((zcp ((σ.2 14)) (mmd) ((σ.1 4)))) xc (zac k1)) (zcp ((σ.2 14)) (mmd) ((σ.1 4))) ((σ.1 4))) vvd aad x30d x31d x32d x33d x34d))  (hok) (fun w9 hw9 => by (show (zcp (zhearM σ (zcp (σ.2 14) mmd (σ.1 4)) xc (zac k1)) (zcp (σ.2 14) mmd (σ.1 4)) (σ.1 4)) w9 < _); rw [zcp_in (show w9 < σ.1 4 from hw9)]; (show (zcp (σ.2 14) mmd (σ.1 4)) w9 * zhund σ xc (zac k1) w9 < _); rw [zcp_in (show w9 < σ.1 4 from hw9)]; have h1 := htb w9 hw9; have h2 := zhund_le (a := zac k1) (w := w9) hok hc; have h3 := Nat.mul_le_mul h1 h2; omega)) (cwV 0 hts (mg_V mk_152 mk_159 mk_160 mk_161 mk_43) rfl rfl rfl (by decide +kernel) ⟨Nat.le_of_ble_eq_true rfl, Nat.le_of_ble_eq_true rfl⟩) rfl (Nat.le_of_ble_eq_true rfl) dX12_worthBy_111 ⟨Nat.le_refl _, Nat.le_refl _⟩ (fun H locs X => ?_)
                    replace X := ap_nil' X
                    refine gi_raw (y := (if zgall ((zcp (zhearM σ ((zcp ((σ.2 14)) (mmd) ((σ.1 4)))) xc (zac k1)) (zcp ((σ.2 14)) (mmd) ((σ.1 4))) ((σ.1 4)))) ((σ.1 4)) ≠ 0 then 1 else 0)) rfl ?_
                    replace X := wh_eq (zw_A29 (g := zset (σ.1 4) (zcp (zhearM σ ((zcp ((σ.2 14)) (mmd) ((σ.1 4)))) xc (zac k1)) (zcp ((σ.2 14)) (mmd) ((σ.1 4))) ((σ.1 4))))) X
                    refine lv_istore (lv' := [(10, .int (if zgall ((zcp (zhearM σ ((zcp ((σ.2 14)) (mmd) ((σ.1 4)))) xc (zac k1)) (zcp ((σ.2 14)) (mmd) ((σ.1 4))) ((σ.1 4)))) ((σ.1 4)) ≠ 0 then 1 else 0)), (9, .int (nI (zhund σ xc (zac k1) w1))), (0, .ref o), (1, .int (nI xc)), (2, .int (nI xp)), (3, .long (zwsum σ xc xp w1)), (5, .int (nI w1)), (6, .long (zwr σ xc xp w1 k1)), (8, .int (nI (zac k1)))]) hx hb dX12_worthBy_114 hl (by decide) rfl (fun ls hl => ?_)
                    refine lv_aload_n hx hb dX12_worthBy_116 rfl (lv_at hl 2 rfl) ?_
                    refine lv_iload hx hb dX12_worthBy_117 (lv_at hl 6 rfl) ?_
                    refine lv_iload_n hx hb dX12_worthBy_119 rfl (lv_at hl 3 rfl) ?_
                    refine lv_iconst (v := (-1)) hx hb dX12_worthBy_120 (by decide) ?_
                    refine gi_to (a := 4294967295) (zm1) ?_
                    refine lv_iconst (v := nI 0) hx hb dX12_worthBy_121 (by decide) ?_
                    refine lv_iconst (v := nI 0) hx hb dX12_worthBy_122 (by decide) ?_
                    refine ctVP_V (wf := []) (As := [.int (nI w1), .int (nI xc), .int (nI 4294967295), .int (nI 0), .int (nI 0)]) (rest := []) (n := 5) hx hb hml hown hts hK hA (ap_nil X) hl.1 (m_recv G X) (c_walkBy hcl ht0 ht1 (σ := (zw σ (zset (σ.1 4) (zcp (zhearM σ ((zcp ((σ.2 14)) (mmd) ((σ.1 4)))) xc (zac k1)) (zcp ((σ.2 14)) (mmd) ((σ.1 4))) ((σ.1 4)))) vvd aad x30d x31d x32d x33d x34d)) w1 xc 4294967295 0 0 (hok) (c_11) (by omega) (by omega) (by omega) (fun w9 hw9 => by (show zset (σ.1 4) (zcp (zhearM σ (zcp (σ.2 14) mmd (σ.1 4)) xc (zac k1)) (zcp (σ.2 14) mmd (σ.1 4)) (σ.1 4)) w9 ≤ _); rw [zset_cong hsm9 w9 hw9]; exact zset_le (fun k9 hk9 => by (show σ.2 14 k9 * zhund σ xc (zac k1) k9 < _); have h1 := htb k9 hk9; have h2 := zhund_le (a := zac k1) (w := k9) hok hc; have h3 := Nat.mul_le_mul h1 h2; omega) w9 hw9) (hW) (hp)) (cwV 5 hts (mg_V mk_225 mk_226 mk_227 mk_228 mk_43) rfl rfl rfl (by decide +kernel) ⟨Nat.le_of_ble_eq_true rfl, Nat.le_of_ble_eq_true rfl⟩) rfl (Nat.le_of_ble_eq_true rfl) dX12_worthBy_123 ⟨Nat.le_refl _, Nat.le_refl _⟩ (fun H locs u_123 hu_123 X => ?_)
                    replace X := ap_nil' X
                    obtain ⟨m_123, v_123, a_123, se_123, rfl⟩ := hu_123
                    simp only [zwalk_zw] at X
                    replace X := wh_eq (σ' := (zw σ m_123 v_123 a_123 ((zwalk σ w1 xc 4294967295 0 (zset (σ.1 4) (zcp (zhearM σ ((zcp ((σ.2 14)) (mmd) ((σ.1 4)))) xc (zac k1)) (zcp ((σ.2 14)) (mmd) ((σ.1 4))) ((σ.1 4)))) 0).2.1) ((zwalk σ w1 xc 4294967295 0 (zset (σ.1 4) (zcp (zhearM σ ((zcp ((σ.2 14)) (mmd) ((σ.1 4)))) xc (zac k1)) (zcp ((σ.2 14)) (mmd) ((σ.1 4))) ((σ.1 4)))) 0).2.2.1) ((zwalk σ w1 xc 4294967295 0 (zset (σ.1 4) (zcp (zhearM σ ((zcp ((σ.2 14)) (mmd) ((σ.1 4)))) xc (zac k1)) (zcp ((σ.2 14)) (mmd) ((σ.1 4))) ((σ.1 4)))) 0).2.2.2) ((zwalk σ w1 xc 4294967295 0 (zset (σ.1 4) (zcp (zhearM σ ((zcp ((σ.2 14)) (mmd) ((σ.1 4)))) xc (zac k1)) (zcp ((σ.2 14)) (mmd) ((σ.1 4))) ((σ.1 4)))) 0).1) se_123)) zw_zw X
                    have hrc2 : zwalk σ w1 xc 4294967295 0 (zset (σ.1 4) (zcp (zhearM σ (zcp (σ.2 14) mmd (σ.1 4)) xc (zac k1)) (zcp (σ.2 14) mmd (σ.1 4)) (σ.1 4))) 0 = zwalk σ w1 xc 4294967295 0 (zset (σ.1 4) (zHa σ xc (zac k1))) 0 := zwalk_cong (by omega) (zset_cong hsm9)
                    have hmn2 := zwalk_min hok (w := w1) (c := xc) (rule := 4294967295) (z := 0) (m := zset (σ.1 4) (zcp (zhearM σ (zcp (σ.2 14) mmd (σ.1 4)) xc (zac k1)) (zcp (σ.2 14) mmd (σ.1 4)) (σ.1 4))) (show 0 < 100 by decide)
                    refine lv_lload hx hb dX12_worthBy_126 (lv_at hl 7 rfl) ?_
                    refine lv_iload hx hb dX12_worthBy_128 (lv_at hl 1 rfl) ?_
                    refine gn_i2l hx hb dX12_worthBy_130 (by omega) ?_
                    refine lv_aload_n hx hb dX12_worthBy_131 rfl (lv_at hl 2 rfl) ?_
                    refine m_geti G X 33 rfl (hwd _ mk_215) rfl dX12_worthBy_132 ?_
                    refine gi_eq (a := ((zwalk σ w1 xc 4294967295 0 (zset (σ.1 4) (zcp (zhearM σ ((zcp ((σ.2 14)) (mmd) ((σ.1 4)))) xc (zac k1)) (zcp ((σ.2 14)) (mmd) ((σ.1 4))) ((σ.1 4)))) 0).1)) rfl ?_
                    refine gn_if_ne (tgt := 143) hx hb dX12_worthBy_135 (by decide) (zwalk_lost) (fun c_135 => ?_) (fun c_135 => ?_)
                    ·
                      refine gn_ldc2 (v := 999) (k := 999) hx hb hown (hwd _ mk_230) (by decide) dX12_worthBy_143 ?_
                      refine lv_goto (tgt := 154) hx hb dX12_worthBy_146 (by decide) ?_
                      refine lv_lmul hx hb dX12_worthBy_154 ?_
                      refine lv_lsub hx hb dX12_worthBy_155 ?_
                      refine lv_lstore (lv' := [(6, .long ((zwr σ xc xp w1 k1) - (lN (zhund σ xc (zac k1) w1) * lN 999))), (10, .int (if zgall ((zcp (zhearM σ ((zcp ((σ.2 14)) (mmd) ((σ.1 4)))) xc (zac k1)) (zcp ((σ.2 14)) (mmd) ((σ.1 4))) ((σ.1 4)))) ((σ.1 4)) ≠ 0 then 1 else 0)), (9, .int (nI (zhund σ xc (zac k1) w1))), (0, .ref o), (1, .int (nI xc)), (2, .int (nI xp)), (3, .long (zwsum σ xc xp w1)), (5, .int (nI w1)), (8, .int (nI (zac k1)))]) hx hb dX12_worthBy_156 hl (by decide) rfl (fun ls hl => ?_)
                      refine lv_iinc (v := nI ((zac k1) + 1)) (lv' := [(8, .int (nI ((zac k1) + 1))), (6, .long ((zwr σ xc xp w1 k1) - (lN (zhund σ xc (zac k1) w1) * lN 999))), (10, .int (if zgall ((zcp (zhearM σ ((zcp ((σ.2 14)) (mmd) ((σ.1 4)))) xc (zac k1)) (zcp ((σ.2 14)) (mmd) ((σ.1 4))) ((σ.1 4)))) ((σ.1 4)) ≠ 0 then 1 else 0)), (9, .int (nI (zhund σ xc (zac k1) w1))), (0, .ref o), (1, .int (nI xc)), (2, .int (nI xp)), (3, .long (zwsum σ xc xp w1)), (5, .int (nI w1))]) hx hb dX12_worthBy_158 hl (k := 8) rfl (zn_inc _) (by decide) rfl (fun ls hl => ?_)
                      refine lv_goto (tgt := 74) hx hb dX12_worthBy_161 (by decide) ?_
                      refine ih_74 (k1 + 1) m_123 v_123 a_123 ((zwalk σ w1 xc 4294967295 0 (zset (σ.1 4) (zcp (zhearM σ ((zcp ((σ.2 14)) (mmd) ((σ.1 4)))) xc (zac k1)) (zcp ((σ.2 14)) (mmd) ((σ.1 4))) ((σ.1 4)))) 0).2.1) ((zwalk σ w1 xc 4294967295 0 (zset (σ.1 4) (zcp (zhearM σ ((zcp ((σ.2 14)) (mmd) ((σ.1 4)))) xc (zac k1)) (zcp ((σ.2 14)) (mmd) ((σ.1 4))) ((σ.1 4)))) 0).2.2.1) ((zwalk σ w1 xc 4294967295 0 (zset (σ.1 4) (zcp (zhearM σ ((zcp ((σ.2 14)) (mmd) ((σ.1 4)))) xc (zac k1)) (zcp ((σ.2 14)) (mmd) ((σ.1 4))) ((σ.1 4)))) 0).2.2.2) ((zwalk σ w1 xc 4294967295 0 (zset (σ.1 4) (zcp (zhearM σ ((zcp ((σ.2 14)) (mmd) ((σ.1 4)))) xc (zac k1)) (zcp ((σ.2 14)) (mmd) ((σ.1 4))) ((σ.1 4)))) 0).1) se_123 (by omega) (by omega) _ _ _ (by exact X) (by rw [zac_inc] at hl; rw [zwr_1 (p := xp) (x := 999) (by omega) (by unfold zma zRa; rw [← hrc2, ← zgall_cong hsm9]; first | (rw [if_pos ⟨c_135, c_140⟩]; done) | (rw [if_neg (fun h9 => absurd h9.1 (by omega))]; done) | (rw [if_neg (fun h9 => c_140 h9.2)]; done))] at hl; exact lv_sub hl [4, 5, 6, 7, 8, 1, 0] rfl)
                    ·
                      refine lv_iload hx hb dX12_worthBy_138 (lv_at hl 0 rfl) ?_
                      refine gb_if_ne (tgt := 149) hx hb dX12_worthBy_140 (by decide) (fun c_140 => ?_) (fun c_140 => ?_)
                      ·
                        refine lv_aload_n hx hb dX12_worthBy_149 rfl (lv_at hl 2 rfl) ?_
                        refine m_geti G X 30 rfl (hwd _ mk_198) rfl dX12_worthBy_150 ?_
                        refine gi_eq (a := ((zwalk σ w1 xc 4294967295 0 (zset (σ.1 4) (zcp (zhearM σ ((zcp ((σ.2 14)) (mmd) ((σ.1 4)))) xc (zac k1)) (zcp ((σ.2 14)) (mmd) ((σ.1 4))) ((σ.1 4)))) 0).2.1)) rfl ?_
                        refine gn_i2l hx hb dX12_worthBy_153 (by omega) ?_
                        refine lv_lmul hx hb dX12_worthBy_154 ?_
                        refine lv_lsub hx hb dX12_worthBy_155 ?_
                        refine lv_lstore (lv' := [(6, .long ((zwr σ xc xp w1 k1) - (lN (zhund σ xc (zac k1) w1) * lN ((zwalk σ w1 xc 4294967295 0 (zset (σ.1 4) (zcp (zhearM σ ((zcp ((σ.2 14)) (mmd) ((σ.1 4)))) xc (zac k1)) (zcp ((σ.2 14)) (mmd) ((σ.1 4))) ((σ.1 4)))) 0).2.1)))), (10, .int (if zgall ((zcp (zhearM σ ((zcp ((σ.2 14)) (mmd) ((σ.1 4)))) xc (zac k1)) (zcp ((σ.2 14)) (mmd) ((σ.1 4))) ((σ.1 4)))) ((σ.1 4)) ≠ 0 then 1 else 0)), (9, .int (nI (zhund σ xc (zac k1) w1))), (0, .ref o), (1, .int (nI xc)), (2, .int (nI xp)), (3, .long (zwsum σ xc xp w1)), (5, .int (nI w1)), (8, .int (nI (zac k1)))]) hx hb dX12_worthBy_156 hl (by decide) rfl (fun ls hl => ?_)
                        refine lv_iinc (v := nI ((zac k1) + 1)) (lv' := [(8, .int (nI ((zac k1) + 1))), (6, .long ((zwr σ xc xp w1 k1) - (lN (zhund σ xc (zac k1) w1) * lN ((zwalk σ w1 xc 4294967295 0 (zset (σ.1 4) (zcp (zhearM σ ((zcp ((σ.2 14)) (mmd) ((σ.1 4)))) xc (zac k1)) (zcp ((σ.2 14)) (mmd) ((σ.1 4))) ((σ.1 4)))) 0).2.1)))), (10, .int (if zgall ((zcp (zhearM σ ((zcp ((σ.2 14)) (mmd) ((σ.1 4)))) xc (zac k1)) (zcp ((σ.2 14)) (mmd) ((σ.1 4))) ((σ.1 4)))) ((σ.1 4)) ≠ 0 then 1 else 0)), (9, .int (nI (zhund σ xc (zac k1) w1))), (0, .ref o), (1, .int (nI xc)), (2, .int (nI xp)), (3, .long (zwsum σ xc xp w1)), (5, .int (nI w1))]) hx hb dX12_worthBy_158 hl (k := 8) rfl (zn_inc _) (by decide) rfl (fun ls hl => ?_)
                        refine lv_goto (tgt := 74) hx hb dX12_worthBy_161 (by decide) ?_
                        refine ih_74 (k1 + 1) m_123 v_123 a_123 ((zwalk σ w1 xc 4294967295 0 (zset (σ.1 4) (zcp (zhearM σ ((zcp ((σ.2 14)) (mmd) ((σ.1 4)))) xc (zac k1)) (zcp ((σ.2 14)) (mmd) ((σ.1 4))) ((σ.1 4)))) 0).2.1) ((zwalk σ w1 xc 4294967295 0 (zset (σ.1 4) (zcp (zhearM σ ((zcp ((σ.2 14)) (mmd) ((σ.1 4)))) xc (zac k1)) (zcp ((σ.2 14)) (mmd) ((σ.1 4))) ((σ.1 4)))) 0).2.2.1) ((zwalk σ w1 xc 4294967295 0 (zset (σ.1 4) (zcp (zhearM σ ((zcp ((σ.2 14)) (mmd) ((σ.1 4)))) xc (zac k1)) (zcp ((σ.2 14)) (mmd) ((σ.1 4))) ((σ.1 4)))) 0).2.2.2) ((zwalk σ w1 xc 4294967295 0 (zset (σ.1 4) (zcp (zhearM σ ((zcp ((σ.2 14)) (mmd) ((σ.1 4)))) xc (zac k1)) (zcp ((σ.2 14)) (mmd) ((σ.1 4))) ((σ.1 4)))) 0).1) se_123 (by omega) (by omega) _ _ _ (by exact X) (by rw [zac_inc] at hl; rw [zwr_1 (p := xp) (x := (zwalk σ w1 xc 4294967295 0 (zset (σ.1 4) (zcp (zhearM σ (zcp (σ.2 14) mmd (σ.1 4)) xc (zac k1)) (zcp (σ.2 14) mmd (σ.1 4)) (σ.1 4))) 0).2.1) (by omega) (by unfold zma zRa; rw [← hrc2, ← zgall_cong hsm9]; first | (rw [if_pos ⟨c_135, c_140⟩]; done) | (rw [if_neg (fun h9 => absurd h9.1 (by omega))]; done) | (rw [if_neg (fun h9 => c_140 h9.2)]; done))] at hl; exact lv_sub hl [4, 5, 6, 7, 8, 1, 0] rfl)
                      ·
                        refine gn_ldc2 (v := 999) (k := 999) hx hb hown (hwd _ mk_230) (by decide) dX12_worthBy_143 ?_
                        refine lv_goto (tgt := 154) hx hb dX12_worthBy_146 (by decide) ?_
                        refine lv_lmul hx hb dX12_worthBy_154 ?_
                        refine lv_lsub hx hb dX12_worthBy_155 ?_
                        refine lv_lstore (lv' := [(6, .long ((zwr σ xc xp w1 k1) - (lN (zhund σ xc (zac k1) w1) * lN 999))), (10, .int (if zgall ((zcp (zhearM σ ((zcp ((σ.2 14)) (mmd) ((σ.1 4)))) xc (zac k1)) (zcp ((σ.2 14)) (mmd) ((σ.1 4))) ((σ.1 4)))) ((σ.1 4)) ≠ 0 then 1 else 0)), (9, .int (nI (zhund σ xc (zac k1) w1))), (0, .ref o), (1, .int (nI xc)), (2, .int (nI xp)), (3, .long (zwsum σ xc xp w1)), (5, .int (nI w1)), (8, .int (nI (zac k1)))]) hx hb dX12_worthBy_156 hl (by decide) rfl (fun ls hl => ?_)
                        refine lv_iinc (v := nI ((zac k1) + 1)) (lv' := [(8, .int (nI ((zac k1) + 1))), (6, .long ((zwr σ xc xp w1 k1) - (lN (zhund σ xc (zac k1) w1) * lN 999))), (10, .int (if zgall ((zcp (zhearM σ ((zcp ((σ.2 14)) (mmd) ((σ.1 4)))) xc (zac k1)) (zcp ((σ.2 14)) (mmd) ((σ.1 4))) ((σ.1 4)))) ((σ.1 4)) ≠ 0 then 1 else 0)), (9, .int (nI (zhund σ xc (zac k1) w1))), (0, .ref o), (1, .int (nI xc)), (2, .int (nI xp)), (3, .long (zwsum σ xc xp w1)), (5, .int (nI w1))]) hx hb dX12_worthBy_158 hl (k := 8) rfl (zn_inc _) (by decide) rfl (fun ls hl => ?_)
                        refine lv_goto (tgt := 74) hx hb dX12_worthBy_161 (by decide) ?_
                        refine ih_74 (k1 + 1) m_123 v_123 a_123 ((zwalk σ w1 xc 4294967295 0 (zset (σ.1 4) (zcp (zhearM σ ((zcp ((σ.2 14)) (mmd) ((σ.1 4)))) xc (zac k1)) (zcp ((σ.2 14)) (mmd) ((σ.1 4))) ((σ.1 4)))) 0).2.1) ((zwalk σ w1 xc 4294967295 0 (zset (σ.1 4) (zcp (zhearM σ ((zcp ((σ.2 14)) (mmd) ((σ.1 4)))) xc (zac k1)) (zcp ((σ.2 14)) (mmd) ((σ.1 4))) ((σ.1 4)))) 0).2.2.1) ((zwalk σ w1 xc 4294967295 0 (zset (σ.1 4) (zcp (zhearM σ ((zcp ((σ.2 14)) (mmd) ((σ.1 4)))) xc (zac k1)) (zcp ((σ.2 14)) (mmd) ((σ.1 4))) ((σ.1 4)))) 0).2.2.2) ((zwalk σ w1 xc 4294967295 0 (zset (σ.1 4) (zcp (zhearM σ ((zcp ((σ.2 14)) (mmd) ((σ.1 4)))) xc (zac k1)) (zcp ((σ.2 14)) (mmd) ((σ.1 4))) ((σ.1 4)))) 0).1) se_123 (by omega) (by omega) _ _ _ (by exact X) (by rw [zac_inc] at hl; rw [zwr_1 (p := xp) (x := 999) (by omega) (by unfold zma zRa; rw [← hrc2, ← zgall_cong hsm9]; first | (rw [if_pos ⟨c_135, c_140⟩]; done) | (rw [if_neg (fun h9 => absurd h9.1 (by omega))]; done) | (rw [if_neg (fun h9 => c_140 h9.2)]; done))] at hl; exact lv_sub hl [4, 5, 6, 7, 8, 1, 0] rfl)
            refine cut_74 _ 0 mmc vvc aac x30c x31c x32c x33c x34c (Nat.zero_le _) (Nat.lt_succ_self _) _ _ _ (by exact X) (by rw [hv6, zm1] at hl; exact lv_sub hl [1, 2, 3, 4, 5, 6, 0] rfl)
          refine gn_ldc2 (v := 100) (k := 100) hx hb hown (hwd _ mk_78) (by decide) dX12_worthBy_40 ?_
          refine lv_aload_n hx hb dX12_worthBy_43 rfl (lv_at hl 0 rfl) ?_
          refine m_geti G X 33 rfl (hwd _ mk_215) rfl dX12_worthBy_44 ?_
          refine gi_eq (a := ((zwalk σ w1 xc 4294967295 0 (zcp ((σ.2 14)) (mm) ((σ.1 4))) 0).1)) rfl ?_
          refine gn_if_eq (tgt := 56) hx hb dX12_worthBy_47 (by decide) (zwalk_lost) (fun c_47 => ?_) (fun c_47 => ?_)
          ·
            refine lv_aload_n hx hb dX12_worthBy_56 rfl (lv_at hl 0 rfl) ?_
            refine m_geti G X 30 rfl (hwd _ mk_198) rfl dX12_worthBy_57 ?_
            refine gi_eq (a := ((zwalk σ w1 xc 4294967295 0 (zcp ((σ.2 14)) (mm) ((σ.1 4))) 0).2.1)) rfl ?_
            refine gn_i2l hx hb dX12_worthBy_60 (by omega) ?_
            refine lv_lmul hx hb dX12_worthBy_61 ?_
            refine gn_ldc2 (v := 100) (k := 100) hx hb hown (hwd _ mk_78) (by decide) dX12_worthBy_62 ?_
            refine lv_iload_n hx hb dX12_worthBy_65 rfl (lv_at hl 2 rfl) ?_
            refine gn_i2l hx hb dX12_worthBy_66 (by omega) ?_
            refine lv_lmul hx hb dX12_worthBy_67 ?_
            refine lv_lsub hx hb dX12_worthBy_68 ?_
            refine lv_lstore (lv' := [(6, .long ((lN 100 * lN ((zwalk σ w1 xc 4294967295 0 (zcp ((σ.2 14)) (mm) ((σ.1 4))) 0).2.1)) - (lN 100 * lN xp))), (0, .ref o), (1, .int (nI xc)), (2, .int (nI xp)), (3, .long (zwsum σ xc xp w1)), (5, .int (nI w1))]) hx hb dX12_worthBy_69 hl (by decide) rfl (fun ls hl => ?_)
            refine cut_71 ((lN 100 * lN ((zwalk σ w1 xc 4294967295 0 (zcp ((σ.2 14)) (mm) ((σ.1 4))) 0).2.1)) - (lN 100 * lN xp)) m_37 v_37 a_37 ((zwalk σ w1 xc 4294967295 0 (zcp ((σ.2 14)) (mm) ((σ.1 4))) 0).2.1) ((zwalk σ w1 xc 4294967295 0 (zcp ((σ.2 14)) (mm) ((σ.1 4))) 0).2.2.1) ((zwalk σ w1 xc 4294967295 0 (zcp ((σ.2 14)) (mm) ((σ.1 4))) 0).2.2.2) ((zwalk σ w1 xc 4294967295 0 (zcp ((σ.2 14)) (mm) ((σ.1 4))) 0).1) se_37 (by (show _ = lN 100 * lN (zin (zwalk σ w1 xc 4294967295 0 (σ.2 14) 0)) - lN 100 * lN xp); rw [← hrc1, zin]; first | rw [if_pos c_47] | rw [if_neg (by omega)]) _ _ _ (by exact X) (by exact lv_sub hl [1, 2, 3, 4, 5, 0] rfl)
          ·
            refine lv_sipush (v := nI 999) hx hb dX12_worthBy_50 (by decide) ?_
            refine lv_goto (tgt := 60) hx hb dX12_worthBy_53 (by decide) ?_
            refine gn_i2l hx hb dX12_worthBy_60 (by omega) ?_
            refine lv_lmul hx hb dX12_worthBy_61 ?_
            refine gn_ldc2 (v := 100) (k := 100) hx hb hown (hwd _ mk_78) (by decide) dX12_worthBy_62 ?_
            refine lv_iload_n hx hb dX12_worthBy_65 rfl (lv_at hl 2 rfl) ?_
            refine gn_i2l hx hb dX12_worthBy_66 (by omega) ?_
            refine lv_lmul hx hb dX12_worthBy_67 ?_
            refine lv_lsub hx hb dX12_worthBy_68 ?_
            refine lv_lstore (lv' := [(6, .long ((lN 100 * lN 999) - (lN 100 * lN xp))), (0, .ref o), (1, .int (nI xc)), (2, .int (nI xp)), (3, .long (zwsum σ xc xp w1)), (5, .int (nI w1))]) hx hb dX12_worthBy_69 hl (by decide) rfl (fun ls hl => ?_)
            refine cut_71 ((lN 100 * lN 999) - (lN 100 * lN xp)) m_37 v_37 a_37 ((zwalk σ w1 xc 4294967295 0 (zcp ((σ.2 14)) (mm) ((σ.1 4))) 0).2.1) ((zwalk σ w1 xc 4294967295 0 (zcp ((σ.2 14)) (mm) ((σ.1 4))) 0).2.2.1) ((zwalk σ w1 xc 4294967295 0 (zcp ((σ.2 14)) (mm) ((σ.1 4))) 0).2.2.2) ((zwalk σ w1 xc 4294967295 0 (zcp ((σ.2 14)) (mm) ((σ.1 4))) 0).1) se_37 (by (show _ = lN 100 * lN (zin (zwalk σ w1 xc 4294967295 0 (σ.2 14) 0)) - lN 100 * lN xp); rw [← hrc1, zin]; first | rw [if_pos c_47] | rw [if_neg (by omega)]) _ _ _ (by exact X) (by exact lv_sub hl [1, 2, 3, 4, 5, 0] rfl)
  refine cut_5 _ 0 (σ.2 29) (σ.2 35) (σ.2 36) (σ.1 30) (σ.1 31) (σ.1 32) (σ.1 33) (σ.1 34) (Nat.zero_le _) (Nat.lt_succ_self _) _ _ _ (by exact X) (by exact lv_sub hl [2, 3, 4, 1, 0] rfl)
