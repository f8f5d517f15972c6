set_option maxHeartbeats 4000000 in
set_option maxRecDepth 100000 in
theorem c_begin {l : Launch} {D : va_G} {cl : List vw_C} {tys : List (ClassId × FieldType)} {o : Nat} {q : Nat → Nat} {ci : Nat} {cI cJ : ClassId} (hcl : cl[ci]? = some (RX12, TX12, 48)) (ht0 : tys[0]? = some (cI, .int)) (ht1 : tys[1]? = some (cJ, .long)) {σ : MS} (xw : Nat) (xc : Nat) (xr : Nat) (xf : Nat) (hok : mOk σ) (hw : xw < σ.1 4) (hc : xc < 8) (hr : xr < 6 ∨ xr = 4294967295) (hf : xf < 100) (hW : zWok (σ.2 27)) (hp : σ.1 28 < 8 ∨ σ.1 28 = 4294967295) : ctVP l D cl tys yX12_begin (Cond.code yX12_begin cX12_begin 8 (none) :: mW) { frames := 2, cells := 0, slots := 0, locals := 50 } [.ref o, .int (nI xw), .int (nI xc), .int (nI xr), .int (nI xf)] (mw o q ci cI cJ σ) (mw o q ci cI cJ) (fun u => ∃ v9, u = zw σ (zbmind σ (σ.2 29) (ztold σ (σ.1 34) xc xw xr xf)) v9 (σ.2 36) (σ.1 30 + zasks xr xf * σ.1 13) (σ.1 31 + zasks xr xf) (σ.1 32) (σ.1 33) (zsd (σ.1 34) (zasks xr xf))) := by
  refine ctVP_of (cc := cX12_begin) (maxL := 8) (by decide +kernel) rfl (Nat.le_of_ble_eq_true rfl) ?_
  intro p e s m args below meth c A Q ls hx hb hml hown hts hK hA X hl fin
  replace hown : s.vm.findClass RX12 = some m.cls := hown
  have hwd : ∀ w ∈ mW, w.before args s = true := fun w h => hts w (List.mem_cons_of_mem _ h)
  have G : mG p c cX12_begin s m args D cl tys ci cI cJ := ⟨hx, hb, hown, hwd, hK, hcl, ht0, ht1⟩
  replace hl : lv_has ls 8 [(0, .ref o), (1, .int (nI xw)), (2, .int (nI xc)), (3, .int (nI xr)), (4, .int (nI xf))] := hl
  obtain ⟨kr, kw, ks, kroad, kworld, ksort, kmet, ksum, kst, kco⟩ := id hok
  replace X := wh_eq (zw_self σ) X
  have hK0 : xr ≠ 1 → xr ≠ 2 → zasks xr xf = 0 := fun h1 h2 => by unfold zasks; rw [if_neg h1, if_neg h2]
  have hT0 : xr ≠ 1 → xr ≠ 2 → xr ≠ 5 → ztold σ (σ.1 34) xc xw xr xf = 4294967295 := fun h1 h2 h3 => by unfold ztold; rw [if_neg h1, if_neg h2, if_neg h3]
  refine lv_iconst (v := (-1)) hx hb dX12_begin_0 (by decide) ?_
  by_cases e1 : xr = 1
  ·
    subst e1
    refine lv_istore (lv' := [(5, .int (-1)), (0, .ref o), (1, .int (nI xw)), (2, .int (nI xc)), (3, .int (nI 1)), (4, .int (nI xf))]) hx hb dX12_begin_1 hl (by decide) rfl (fun ls hl => ?_)
    refine lv_iload_n hx hb dX12_begin_3 rfl (lv_at hl 4 rfl) ?_
    refine lv_iconst (v := nI 1) hx hb dX12_begin_4 (by decide) ?_
    refine gn_icmp_ne (tgt := 16) hx hb dX12_begin_5 (by decide) (by decide) (by decide) (fun c_5 => absurd c_5 (by decide)) (fun c_5 => ?_)
    refine lv_aload_n hx hb dX12_begin_8 rfl (lv_at hl 1 rfl) ?_
    refine lv_iload_n hx hb dX12_begin_9 rfl (lv_at hl 3 rfl) ?_
    refine lv_iload_n hx hb dX12_begin_10 rfl (lv_at hl 2 rfl) ?_
    refine ctI_V (wf := []) (As := [.int (nI xc), .int (nI xw)]) (rest := []) (n := 2) hx hb hml hown hts hK hA (ap_nil X) hl.1 (m_recv G X) (c_ask hcl ht0 ht1 (σ := (zw σ (σ.2 29) (σ.2 35) (σ.2 36) (σ.1 30) (σ.1 31) (σ.1 32) (σ.1 33) (σ.1 34))) xc xw (hok) (by omega) (hw) (hW) (hp)) (cwV 2 hts (mg_V mk_197 mk_205 mk_206 mk_207 mk_43) rfl rfl rfl (by decide +kernel) ⟨Nat.le_of_ble_eq_true rfl, Nat.le_of_ble_eq_true rfl⟩) rfl (Nat.le_of_ble_eq_true rfl) dX12_begin_11 ⟨Nat.le_refl _, Nat.le_refl _⟩ (fun H locs X => ?_)
    replace X := ap_nil' X
    refine gi_raw (y := (nI (zans σ (znx ((σ.1 34))) xc xw))) rfl ?_
    replace X := wh_eq (zw_F30F31F34 ((σ.1 30) + (σ.1 13)) ((σ.1 31) + 1) (znx (σ.1 34))) X
    refine lv_istore (lv' := [(5, .int (nI (zans σ (znx ((σ.1 34))) xc xw))), (0, .ref o), (1, .int (nI xw)), (2, .int (nI xc)), (3, .int (nI 1)), (4, .int (nI xf))]) hx hb dX12_begin_14 hl (by decide) rfl (fun ls hl => ?_)
    refine lv_iload_n hx hb dX12_begin_16 rfl (lv_at hl 4 rfl) ?_
    refine lv_iconst (v := nI 2) hx hb dX12_begin_17 (by decide) ?_
    refine gn_icmp_ne (tgt := 140) hx hb dX12_begin_18 (by decide) (by decide) (by decide) (fun c_18 => ?_) (fun c_18 => absurd c_18 (by decide))
    refine lv_iload_n hx hb dX12_begin_140 rfl (lv_at hl 4 rfl) ?_
    refine lv_iconst (v := nI 5) hx hb dX12_begin_141 (by decide) ?_
    refine gn_icmp_ne (tgt := 162) hx hb dX12_begin_142 (by decide) (by decide) (by decide) (fun c_142 => ?_) (fun c_142 => absurd c_142 (by decide))
    refine lv_iload hx hb dX12_begin_162 (lv_at hl 0 rfl) ?_
    by_cases eb : zans σ (znx ((σ.1 34))) xc xw = 4294967295
    ·
      refine gi_raw (y := (-1)) (by rw [eb]; decide) ?_
      refine lv_if_lt (tgt := 173) hx hb dX12_begin_164 (by decide) (fun c_164 => ?_) (fun c_164 => ?_)
      ·
        exact fin _ _ _ _ (zw σ (σ.2 29) (σ.2 35) (σ.2 36) ((σ.1 30) + (σ.1 13)) ((σ.1 31) + 1) (σ.1 32) (σ.1 33) (znx (σ.1 34))) (⟨_, zw_c (by unfold zbmind; rw [show ztold σ (σ.1 34) xc xw 1 xf = zans σ (znx (σ.1 34)) xc xw from rfl]; first | rw [if_pos eb] | rw [if_neg eb]) rfl rfl (by show _ = σ.1 30 + 1 * σ.1 13; rw [Nat.one_mul]) (rfl) rfl rfl (rfl)⟩) X dX12_begin_173
      · exact absurd c_164 (by decide)
    have hz9 := zans_lt (σ := σ) (z := znx (σ.1 34)) (c := xc) hw
    refine gn_if_lt (tgt := 173) hx hb dX12_begin_164 (by decide) (by omega) ?_
    refine lv_aload_n hx hb dX12_begin_167 rfl (lv_at hl 1 rfl) ?_
    refine lv_iload hx hb dX12_begin_168 (lv_at hl 0 rfl) ?_
    refine ctV_V (wf := []) (As := [.int (nI (zans σ (znx ((σ.1 34))) xc xw))]) (rest := []) (n := 1) hx hb hml hown hts hK hA (ap_nil X) hl.1 (m_recv G X) (c_believe hcl ht0 ht1 (σ := (zw σ (σ.2 29) (σ.2 35) (σ.2 36) ((σ.1 30) + (σ.1 13)) ((σ.1 31) + 1) (σ.1 32) (σ.1 33) (znx (σ.1 34)))) (zans σ (znx ((σ.1 34))) xc xw) (hok) (by omega)) (cwV 1 hts (mg_V mk_204 mk_208 mk_209 mk_210 mk_43) rfl rfl rfl (by decide +kernel) ⟨Nat.le_of_ble_eq_true rfl, Nat.le_of_ble_eq_true rfl⟩) rfl (Nat.le_of_ble_eq_true rfl) dX12_begin_170 ⟨Nat.le_refl _, Nat.le_refl _⟩ (fun H locs X => ?_)
    replace X := ap_nil' X
    replace X := wh_eq (zw_A29 (g := zcp (zbelM ((σ.2 29)) (zans σ (znx ((σ.1 34))) xc xw)) (σ.2 29) ((σ.1 4)))) X
    exact fin _ _ _ _ (zw σ (zcp (zbelM ((σ.2 29)) (zans σ (znx ((σ.1 34))) xc xw)) (σ.2 29) ((σ.1 4))) (σ.2 35) (σ.2 36) ((σ.1 30) + (σ.1 13)) ((σ.1 31) + 1) (σ.1 32) (σ.1 33) (znx (σ.1 34))) (⟨_, zw_c (by unfold zbmind; rw [show ztold σ (σ.1 34) xc xw 1 xf = zans σ (znx (σ.1 34)) xc xw from rfl]; first | rw [if_pos eb] | rw [if_neg eb]) rfl rfl (by show _ = σ.1 30 + 1 * σ.1 13; rw [Nat.one_mul]) (rfl) rfl rfl (rfl)⟩) X dX12_begin_173
  by_cases e2 : xr = 2
  ·
    subst e2
    refine lv_istore (lv' := [(5, .int (-1)), (0, .ref o), (1, .int (nI xw)), (2, .int (nI xc)), (3, .int (nI 2)), (4, .int (nI xf))]) hx hb dX12_begin_1 hl (by decide) rfl (fun ls hl => ?_)
    refine lv_iload_n hx hb dX12_begin_3 rfl (lv_at hl 4 rfl) ?_
    refine lv_iconst (v := nI 1) hx hb dX12_begin_4 (by decide) ?_
    refine gn_icmp_ne (tgt := 16) hx hb dX12_begin_5 (by decide) (by decide) (by decide) (fun c_5 => ?_) (fun c_5 => absurd c_5 (by decide))
    refine lv_iload_n hx hb dX12_begin_16 rfl (lv_at hl 4 rfl) ?_
    refine lv_iconst (v := nI 2) hx hb dX12_begin_17 (by decide) ?_
    refine gn_icmp_ne (tgt := 140) hx hb dX12_begin_18 (by decide) (by decide) (by decide) (fun c_18 => absurd c_18 (by decide)) (fun c_18 => ?_)
    refine lv_iconst (v := nI 0) hx hb dX12_begin_21 (by decide) ?_
    refine lv_istore (lv' := [(6, .int (nI 0)), (5, .int (-1)), (0, .ref o), (1, .int (nI xw)), (2, .int (nI xc)), (3, .int (nI 2)), (4, .int (nI xf))]) hx hb dX12_begin_22 hl (by decide) rfl (fun ls hl => ?_)
    have cut_24 : ∀ (NN : Nat) (o1 : Nat) (h1 : o1 ≤ σ.1 4), σ.1 4 - o1 < NN → ∀ (H : Heap) (locs : List Loc) (ls : Array Slot), wH D cl A s.heap H locs (mw o q ci cI cJ (zw σ (σ.2 29) (zcp (fun _ => 0) (σ.2 35) o1) (σ.2 36) (σ.1 30) (σ.1 31) (σ.1 32) (σ.1 33) (σ.1 34))) → lv_has ls 8 [(0, .ref o), (1, .int (nI xw)), (2, .int (nI xc)), (3, .int (nI 2)), (4, .int (nI xf)), (5, .int (-1)), (6, .int (nI o1))] → W p l e { frames := 2, cells := 0, slots := 0, locals := 50 } s m args below meth c H locs 0 0 Q (F0 m 24 ls []) := by
      intro NN
      induction NN with
      | zero => intro o1 h1 hNN; exact absurd hNN (Nat.not_lt_zero _)
      | succ NN ih_24 =>
        intro o1 h1 hNN H locs ls X hl
        refine lv_iload hx hb dX12_begin_24 (lv_at hl 6 rfl) ?_
        refine lv_aload_n hx hb dX12_begin_26 rfl (lv_at hl 0 rfl) ?_
        refine m_geti G X 4 rfl (hwd _ mk_45) rfl dX12_begin_27 ?_
        refine gi_eq (a := (σ.1 4)) rfl ?_
        refine gn_icmp_ge (tgt := 47) hx hb dX12_begin_30 (by decide) (by omega) (by omega) (fun c_30 => ?_) (fun c_30 => ?_)
        ·
          refine lv_iconst (v := nI 0) hx hb dX12_begin_47 (by decide) ?_
          refine lv_istore (lv' := [(6, .int (nI 0)), (0, .ref o), (1, .int (nI xw)), (2, .int (nI xc)), (3, .int (nI 2)), (4, .int (nI xf)), (5, .int (-1))]) hx hb dX12_begin_48 hl (by decide) rfl (fun ls hl => ?_)
          have cut_50 : ∀ (NN : Nat) (k1 : Nat) (v1 : Nat → Nat) (hk1 : k1 ≤ xf) (hv : ∀ o, o < σ.1 4 → v1 o = zvotes σ (σ.1 34) xc xw k1 o), xf - k1 < NN → ∀ (H : Heap) (locs : List Loc) (ls : Array Slot), wH D cl A s.heap H locs (mw o q ci cI cJ (zw σ (σ.2 29) v1 (σ.2 36) (σ.1 30 + k1 * σ.1 13) (σ.1 31 + k1) (σ.1 32) (σ.1 33) (zsd (σ.1 34) k1))) → lv_has ls 8 [(0, .ref o), (1, .int (nI xw)), (2, .int (nI xc)), (3, .int (nI 2)), (4, .int (nI xf)), (5, .int (-1)), (6, .int (nI k1))] → W p l e { frames := 2, cells := 0, slots := 0, locals := 50 } s m args below meth c H locs 0 0 Q (F0 m 50 ls []) := by
            intro NN
            induction NN with
            | zero => intro k1 v1 hk1 hv hNN; exact absurd hNN (Nat.not_lt_zero _)
            | succ NN ih_50 =>
              intro k1 v1 hk1 hv hNN H locs ls X hl
              refine lv_iload hx hb dX12_begin_50 (lv_at hl 6 rfl) ?_
              refine lv_iload hx hb dX12_begin_52 (lv_at hl 4 rfl) ?_
              refine gn_icmp_ge (tgt := 87) hx hb dX12_begin_54 (by decide) (by omega) (by omega) (fun c_54 => ?_) (fun c_54 => ?_)
              ·
                refine lv_iconst (v := nI 0) hx hb dX12_begin_87 (by decide) ?_
                refine lv_istore (lv' := [(6, .int (nI 0)), (0, .ref o), (1, .int (nI xw)), (2, .int (nI xc)), (3, .int (nI 2)), (4, .int (nI xf)), (5, .int (-1))]) hx hb dX12_begin_88 hl (by decide) rfl (fun ls hl => ?_)
                have cut_90 : ∀ (NN : Nat) (o1 : Nat) (h1 : o1 ≤ σ.1 4), σ.1 4 - o1 < NN → ∀ (H : Heap) (locs : List Loc) (ls : Array Slot), wH D cl A s.heap H locs (mw o q ci cI cJ (zw σ (σ.2 29) v1 (σ.2 36) (σ.1 30 + k1 * σ.1 13) (σ.1 31 + k1) (σ.1 32) (σ.1 33) (zsd (σ.1 34) k1))) → lv_has ls 8 [(0, .ref o), (1, .int (nI xw)), (2, .int (nI xc)), (3, .int (nI 2)), (4, .int (nI xf)), (5, .int (nI (zmost v1 o1))), (6, .int (nI o1))] → W p l e { frames := 2, cells := 0, slots := 0, locals := 50 } s m args below meth c H locs 0 0 Q (F0 m 90 ls []) := by
                  intro NN
                  induction NN with
                  | zero => intro o1 h1 hNN; exact absurd hNN (Nat.not_lt_zero _)
                  | succ NN ih_90 =>
                    intro o1 h1 hNN H locs ls X hl
                    refine lv_iload hx hb dX12_begin_90 (lv_at hl 6 rfl) ?_
                    refine lv_aload_n hx hb dX12_begin_92 rfl (lv_at hl 0 rfl) ?_
                    refine m_geti G X 4 rfl (hwd _ mk_45) rfl dX12_begin_93 ?_
                    refine gi_eq (a := (σ.1 4)) rfl ?_
                    refine gn_icmp_ge (tgt := 140) hx hb dX12_begin_96 (by decide) (by omega) (by omega) (fun c_96 => ?_) (fun c_96 => ?_)
                    ·
                      refine lv_iload_n hx hb dX12_begin_140 rfl (lv_at hl 3 rfl) ?_
                      refine lv_iconst (v := nI 5) hx hb dX12_begin_141 (by decide) ?_
                      refine gn_icmp_ne (tgt := 162) hx hb dX12_begin_142 (by decide) (by decide) (by decide) (fun c_142 => ?_) (fun c_142 => absurd c_142 (by decide))
                      refine lv_iload hx hb dX12_begin_162 (lv_at hl 5 rfl) ?_
                      by_cases eb : zmost v1 o1 = 4294967295
                      ·
                        refine gi_raw (y := (-1)) (by rw [eb]; decide) ?_
                        refine lv_if_lt (tgt := 173) hx hb dX12_begin_164 (by decide) (fun c_164 => ?_) (fun c_164 => ?_)
                        ·
                          exact fin _ _ _ _ (zw σ (σ.2 29) v1 (σ.2 36) (σ.1 30 + k1 * σ.1 13) (σ.1 31 + k1) (σ.1 32) (σ.1 33) (zsd (σ.1 34) k1)) (⟨_, zw_c (by unfold zbmind; rw [show ztold σ (σ.1 34) xc xw 2 xf = zmost v1 o1 by (show zmost (zvotes σ (σ.1 34) xc xw xf) (σ.1 4) = _); rw [show o1 = σ.1 4 by omega]; exact zmost_cong kw (fun o1 ho => by rw [hv o1 ho, show k1 = xf by omega])]; first | rw [if_pos eb] | rw [if_neg eb]) rfl rfl (by show _ = σ.1 30 + xf * σ.1 13; rw [show k1 = xf by omega]) (by show _ = σ.1 31 + xf; rw [show k1 = xf by omega]) rfl rfl (by show _ = zsd (σ.1 34) xf; rw [show k1 = xf by omega])⟩) X dX12_begin_173
                        · exact absurd c_164 (by decide)
                      have hz9 := zmost_lt v1 o1 (by omega)
                      refine gn_if_lt (tgt := 173) hx hb dX12_begin_164 (by decide) (by omega) ?_
                      refine lv_aload_n hx hb dX12_begin_167 rfl (lv_at hl 0 rfl) ?_
                      refine lv_iload hx hb dX12_begin_168 (lv_at hl 5 rfl) ?_
                      refine ctV_V (wf := []) (As := [.int (nI (zmost v1 o1))]) (rest := []) (n := 1) hx hb hml hown hts hK hA (ap_nil X) hl.1 (m_recv G X) (c_believe hcl ht0 ht1 (σ := (zw σ (σ.2 29) v1 (σ.2 36) (σ.1 30 + k1 * σ.1 13) (σ.1 31 + k1) (σ.1 32) (σ.1 33) (zsd (σ.1 34) k1))) (zmost v1 o1) (hok) (by omega)) (cwV 1 hts (mg_V mk_204 mk_208 mk_209 mk_210 mk_43) rfl rfl rfl (by decide +kernel) ⟨Nat.le_of_ble_eq_true rfl, Nat.le_of_ble_eq_true rfl⟩) rfl (Nat.le_of_ble_eq_true rfl) dX12_begin_170 ⟨Nat.le_refl _, Nat.le_refl _⟩ (fun H locs X => ?_)
                      replace X := ap_nil' X
                      replace X := wh_eq (zw_A29 (g := zcp (zbelM ((σ.2 29)) (zmost v1 o1)) (σ.2 29) ((σ.1 4)))) X
                      exact fin _ _ _ _ (zw σ (zcp (zbelM ((σ.2 29)) (zmost v1 o1)) (σ.2 29) ((σ.1 4))) v1 (σ.2 36) (σ.1 30 + k1 * σ.1 13) (σ.1 31 + k1) (σ.1 32) (σ.1 33) (zsd (σ.1 34) k1)) (⟨_, zw_c (by unfold zbmind; rw [show ztold σ (σ.1 34) xc xw 2 xf = zmost v1 o1 by (show zmost (zvotes σ (σ.1 34) xc xw xf) (σ.1 4) = _); rw [show o1 = σ.1 4 by omega]; exact zmost_cong kw (fun o1 ho => by rw [hv o1 ho, show k1 = xf by omega])]; first | rw [if_pos eb] | rw [if_neg eb]) rfl rfl (by show _ = σ.1 30 + xf * σ.1 13; rw [show k1 = xf by omega]) (by show _ = σ.1 31 + xf; rw [show k1 = xf by omega]) rfl rfl (by show _ = zsd (σ.1 34) xf; rw [show k1 = xf by omega])⟩) X dX12_begin_173
                    ·
                      refine lv_aload_n hx hb dX12_begin_99 rfl (lv_at hl 0 rfl) ?_
                      refine m_geta G X 35 rfl (hwd _ mk_25) rfl dX12_begin_100 ?_
                      refine lv_iload hx hb dX12_begin_103 (lv_at hl 6 rfl) ?_
                      have hva := hv o1 c_96
                      have hvb := zvotes_le σ (σ.1 34) xc xw k1 o1
                      have hvc : ∀ o, o < σ.1 4 → v1 o ≤ k1 := fun o ho => by rw [hv o ho]; exact zvotes_le _ _ _ _ _ _
                      refine m_iald G X 35 rfl (i := o1) (by show _ < 5; omega) (by omega) dX12_begin_105 ?_
                      refine gi_eq (a := (v1 o1)) rfl ?_
                      refine lv_iload hx hb dX12_begin_106 (lv_at hl 5 rfl) ?_
                      by_cases em : zmost v1 o1 = 4294967295
                      ·
                        refine gi_raw (y := (-1)) (by rw [em]; decide) ?_
                        refine lv_if_ge (tgt := 115) hx hb dX12_begin_108 (by decide) (fun c_108 => ?_) (fun c_108 => ?_)
                        · exact absurd c_108 (by decide)
                        ·
                          refine lv_iconst (v := nI 0) hx hb dX12_begin_111 (by decide) ?_
                          refine lv_goto (tgt := 122) hx hb dX12_begin_112 (by decide) ?_
                          have hvd := hvc (zmost v1 o1)
                          refine gn_icmp_le (tgt := 130) hx hb dX12_begin_122 (by decide) (by omega) (by omega) (fun c_122 => ?_) (fun c_122 => ?_)
                          ·
                            refine lv_iload hx hb dX12_begin_130 (lv_at hl 5 rfl) ?_
                            refine lv_istore (lv' := [(5, .int (nI (zmost v1 o1))), (0, .ref o), (1, .int (nI xw)), (2, .int (nI xc)), (3, .int (nI 2)), (4, .int (nI xf)), (6, .int (nI o1))]) hx hb dX12_begin_132 hl (by decide) rfl (fun ls hl => ?_)
                            refine lv_iinc (v := nI (o1 + 1)) (lv' := [(6, .int (nI (o1 + 1))), (5, .int (nI (zmost v1 o1))), (0, .ref o), (1, .int (nI xw)), (2, .int (nI xc)), (3, .int (nI 2)), (4, .int (nI xf))]) hx hb dX12_begin_134 hl (k := 6) rfl (zn_inc _) (by decide) rfl (fun ls hl => ?_)
                            refine lv_goto (tgt := 90) hx hb dX12_begin_137 (by decide) ?_
                            refine ih_90 (o1 + 1) (by omega) (by omega) _ _ _ (by exact X) (by first | (rw [zmost, if_pos em, if_pos (by omega)]; exact lv_sub hl [2, 3, 4, 5, 6, 1, 0] rfl) | (rw [zmost, if_pos em, if_neg (by omega)]; exact lv_sub hl [2, 3, 4, 5, 6, 1, 0] rfl) | (rw [zmost, if_neg em, if_pos (by omega)]; exact lv_sub hl [2, 3, 4, 5, 6, 1, 0] rfl) | (rw [zmost, if_neg em, if_neg (by omega)]; exact lv_sub hl [2, 3, 4, 5, 6, 1, 0] rfl))
                          ·
                            refine lv_iload hx hb dX12_begin_125 (lv_at hl 6 rfl) ?_
                            refine lv_goto (tgt := 132) hx hb dX12_begin_127 (by decide) ?_
                            refine lv_istore (lv' := [(5, .int (nI o1)), (0, .ref o), (1, .int (nI xw)), (2, .int (nI xc)), (3, .int (nI 2)), (4, .int (nI xf)), (6, .int (nI o1))]) hx hb dX12_begin_132 hl (by decide) rfl (fun ls hl => ?_)
                            refine lv_iinc (v := nI (o1 + 1)) (lv' := [(6, .int (nI (o1 + 1))), (5, .int (nI o1)), (0, .ref o), (1, .int (nI xw)), (2, .int (nI xc)), (3, .int (nI 2)), (4, .int (nI xf))]) hx hb dX12_begin_134 hl (k := 6) rfl (zn_inc _) (by decide) rfl (fun ls hl => ?_)
                            refine lv_goto (tgt := 90) hx hb dX12_begin_137 (by decide) ?_
                            refine ih_90 (o1 + 1) (by omega) (by omega) _ _ _ (by exact X) (by first | (rw [zmost, if_pos em, if_pos (by omega)]; exact lv_sub hl [2, 3, 4, 5, 6, 1, 0] rfl) | (rw [zmost, if_pos em, if_neg (by omega)]; exact lv_sub hl [2, 3, 4, 5, 6, 1, 0] rfl) | (rw [zmost, if_neg em, if_pos (by omega)]; exact lv_sub hl [2, 3, 4, 5, 6, 1, 0] rfl) | (rw [zmost, if_neg em, if_neg (by omega)]; exact lv_sub hl [2, 3, 4, 5, 6, 1, 0] rfl))
                      have hz9 := zmost_lt v1 o1 (by omega)
                      refine gn_if_ge (tgt := 115) hx hb dX12_begin_108 (by decide) (by omega) ?_
                      refine lv_aload_n hx hb dX12_begin_115 rfl (lv_at hl 0 rfl) ?_
                      refine m_geta G X 35 rfl (hwd _ mk_25) rfl dX12_begin_116 ?_
                      refine lv_iload hx hb dX12_begin_119 (lv_at hl 5 rfl) ?_
                      refine m_iald G X 35 rfl (i := (zmost v1 o1)) (by show _ < 5; omega) (by omega) dX12_begin_121 ?_
                      refine gi_eq (a := (v1 (zmost v1 o1))) rfl ?_
                      have hvd := hvc (zmost v1 o1)
                      refine gn_icmp_le (tgt := 130) hx hb dX12_begin_122 (by decide) (by omega) (by omega) (fun c_122 => ?_) (fun c_122 => ?_)
                      ·
                        refine lv_iload hx hb dX12_begin_130 (lv_at hl 5 rfl) ?_
                        refine lv_istore (lv' := [(5, .int (nI (zmost v1 o1))), (0, .ref o), (1, .int (nI xw)), (2, .int (nI xc)), (3, .int (nI 2)), (4, .int (nI xf)), (6, .int (nI o1))]) hx hb dX12_begin_132 hl (by decide) rfl (fun ls hl => ?_)
                        refine lv_iinc (v := nI (o1 + 1)) (lv' := [(6, .int (nI (o1 + 1))), (5, .int (nI (zmost v1 o1))), (0, .ref o), (1, .int (nI xw)), (2, .int (nI xc)), (3, .int (nI 2)), (4, .int (nI xf))]) hx hb dX12_begin_134 hl (k := 6) rfl (zn_inc _) (by decide) rfl (fun ls hl => ?_)
                        refine lv_goto (tgt := 90) hx hb dX12_begin_137 (by decide) ?_
                        refine ih_90 (o1 + 1) (by omega) (by omega) _ _ _ (by exact X) (by first | (rw [zmost, if_pos em, if_pos (by omega)]; exact lv_sub hl [2, 3, 4, 5, 6, 1, 0] rfl) | (rw [zmost, if_pos em, if_neg (by omega)]; exact lv_sub hl [2, 3, 4, 5, 6, 1, 0] rfl) | (rw [zmost, if_neg em, if_pos (by omega)]; exact lv_sub hl [2, 3, 4, 5, 6, 1, 0] rfl) | (rw [zmost, if_neg em, if_neg (by omega)]; exact lv_sub hl [2, 3, 4, 5, 6, 1, 0] rfl))
                      ·
                        refine lv_iload hx hb dX12_begin_125 (lv_at hl 6 rfl) ?_
                        refine lv_goto (tgt := 132) hx hb dX12_begin_127 (by decide) ?_
                        refine lv_istore (lv' := [(5, .int (nI o1)), (0, .ref o), (1, .int (nI xw)), (2, .int (nI xc)), (3, .int (nI 2)), (4, .int (nI xf)), (6, .int (nI o1))]) hx hb dX12_begin_132 hl (by decide) rfl (fun ls hl => ?_)
                        refine lv_iinc (v := nI (o1 + 1)) (lv' := [(6, .int (nI (o1 + 1))), (5, .int (nI o1)), (0, .ref o), (1, .int (nI xw)), (2, .int (nI xc)), (3, .int (nI 2)), (4, .int (nI xf))]) hx hb dX12_begin_134 hl (k := 6) rfl (zn_inc _) (by decide) rfl (fun ls hl => ?_)
                        refine lv_goto (tgt := 90) hx hb dX12_begin_137 (by decide) ?_
                        refine ih_90 (o1 + 1) (by omega) (by omega) _ _ _ (by exact X) (by first | (rw [zmost, if_pos em, if_pos (by omega)]; exact lv_sub hl [2, 3, 4, 5, 6, 1, 0] rfl) | (rw [zmost, if_pos em, if_neg (by omega)]; exact lv_sub hl [2, 3, 4, 5, 6, 1, 0] rfl) | (rw [zmost, if_neg em, if_pos (by omega)]; exact lv_sub hl [2, 3, 4, 5, 6, 1, 0] rfl) | (rw [zmost, if_neg em, if_neg (by omega)]; exact lv_sub hl [2, 3, 4, 5, 6, 1, 0] rfl))
                refine cut_90 _ 0 (Nat.zero_le _) (Nat.lt_succ_self _) _ _ _ (by exact X) (by rw [zm1] at hl; exact lv_sub hl [1, 2, 3, 4, 5, 6, 0] rfl)
              ·
                refine lv_aload_n hx hb dX12_begin_57 rfl (lv_at hl 0 rfl) ?_
                refine lv_iload_n hx hb dX12_begin_58 rfl (lv_at hl 2 rfl) ?_
                refine lv_iload_n hx hb dX12_begin_59 rfl (lv_at hl 1 rfl) ?_
                refine ctI_V (wf := []) (As := [.int (nI xc), .int (nI xw)]) (rest := []) (n := 2) hx hb hml hown hts hK hA (ap_nil X) hl.1 (m_recv G X) (c_ask hcl ht0 ht1 (σ := (zw σ (σ.2 29) v1 (σ.2 36) (σ.1 30 + k1 * σ.1 13) (σ.1 31 + k1) (σ.1 32) (σ.1 33) (zsd (σ.1 34) k1))) xc xw (hok) (by omega) (hw) (hW) (hp)) (cwV 2 hts (mg_V mk_197 mk_205 mk_206 mk_207 mk_43) rfl rfl rfl (by decide +kernel) ⟨Nat.le_of_ble_eq_true rfl, Nat.le_of_ble_eq_true rfl⟩) rfl (Nat.le_of_ble_eq_true rfl) dX12_begin_60 ⟨Nat.le_refl _, Nat.le_refl _⟩ (fun H locs X => ?_)
                replace X := ap_nil' X
                refine gi_raw (y := (nI (zans σ (znx ((zsd (σ.1 34) k1))) xc xw))) rfl ?_
                replace X := wh_eq (zw_F30F31F34 ((σ.1 30 + k1 * σ.1 13) + (σ.1 13)) ((σ.1 31 + k1) + 1) (znx (zsd (σ.1 34) k1))) X
                refine lv_istore (lv' := [(7, .int (nI (zans σ (znx ((zsd (σ.1 34) k1))) xc xw))), (0, .ref o), (1, .int (nI xw)), (2, .int (nI xc)), (3, .int (nI 2)), (4, .int (nI xf)), (5, .int (-1)), (6, .int (nI k1))]) hx hb dX12_begin_63 hl (by decide) rfl (fun ls hl => ?_)
                refine lv_iload hx hb dX12_begin_65 (lv_at hl 0 rfl) ?_
                by_cases ea : zans σ (znx ((zsd (σ.1 34) k1))) xc xw = 4294967295
                ·
                  refine gi_raw (y := (-1)) (by rw [ea]; decide) ?_
                  refine lv_if_lt (tgt := 81) hx hb dX12_begin_67 (by decide) (fun c_67 => ?_) (fun c_67 => ?_)
                  ·
                    refine lv_iinc (v := nI (k1 + 1)) (lv' := [(6, .int (nI (k1 + 1))), (7, .int (nI (zans σ (znx ((zsd (σ.1 34) k1))) xc xw))), (0, .ref o), (1, .int (nI xw)), (2, .int (nI xc)), (3, .int (nI 2)), (4, .int (nI xf)), (5, .int (-1))]) hx hb dX12_begin_81 hl (k := 7) rfl (zn_inc _) (by decide) rfl (fun ls hl => ?_)
                    refine lv_goto (tgt := 50) hx hb dX12_begin_84 (by decide) ?_
                    refine ih_50 (k1 + 1) v1 (by omega) (fun o ho => by first | exact zvotes_no (hv o ho) ea (by omega) | exact zvotes_up (hv o ho)) (by omega) _ _ _ (by exact wh_eq (zw_c rfl rfl rfl (by rw [Nat.succ_mul, Nat.add_assoc]) rfl rfl rfl rfl) X) (by exact lv_sub hl [2, 3, 4, 5, 6, 7, 0] rfl)
                  · exact absurd c_67 (by decide)
                have hz9 := zans_lt (σ := σ) (z := znx (zsd (σ.1 34) k1)) (c := xc) hw
                refine gn_if_lt (tgt := 81) hx hb dX12_begin_67 (by decide) (by omega) ?_
                refine lv_aload_n hx hb dX12_begin_70 rfl (lv_at hl 1 rfl) ?_
                refine m_geta G X 35 rfl (hwd _ mk_25) rfl dX12_begin_71 ?_
                refine lv_iload hx hb dX12_begin_74 (lv_at hl 0 rfl) ?_
                refine lv_dup2_11 hx hb dX12_begin_76 rfl rfl ?_
                refine m_iald G X 35 rfl (i := (zans σ (znx ((zsd (σ.1 34) k1))) xc xw)) (by show _ < 5; omega) (by omega) dX12_begin_77 ?_
                refine gi_eq (a := (v1 (zans σ (znx ((zsd (σ.1 34) k1))) xc xw))) rfl ?_
                refine lv_iconst (v := nI 1) hx hb dX12_begin_78 (by decide) ?_
                refine gn_iadd hx hb dX12_begin_79  ?_
                refine m_iast G X 35 rfl (i := (zans σ (znx ((zsd (σ.1 34) k1))) xc xw)) (v := ((v1 (zans σ (znx ((zsd (σ.1 34) k1))) xc xw)) + 1)) (by show _ < 5; omega) (by omega) dX12_begin_80 (fun H locs X => ?_)
                replace X := wh_eq zw_E35 X
                refine lv_iinc (v := nI (k1 + 1)) (lv' := [(6, .int (nI (k1 + 1))), (7, .int (nI (zans σ (znx ((zsd (σ.1 34) k1))) xc xw))), (0, .ref o), (1, .int (nI xw)), (2, .int (nI xc)), (3, .int (nI 2)), (4, .int (nI xf)), (5, .int (-1))]) hx hb dX12_begin_81 hl (k := 7) rfl (zn_inc _) (by decide) rfl (fun ls hl => ?_)
                refine lv_goto (tgt := 50) hx hb dX12_begin_84 (by decide) ?_
                refine ih_50 (k1 + 1) (fun a1 => if a1 = zans σ (znx ((zsd (σ.1 34) k1))) xc xw then (v1 (zans σ (znx ((zsd (σ.1 34) k1))) xc xw)) + 1 else v1 a1) (by omega) (fun o ho => by first | exact zvotes_no (hv o ho) ea (by omega) | exact zvotes_up (hv o ho)) (by omega) _ _ _ (by exact wh_eq (zw_c rfl rfl rfl (by rw [Nat.succ_mul, Nat.add_assoc]) rfl rfl rfl rfl) X) (by exact lv_sub hl [2, 3, 4, 5, 6, 7, 0] rfl)
          refine cut_50 _ 0 (zcp (fun _ => 0) (σ.2 35) (σ.1 4)) (Nat.zero_le _) (fun o ho => zcp_in ho) (Nat.lt_succ_self _) _ _ _ (by exact wh_eq (zw_c rfl (by rw [show o1 = σ.1 4 by omega]) rfl (by rw [Nat.zero_mul]; rfl) rfl rfl rfl rfl) X) (by exact lv_sub hl [1, 2, 3, 4, 5, 6, 0] rfl)
        ·
          refine lv_aload_n hx hb dX12_begin_33 rfl (lv_at hl 0 rfl) ?_
          refine m_geta G X 35 rfl (hwd _ mk_25) rfl dX12_begin_34 ?_
          refine lv_iload hx hb dX12_begin_37 (lv_at hl 6 rfl) ?_
          refine lv_iconst (v := nI 0) hx hb dX12_begin_39 (by decide) ?_
          refine m_iast G X 35 rfl (i := o1) (v := 0) (by show _ < 5; omega) (by omega) dX12_begin_40 (fun H locs X => ?_)
          replace X := wh_eq zw_E35 X
          refine lv_iinc (v := nI (o1 + 1)) (lv' := [(6, .int (nI (o1 + 1))), (0, .ref o), (1, .int (nI xw)), (2, .int (nI xc)), (3, .int (nI 2)), (4, .int (nI xf)), (5, .int (-1))]) hx hb dX12_begin_41 hl (k := 6) rfl (zn_inc _) (by decide) rfl (fun ls hl => ?_)
          refine lv_goto (tgt := 24) hx hb dX12_begin_44 (by decide) ?_
          refine ih_24 (o1 + 1) (by omega) (by omega) _ _ _ (by exact wh_eq (zw_c rfl (zcp_1 rfl) rfl rfl rfl rfl rfl rfl) X) (by exact lv_sub hl [1, 2, 3, 4, 5, 6, 0] rfl)
    refine cut_24 _ 0 (Nat.zero_le _) (Nat.lt_succ_self _) _ _ _ (by exact wh_eq (zw_c rfl (funext fun a => (zcp_out (Nat.zero_le a)).symm) rfl rfl rfl rfl rfl rfl) X) (by exact lv_sub hl [2, 3, 4, 5, 6, 1, 0] rfl)
  by_cases e5 : xr = 5
  ·
    subst e5
    refine lv_istore (lv' := [(5, .int (-1)), (0, .ref o), (1, .int (nI xw)), (2, .int (nI xc)), (3, .int (nI 5)), (4, .int (nI xf))]) hx hb dX12_begin_1 hl (by decide) rfl (fun ls hl => ?_)
    refine lv_iload_n hx hb dX12_begin_3 rfl (lv_at hl 4 rfl) ?_
    refine lv_iconst (v := nI 1) hx hb dX12_begin_4 (by decide) ?_
    refine gn_icmp_ne (tgt := 16) hx hb dX12_begin_5 (by decide) (by decide) (by decide) (fun c_5 => ?_) (fun c_5 => absurd c_5 (by decide))
    refine lv_iload_n hx hb dX12_begin_16 rfl (lv_at hl 4 rfl) ?_
    refine lv_iconst (v := nI 2) hx hb dX12_begin_17 (by decide) ?_
    refine gn_icmp_ne (tgt := 140) hx hb dX12_begin_18 (by decide) (by decide) (by decide) (fun c_18 => ?_) (fun c_18 => absurd c_18 (by decide))
    refine lv_iload_n hx hb dX12_begin_140 rfl (lv_at hl 4 rfl) ?_
    refine lv_iconst (v := nI 5) hx hb dX12_begin_141 (by decide) ?_
    refine gn_icmp_ne (tgt := 162) hx hb dX12_begin_142 (by decide) (by decide) (by decide) (fun c_142 => absurd c_142 (by decide)) (fun c_142 => ?_)
    refine lv_aload_n hx hb dX12_begin_145 rfl (lv_at hl 1 rfl) ?_
    refine lv_iload hx hb dX12_begin_146 (lv_at hl 5 rfl) ?_
    refine ctI_V (wf := []) (As := [.int (nI xf)]) (rest := []) (n := 1) hx hb hml hown hts hK hA (ap_nil X) hl.1 (m_recv G X) (c_isWorld hcl ht0 ht1 (σ := (zw σ (σ.2 29) (σ.2 35) (σ.2 36) (σ.1 30) (σ.1 31) (σ.1 32) (σ.1 33) (σ.1 34))) (nI xf) (hok)) (cwV 1 hts (mg_V mk_44 mk_104 mk_105 mk_106 mk_43) rfl rfl rfl (by decide +kernel) ⟨Nat.le_of_ble_eq_true rfl, Nat.le_of_ble_eq_true rfl⟩) rfl (Nat.le_of_ble_eq_true rfl) dX12_begin_148 ⟨Nat.le_refl _, Nat.le_refl _⟩ (fun H locs X => ?_)
    replace X := ap_nil' X
    refine gi_raw (y := (if 0 ≤ (nI xf).toInt ∧ (nI xf).toInt < ((σ.1 4) : Int) then 1 else 0)) rfl ?_
    refine gb_if_eq (tgt := 159) hx hb dX12_begin_151 (by decide) (fun c_151 => ?_) (fun c_151 => ?_)
    ·
      have hx9 : ¬ xf < σ.1 4 := fun h => c_151 (by rw [zi_of (by omega)]; omega)
      refine lv_iconst (v := (-1)) hx hb dX12_begin_159 (by decide) ?_
      refine lv_istore (lv' := [(5, .int (-1)), (0, .ref o), (1, .int (nI xw)), (2, .int (nI xc)), (3, .int (nI 5)), (4, .int (nI xf))]) hx hb dX12_begin_160 hl (by decide) rfl (fun ls hl => ?_)
      refine lv_iload hx hb dX12_begin_162 (lv_at hl 0 rfl) ?_
      refine lv_if_lt (tgt := 173) hx hb dX12_begin_164 (by decide) (fun c_164 => ?_) (fun c_164 => ?_)
      ·
        exact fin _ _ _ _ (zw σ (σ.2 29) (σ.2 35) (σ.2 36) (σ.1 30) (σ.1 31) (σ.1 32) (σ.1 33) (σ.1 34)) (⟨_, zw_c (by unfold zbmind; rw [show ztold σ (σ.1 34) xc xw 5 xf = (if xf < σ.1 4 then xf else 4294967295) from rfl]; first | (rw [if_pos hx9, if_neg (by omega)]) | (rw [if_neg hx9, if_pos rfl])) rfl rfl (by show _ = σ.1 30 + 0 * σ.1 13; rw [Nat.zero_mul]; rfl) (rfl) rfl rfl (rfl)⟩) X dX12_begin_173
      · exact absurd c_164 (by decide)
    ·
      have hx9 : xf < σ.1 4 := by rw [zi_of (show xf < 2147483648 by omega)] at c_151; omega
      refine lv_iload hx hb dX12_begin_154 (lv_at hl 5 rfl) ?_
      refine lv_goto (tgt := 160) hx hb dX12_begin_156 (by decide) ?_
      refine lv_istore (lv' := [(5, .int (nI xf)), (0, .ref o), (1, .int (nI xw)), (2, .int (nI xc)), (3, .int (nI 5)), (4, .int (nI xf))]) hx hb dX12_begin_160 hl (by decide) rfl (fun ls hl => ?_)
      refine lv_iload hx hb dX12_begin_162 (lv_at hl 0 rfl) ?_
      refine gn_if_lt (tgt := 173) hx hb dX12_begin_164 (by decide) (by omega) ?_
      refine lv_aload_n hx hb dX12_begin_167 rfl (lv_at hl 1 rfl) ?_
      refine lv_iload hx hb dX12_begin_168 (lv_at hl 0 rfl) ?_
      refine ctV_V (wf := []) (As := [.int (nI xf)]) (rest := []) (n := 1) hx hb hml hown hts hK hA (ap_nil X) hl.1 (m_recv G X) (c_believe hcl ht0 ht1 (σ := (zw σ (σ.2 29) (σ.2 35) (σ.2 36) (σ.1 30) (σ.1 31) (σ.1 32) (σ.1 33) (σ.1 34))) xf (hok) (by omega)) (cwV 1 hts (mg_V mk_204 mk_208 mk_209 mk_210 mk_43) rfl rfl rfl (by decide +kernel) ⟨Nat.le_of_ble_eq_true rfl, Nat.le_of_ble_eq_true rfl⟩) rfl (Nat.le_of_ble_eq_true rfl) dX12_begin_170 ⟨Nat.le_refl _, Nat.le_refl _⟩ (fun H locs X => ?_)
      replace X := ap_nil' X
      replace X := wh_eq (zw_A29 (g := zcp (zbelM ((σ.2 29)) xf) (σ.2 29) ((σ.1 4)))) X
      exact fin _ _ _ _ (zw σ (zcp (zbelM ((σ.2 29)) xf) (σ.2 29) ((σ.1 4))) (σ.2 35) (σ.2 36) (σ.1 30) (σ.1 31) (σ.1 32) (σ.1 33) (σ.1 34)) (⟨_, zw_c (by unfold zbmind; rw [show ztold σ (σ.1 34) xc xw 5 xf = (if xf < σ.1 4 then xf else 4294967295) from rfl]; first | (rw [if_pos hx9, if_neg (by omega)]) | (rw [if_neg hx9, if_pos rfl])) rfl rfl (by show _ = σ.1 30 + 0 * σ.1 13; rw [Nat.zero_mul]; rfl) (rfl) rfl rfl (rfl)⟩) X dX12_begin_173
  refine lv_istore (lv' := [(5, .int (-1)), (0, .ref o), (1, .int (nI xw)), (2, .int (nI xc)), (3, .int (nI xr)), (4, .int (nI xf))]) hx hb dX12_begin_1 hl (by decide) rfl (fun ls hl => ?_)
  refine lv_iload_n hx hb dX12_begin_3 rfl (lv_at hl 4 rfl) ?_
  refine lv_iconst (v := nI 1) hx hb dX12_begin_4 (by decide) ?_
  refine gn_icmp_ne (tgt := 16) hx hb dX12_begin_5 (by decide) (by omega) (by omega) (fun c_5 => ?_) (fun c_5 => ?_)
  ·
    refine lv_iload_n hx hb dX12_begin_16 rfl (lv_at hl 4 rfl) ?_
    refine lv_iconst (v := nI 2) hx hb dX12_begin_17 (by decide) ?_
    refine gn_icmp_ne (tgt := 140) hx hb dX12_begin_18 (by decide) (by omega) (by omega) (fun c_18 => ?_) (fun c_18 => ?_)
    ·
      refine lv_iload_n hx hb dX12_begin_140 rfl (lv_at hl 4 rfl) ?_
      refine lv_iconst (v := nI 5) hx hb dX12_begin_141 (by decide) ?_
      refine gn_icmp_ne (tgt := 162) hx hb dX12_begin_142 (by decide) (by omega) (by omega) (fun c_142 => ?_) (fun c_142 => ?_)
      ·
        replace hK0 := hK0 e1 e2
        replace hT0 := hT0 e1 e2 e5
        refine lv_iload hx hb dX12_begin_162 (lv_at hl 0 rfl) ?_
        refine lv_if_lt (tgt := 173) hx hb dX12_begin_164 (by decide) (fun c_164 => ?_) (fun c_164 => ?_)
        ·
          exact fin _ _ _ _ (zw σ (σ.2 29) (σ.2 35) (σ.2 36) (σ.1 30) (σ.1 31) (σ.1 32) (σ.1 33) (σ.1 34)) (⟨_, zw_c (by unfold zbmind; rw [hT0, if_pos rfl]) rfl rfl (by rw [hK0, Nat.zero_mul]; rfl) (by rw [hK0]; rfl) rfl rfl (by rw [hK0]; rfl)⟩) X dX12_begin_173
        · exact absurd c_164 (by decide)
      ·
        exact absurd c_142 e5
    ·
      exact absurd c_18 e2
  ·
    exact absurd c_5 e1
