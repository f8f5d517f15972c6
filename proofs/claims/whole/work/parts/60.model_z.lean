set_option maxHeartbeats 4000000 in
set_option maxRecDepth 100000 in
theorem c_moveAll {l : Launch} {D : va_G} {cl : List vw_C} {tys : List (ClassId × FieldType)} {o : Nat} {q : Nat → Nat} {ci : Nat} {cI cJ : ClassId} (hcl : cl[ci]? = some (RX12, TX12, 48)) (ht0 : tys[0]? = some (cI, .int)) (ht1 : tys[1]? = some (cJ, .long)) {σ : MS} (hok : zmvOk σ) : ctV l D cl tys yX12_moveAll (Cond.code yX12_moveAll cX12_moveAll 2 (none) :: mW) { frames := 2, cells := 0, slots := 0, locals := 43 } [.ref o] (mw o q ci cI cJ σ) (mw o q ci cI cJ (zmv σ 133)) := by
  refine ctV_of (cc := cX12_moveAll) (maxL := 2) (by decide +kernel) rfl (Nat.le_of_ble_eq_true rfl) ?_
  intro p e s m args below meth c A Q ls hx hb hml hown hts hK hA X hl fin
  replace hown : s.vm.findClass RX12 = some m.cls := hown
  have hwd : ∀ w ∈ mW, w.before args s = true := fun w h => hts w (List.mem_cons_of_mem _ h)
  have G : mG p c cX12_moveAll s m args D cl tys ci cI cJ := ⟨hx, hb, hown, hwd, hK, hcl, ht0, ht1⟩
  replace hl : lv_has ls 2 [(0, .ref o)] := hl
  refine lv_aload_n hx hb dX12_moveAll_0 rfl (lv_at hl 0 rfl) ?_
  refine lv_iconst (v := nI 0) hx hb dX12_moveAll_1 (by decide) ?_
  refine m_puti G X 39 rfl (hwd _ mk_265) rfl (ty := .int) (by decide +kernel) rfl rfl dX12_moveAll_2 (fun H locs X => ?_)
  replace X := wh_eq zmv_0 X
  refine lv_aload_n hx hb dX12_moveAll_5 rfl (lv_at hl 0 rfl) ?_
  refine lv_aload_n hx hb dX12_moveAll_6 rfl (lv_at hl 0 rfl) ?_
  refine lv_aload_n hx hb dX12_moveAll_7 rfl (lv_at hl 0 rfl) ?_
  refine m_geti G X 0 rfl (hwd _ mk_77) rfl dX12_moveAll_8 ?_
  refine gi_eq (a := (σ.1 0)) (zmv_rF (show 0 ≤ zpF 0 from Nat.le_of_eq rfl) (by decide)) ?_
  refine ctI_V (wf := []) (As := [.int (nI (σ.1 0))]) (rest := [.ref o]) (n := 1) hx hb hml hown hts hK hA (ap_nil X) hl.1 (m_recv G X) (c_move hcl ht0 ht1 (σ := (zmv σ 0)) (σ.1 0) (hok.2.1 0 (by decide)) (show 0 < 150 by omega) (by rw [zmv_40 (by omega)]; exact hok.1)) (cwV 1 hts (mg_V mk_266 mk_270 mk_271 mk_272 mk_43) rfl rfl rfl (by decide +kernel) ⟨Nat.le_of_ble_eq_true rfl, Nat.le_of_ble_eq_true rfl⟩) rfl (Nat.le_of_ble_eq_true rfl) dX12_moveAll_11 ⟨Nat.le_refl _, Nat.le_refl _⟩ (fun H locs X => ?_)
  replace X := ap_nil' X
  refine m_puti G X 0 rfl (hwd _ mk_77) rfl (ty := .int) (by decide +kernel) rfl rfl dX12_moveAll_14 (fun H locs X => ?_)
  replace X := wh_eq (zmv_F (σ := σ) (n := 0) (j := 0) rfl (by decide) rfl) X
  refine lv_aload_n hx hb dX12_moveAll_17 rfl (lv_at hl 0 rfl) ?_
  refine lv_aload_n hx hb dX12_moveAll_18 rfl (lv_at hl 0 rfl) ?_
  refine lv_aload_n hx hb dX12_moveAll_19 rfl (lv_at hl 0 rfl) ?_
  refine m_geti G X 4 rfl (hwd _ mk_45) rfl dX12_moveAll_20 ?_
  refine gi_eq (a := (σ.1 4)) (zmv_rF (show 1 ≤ zpF 4 from Nat.le_of_eq rfl) (by decide)) ?_
  refine ctI_V (wf := []) (As := [.int (nI (σ.1 4))]) (rest := [.ref o]) (n := 1) hx hb hml hown hts hK hA (ap_nil X) hl.1 (m_recv G X) (c_move hcl ht0 ht1 (σ := (zmv σ 1)) (σ.1 4) (hok.2.1 4 (by decide)) (show 1 < 150 by omega) (by rw [zmv_40 (by omega)]; exact hok.1)) (cwV 1 hts (mg_V mk_266 mk_270 mk_271 mk_272 mk_43) rfl rfl rfl (by decide +kernel) ⟨Nat.le_of_ble_eq_true rfl, Nat.le_of_ble_eq_true rfl⟩) rfl (Nat.le_of_ble_eq_true rfl) dX12_moveAll_23 ⟨Nat.le_refl _, Nat.le_refl _⟩ (fun H locs X => ?_)
  replace X := ap_nil' X
  refine m_puti G X 4 rfl (hwd _ mk_45) rfl (ty := .int) (by decide +kernel) rfl rfl dX12_moveAll_26 (fun H locs X => ?_)
  replace X := wh_eq (zmv_F (σ := σ) (n := 1) (j := 4) rfl (by decide) rfl) X
  refine lv_aload_n hx hb dX12_moveAll_29 rfl (lv_at hl 0 rfl) ?_
  refine lv_aload_n hx hb dX12_moveAll_30 rfl (lv_at hl 0 rfl) ?_
  refine lv_aload_n hx hb dX12_moveAll_31 rfl (lv_at hl 0 rfl) ?_
  refine m_geti G X 8 rfl (hwd _ mk_80) rfl dX12_moveAll_32 ?_
  refine gi_eq (a := (σ.1 8)) (zmv_rF (show 2 ≤ zpF 8 from Nat.le_of_eq rfl) (by decide)) ?_
  refine ctI_V (wf := []) (As := [.int (nI (σ.1 8))]) (rest := [.ref o]) (n := 1) hx hb hml hown hts hK hA (ap_nil X) hl.1 (m_recv G X) (c_move hcl ht0 ht1 (σ := (zmv σ 2)) (σ.1 8) (hok.2.1 8 (by decide)) (show 2 < 150 by omega) (by rw [zmv_40 (by omega)]; exact hok.1)) (cwV 1 hts (mg_V mk_266 mk_270 mk_271 mk_272 mk_43) rfl rfl rfl (by decide +kernel) ⟨Nat.le_of_ble_eq_true rfl, Nat.le_of_ble_eq_true rfl⟩) rfl (Nat.le_of_ble_eq_true rfl) dX12_moveAll_35 ⟨Nat.le_refl _, Nat.le_refl _⟩ (fun H locs X => ?_)
  replace X := ap_nil' X
  refine m_puti G X 8 rfl (hwd _ mk_80) rfl (ty := .int) (by decide +kernel) rfl rfl dX12_moveAll_38 (fun H locs X => ?_)
  replace X := wh_eq (zmv_F (σ := σ) (n := 2) (j := 8) rfl (by decide) rfl) X
  refine lv_aload_n hx hb dX12_moveAll_41 rfl (lv_at hl 0 rfl) ?_
  refine lv_aload_n hx hb dX12_moveAll_42 rfl (lv_at hl 0 rfl) ?_
  refine lv_aload_n hx hb dX12_moveAll_43 rfl (lv_at hl 0 rfl) ?_
  refine m_geti G X 12 rfl (hwd _ mk_81) rfl dX12_moveAll_44 ?_
  refine gi_eq (a := (σ.1 12)) (zmv_rF (show 3 ≤ zpF 12 from Nat.le_of_eq rfl) (by decide)) ?_
  refine ctI_V (wf := []) (As := [.int (nI (σ.1 12))]) (rest := [.ref o]) (n := 1) hx hb hml hown hts hK hA (ap_nil X) hl.1 (m_recv G X) (c_move hcl ht0 ht1 (σ := (zmv σ 3)) (σ.1 12) (hok.2.1 12 (by decide)) (show 3 < 150 by omega) (by rw [zmv_40 (by omega)]; exact hok.1)) (cwV 1 hts (mg_V mk_266 mk_270 mk_271 mk_272 mk_43) rfl rfl rfl (by decide +kernel) ⟨Nat.le_of_ble_eq_true rfl, Nat.le_of_ble_eq_true rfl⟩) rfl (Nat.le_of_ble_eq_true rfl) dX12_moveAll_47 ⟨Nat.le_refl _, Nat.le_refl _⟩ (fun H locs X => ?_)
  replace X := ap_nil' X
  refine m_puti G X 12 rfl (hwd _ mk_81) rfl (ty := .int) (by decide +kernel) rfl rfl dX12_moveAll_50 (fun H locs X => ?_)
  replace X := wh_eq (zmv_F (σ := σ) (n := 3) (j := 12) rfl (by decide) rfl) X
  refine lv_aload_n hx hb dX12_moveAll_53 rfl (lv_at hl 0 rfl) ?_
  refine lv_aload_n hx hb dX12_moveAll_54 rfl (lv_at hl 0 rfl) ?_
  refine lv_aload_n hx hb dX12_moveAll_55 rfl (lv_at hl 0 rfl) ?_
  refine m_geti G X 13 rfl (hwd _ mk_13) rfl dX12_moveAll_56 ?_
  refine gi_eq (a := (σ.1 13)) (zmv_rF (show 4 ≤ zpF 13 from Nat.le_of_eq rfl) (by decide)) ?_
  refine ctI_V (wf := []) (As := [.int (nI (σ.1 13))]) (rest := [.ref o]) (n := 1) hx hb hml hown hts hK hA (ap_nil X) hl.1 (m_recv G X) (c_move hcl ht0 ht1 (σ := (zmv σ 4)) (σ.1 13) (hok.2.1 13 (by decide)) (show 4 < 150 by omega) (by rw [zmv_40 (by omega)]; exact hok.1)) (cwV 1 hts (mg_V mk_266 mk_270 mk_271 mk_272 mk_43) rfl rfl rfl (by decide +kernel) ⟨Nat.le_of_ble_eq_true rfl, Nat.le_of_ble_eq_true rfl⟩) rfl (Nat.le_of_ble_eq_true rfl) dX12_moveAll_59 ⟨Nat.le_refl _, Nat.le_refl _⟩ (fun H locs X => ?_)
  replace X := ap_nil' X
  refine m_puti G X 13 rfl (hwd _ mk_13) rfl (ty := .int) (by decide +kernel) rfl rfl dX12_moveAll_62 (fun H locs X => ?_)
  replace X := wh_eq (zmv_F (σ := σ) (n := 4) (j := 13) rfl (by decide) rfl) X
  replace X := wh_eq (congrArg (zmv σ) (show 4 + 1 = 5 + 3 * 0 by decide)) X
  refine lv_iconst (v := nI 0) hx hb dX12_moveAll_65 (by decide) ?_
  refine lv_istore_n (lv' := [(1, .int (nI 0)), (0, .ref o)]) hx hb dX12_moveAll_66 rfl hl (by decide) rfl (fun ls hl => ?_)
  have cut_67 : ∀ (NN : Nat) (i1 : Nat) (hi1 : i1 ≤ 16), 16 - i1 < NN → ∀ (H : Heap) (locs : List Loc) (ls : Array Slot), wH D cl A s.heap H locs (mw o q ci cI cJ (zmv σ (5 + 3 * i1))) → lv_has ls 2 [(0, .ref o), (1, .int (nI i1))] → W p l e { frames := 2, cells := 0, slots := 0, locals := 43 } s m args below meth c H locs 0 0 Q (F0 m 67 ls []) := by
    intro NN
    induction NN with
    | zero => intro i1 hi1 hNN; exact absurd hNN (Nat.not_lt_zero _)
    | succ NN ih_67 =>
      intro i1 hi1 hNN H locs ls X hl
      refine lv_iload_n hx hb dX12_moveAll_67 rfl (lv_at hl 1 rfl) ?_
      refine lv_bipush (v := nI 16) hx hb dX12_moveAll_68 (by decide) ?_
      refine gn_icmp_ge (tgt := 127) hx hb dX12_moveAll_70 (by decide) (by omega) (by omega) (fun c_70 => ?_) (fun c_70 => ?_)
      ·
        replace X := wh_eq (congrArg (zmv σ) (show 5 + 3 * i1 = 53 + 4 * 0 by omega)) X
        refine lv_iconst (v := nI 0) hx hb dX12_moveAll_127 (by decide) ?_
        refine lv_istore_n (lv' := [(1, .int (nI 0)), (0, .ref o)]) hx hb dX12_moveAll_128 rfl hl (by decide) rfl (fun ls hl => ?_)
        have cut_129 : ∀ (NN : Nat) (i1 : Nat) (hi1 : i1 ≤ 5), 5 - i1 < NN → ∀ (H : Heap) (locs : List Loc) (ls : Array Slot), wH D cl A s.heap H locs (mw o q ci cI cJ (zmv σ (53 + 4 * i1))) → lv_has ls 2 [(0, .ref o), (1, .int (nI i1))] → W p l e { frames := 2, cells := 0, slots := 0, locals := 43 } s m args below meth c H locs 0 0 Q (F0 m 129 ls []) := by
          intro NN
          induction NN with
          | zero => intro i1 hi1 hNN; exact absurd hNN (Nat.not_lt_zero _)
          | succ NN ih_129 =>
            intro i1 hi1 hNN H locs ls X hl
            refine lv_iload_n hx hb dX12_moveAll_129 rfl (lv_at hl 1 rfl) ?_
            refine lv_iconst (v := nI 5) hx hb dX12_moveAll_130 (by decide) ?_
            refine gn_icmp_ge (tgt := 204) hx hb dX12_moveAll_131 (by decide) (by omega) (by omega) (fun c_131 => ?_) (fun c_131 => ?_)
            ·
              replace X := wh_eq (congrArg (zmv σ) (show 53 + 4 * i1 = 73 + 2 * 0 by omega)) X
              refine lv_iconst (v := nI 0) hx hb dX12_moveAll_204 (by decide) ?_
              refine lv_istore_n (lv' := [(1, .int (nI 0)), (0, .ref o)]) hx hb dX12_moveAll_205 rfl hl (by decide) rfl (fun ls hl => ?_)
              have cut_206 : ∀ (NN : Nat) (i1 : Nat) (hi1 : i1 ≤ 6), 6 - i1 < NN → ∀ (H : Heap) (locs : List Loc) (ls : Array Slot), wH D cl A s.heap H locs (mw o q ci cI cJ (zmv σ (73 + 2 * i1))) → lv_has ls 2 [(0, .ref o), (1, .int (nI i1))] → W p l e { frames := 2, cells := 0, slots := 0, locals := 43 } s m args below meth c H locs 0 0 Q (F0 m 206 ls []) := by
                intro NN
                induction NN with
                | zero => intro i1 hi1 hNN; exact absurd hNN (Nat.not_lt_zero _)
                | succ NN ih_206 =>
                  intro i1 hi1 hNN H locs ls X hl
                  refine lv_iload_n hx hb dX12_moveAll_206 rfl (lv_at hl 1 rfl) ?_
                  refine lv_bipush (v := nI 6) hx hb dX12_moveAll_207 (by decide) ?_
                  refine gn_icmp_ge (tgt := 250) hx hb dX12_moveAll_209 (by decide) (by omega) (by omega) (fun c_209 => ?_) (fun c_209 => ?_)
                  ·
                    replace X := wh_eq (congrArg (zmv σ) (show 73 + 2 * i1 = 85 + 0 by omega)) X
                    refine lv_iconst (v := nI 0) hx hb dX12_moveAll_250 (by decide) ?_
                    refine lv_istore_n (lv' := [(1, .int (nI 0)), (0, .ref o)]) hx hb dX12_moveAll_251 rfl hl (by decide) rfl (fun ls hl => ?_)
                    have cut_252 : ∀ (NN : Nat) (i1 : Nat) (hi1 : i1 ≤ 48), 48 - i1 < NN → ∀ (H : Heap) (locs : List Loc) (ls : Array Slot), wH D cl A s.heap H locs (mw o q ci cI cJ (zmv σ (85 + i1))) → lv_has ls 2 [(0, .ref o), (1, .int (nI i1))] → W p l e { frames := 2, cells := 0, slots := 0, locals := 43 } s m args below meth c H locs 0 0 Q (F0 m 252 ls []) := by
                      intro NN
                      induction NN with
                      | zero => intro i1 hi1 hNN; exact absurd hNN (Nat.not_lt_zero _)
                      | succ NN ih_252 =>
                        intro i1 hi1 hNN H locs ls X hl
                        refine lv_iload_n hx hb dX12_moveAll_252 rfl (lv_at hl 1 rfl) ?_
                        refine lv_bipush (v := nI 48) hx hb dX12_moveAll_253 (by decide) ?_
                        refine gn_icmp_ge (tgt := 280) hx hb dX12_moveAll_255 (by decide) (by omega) (by omega) (fun c_255 => ?_) (fun c_255 => ?_)
                        ·
                          exact finV_of (mw_eq (congrArg (zmv σ) (show 85 + i1 = 133 by omega))) X dX12_moveAll_280 fin
                        ·
                          refine lv_aload_n hx hb dX12_moveAll_258 rfl (lv_at hl 0 rfl) ?_
                          refine m_geta G X 11 rfl (hwd _ mk_12) rfl dX12_moveAll_259 ?_
                          refine lv_iload_n hx hb dX12_moveAll_262 rfl (lv_at hl 1 rfl) ?_
                          refine lv_aload_n hx hb dX12_moveAll_263 rfl (lv_at hl 0 rfl) ?_
                          refine lv_aload_n hx hb dX12_moveAll_264 rfl (lv_at hl 0 rfl) ?_
                          refine m_geta G X 11 rfl (hwd _ mk_12) rfl dX12_moveAll_265 ?_
                          refine lv_iload_n hx hb dX12_moveAll_268 rfl (lv_at hl 1 rfl) ?_
                          refine m_iald G X 11 rfl (i := i1) (by show _ < 48; omega) (by omega) dX12_moveAll_269 ?_
                          refine gi_eq (a := (σ.2 11 i1)) (zmv_rA (Nat.le_of_eq (show (85 + i1) = zpA 11 i1 from ((zpA_e (i := i1) (by omega)).trans (by omega)).symm)) (by decide)) ?_
                          refine ctI_V (wf := []) (As := [.int (nI (σ.2 11 i1))]) (rest := [.int (nI i1), .ref (q 11)]) (n := 1) hx hb hml hown hts hK hA (ap_nil X) hl.1 (m_recv G X) (c_move hcl ht0 ht1 (σ := (zmv σ (85 + i1))) (σ.2 11 i1) (hok.2.2 11 i1 (by decide) (by have h9 : zpA 11 i1 = (85 + i1) := ((zpA_e (i := i1) (by omega)).trans (by omega)); omega)) (show (85 + i1) < 150 by omega) (by rw [zmv_40 (by omega)]; exact hok.1)) (cwV 1 hts (mg_V mk_266 mk_270 mk_271 mk_272 mk_43) rfl rfl rfl (by decide +kernel) ⟨Nat.le_of_ble_eq_true rfl, Nat.le_of_ble_eq_true rfl⟩) rfl (Nat.le_of_ble_eq_true rfl) dX12_moveAll_270 ⟨Nat.le_refl _, Nat.le_refl _⟩ (fun H locs X => ?_)
                          replace X := ap_nil' X
                          refine m_iast G X 11 rfl (i := i1) (v := (zmvR (zmv σ (85 + i1)) (σ.2 11 i1))) (by show _ < 48; omega) (by omega) dX12_moveAll_273 (fun H locs X => ?_)
                          replace X := wh_eq ((zmv_E (σ := σ) (n := (85 + i1)) (j := 11) (i := i1) ((zpA_e (i := i1) (by omega)).trans (by omega)) (by omega) rfl).trans (congrArg (zmv σ) (show (85 + i1) + 1 = (85 + (i1 + 1)) by omega))) X
                          refine lv_iinc (v := nI (i1 + 1)) (lv' := [(1, .int (nI (i1 + 1))), (0, .ref o)]) hx hb dX12_moveAll_274 hl (k := 1) rfl (zn_inc _) (by decide) rfl (fun ls hl => ?_)
                          refine lv_goto (tgt := 252) hx hb dX12_moveAll_277 (by decide) ?_
                          refine ih_252 (i1 + 1) (by omega) (by omega) _ _ _ (by exact X) (by exact lv_sub hl [1, 0] rfl)
                    refine cut_252 _ 0 (Nat.zero_le _) (Nat.lt_succ_self _) _ _ _ (by exact X) (by exact lv_sub hl [1, 0] rfl)
                  ·
                    refine lv_aload_n hx hb dX12_moveAll_212 rfl (lv_at hl 0 rfl) ?_
                    refine m_geta G X 9 rfl (hwd _ mk_10) rfl dX12_moveAll_213 ?_
                    refine lv_iload_n hx hb dX12_moveAll_216 rfl (lv_at hl 1 rfl) ?_
                    refine lv_aload_n hx hb dX12_moveAll_217 rfl (lv_at hl 0 rfl) ?_
                    refine lv_aload_n hx hb dX12_moveAll_218 rfl (lv_at hl 0 rfl) ?_
                    refine m_geta G X 9 rfl (hwd _ mk_10) rfl dX12_moveAll_219 ?_
                    refine lv_iload_n hx hb dX12_moveAll_222 rfl (lv_at hl 1 rfl) ?_
                    refine m_iald G X 9 rfl (i := i1) (by show _ < 6; omega) (by omega) dX12_moveAll_223 ?_
                    refine gi_eq (a := (σ.2 9 i1)) (zmv_rA (Nat.le_of_eq (show (73 + 2 * i1) = zpA 9 i1 from ((zpA_d (Or.inl rfl) (i := i1) (by omega)).trans (by omega)).symm)) (by decide)) ?_
                    refine ctI_V (wf := []) (As := [.int (nI (σ.2 9 i1))]) (rest := [.int (nI i1), .ref (q 9)]) (n := 1) hx hb hml hown hts hK hA (ap_nil X) hl.1 (m_recv G X) (c_move hcl ht0 ht1 (σ := (zmv σ (73 + 2 * i1))) (σ.2 9 i1) (hok.2.2 9 i1 (by decide) (by have h9 : zpA 9 i1 = (73 + 2 * i1) := ((zpA_d (Or.inl rfl) (i := i1) (by omega)).trans (by omega)); omega)) (show (73 + 2 * i1) < 150 by omega) (by rw [zmv_40 (by omega)]; exact hok.1)) (cwV 1 hts (mg_V mk_266 mk_270 mk_271 mk_272 mk_43) rfl rfl rfl (by decide +kernel) ⟨Nat.le_of_ble_eq_true rfl, Nat.le_of_ble_eq_true rfl⟩) rfl (Nat.le_of_ble_eq_true rfl) dX12_moveAll_224 ⟨Nat.le_refl _, Nat.le_refl _⟩ (fun H locs X => ?_)
                    replace X := ap_nil' X
                    refine m_iast G X 9 rfl (i := i1) (v := (zmvR (zmv σ (73 + 2 * i1)) (σ.2 9 i1))) (by show _ < 6; omega) (by omega) dX12_moveAll_227 (fun H locs X => ?_)
                    replace X := wh_eq ((zmv_E (σ := σ) (n := (73 + 2 * i1)) (j := 9) (i := i1) ((zpA_d (Or.inl rfl) (i := i1) (by omega)).trans (by omega)) (by omega) rfl).trans (congrArg (zmv σ) (show (73 + 2 * i1) + 1 = (73 + 2 * i1 + 1) by omega))) X
                    refine lv_aload_n hx hb dX12_moveAll_228 rfl (lv_at hl 0 rfl) ?_
                    refine m_geta G X 10 rfl (hwd _ mk_11) rfl dX12_moveAll_229 ?_
                    refine lv_iload_n hx hb dX12_moveAll_232 rfl (lv_at hl 1 rfl) ?_
                    refine lv_aload_n hx hb dX12_moveAll_233 rfl (lv_at hl 0 rfl) ?_
                    refine lv_aload_n hx hb dX12_moveAll_234 rfl (lv_at hl 0 rfl) ?_
                    refine m_geta G X 10 rfl (hwd _ mk_11) rfl dX12_moveAll_235 ?_
                    refine lv_iload_n hx hb dX12_moveAll_238 rfl (lv_at hl 1 rfl) ?_
                    refine m_iald G X 10 rfl (i := i1) (by show _ < 6; omega) (by omega) dX12_moveAll_239 ?_
                    refine gi_eq (a := (σ.2 10 i1)) (zmv_rA (Nat.le_of_eq (show (73 + 2 * i1 + 1) = zpA 10 i1 from ((zpA_d (Or.inr rfl) (i := i1) (by omega)).trans (by omega)).symm)) (by decide)) ?_
                    refine ctI_V (wf := []) (As := [.int (nI (σ.2 10 i1))]) (rest := [.int (nI i1), .ref (q 10)]) (n := 1) hx hb hml hown hts hK hA (ap_nil X) hl.1 (m_recv G X) (c_move hcl ht0 ht1 (σ := (zmv σ (73 + 2 * i1 + 1))) (σ.2 10 i1) (hok.2.2 10 i1 (by decide) (by have h9 : zpA 10 i1 = (73 + 2 * i1 + 1) := ((zpA_d (Or.inr rfl) (i := i1) (by omega)).trans (by omega)); omega)) (show (73 + 2 * i1 + 1) < 150 by omega) (by rw [zmv_40 (by omega)]; exact hok.1)) (cwV 1 hts (mg_V mk_266 mk_270 mk_271 mk_272 mk_43) rfl rfl rfl (by decide +kernel) ⟨Nat.le_of_ble_eq_true rfl, Nat.le_of_ble_eq_true rfl⟩) rfl (Nat.le_of_ble_eq_true rfl) dX12_moveAll_240 ⟨Nat.le_refl _, Nat.le_refl _⟩ (fun H locs X => ?_)
                    replace X := ap_nil' X
                    refine m_iast G X 10 rfl (i := i1) (v := (zmvR (zmv σ (73 + 2 * i1 + 1)) (σ.2 10 i1))) (by show _ < 6; omega) (by omega) dX12_moveAll_243 (fun H locs X => ?_)
                    replace X := wh_eq ((zmv_E (σ := σ) (n := (73 + 2 * i1 + 1)) (j := 10) (i := i1) ((zpA_d (Or.inr rfl) (i := i1) (by omega)).trans (by omega)) (by omega) rfl).trans (congrArg (zmv σ) (show (73 + 2 * i1 + 1) + 1 = (73 + 2 * (i1 + 1)) by omega))) X
                    refine lv_iinc (v := nI (i1 + 1)) (lv' := [(1, .int (nI (i1 + 1))), (0, .ref o)]) hx hb dX12_moveAll_244 hl (k := 1) rfl (zn_inc _) (by decide) rfl (fun ls hl => ?_)
                    refine lv_goto (tgt := 206) hx hb dX12_moveAll_247 (by decide) ?_
                    refine ih_206 (i1 + 1) (by omega) (by omega) _ _ _ (by exact X) (by exact lv_sub hl [1, 0] rfl)
              refine cut_206 _ 0 (Nat.zero_le _) (Nat.lt_succ_self _) _ _ _ (by exact X) (by exact lv_sub hl [1, 0] rfl)
            ·
              refine lv_aload_n hx hb dX12_moveAll_134 rfl (lv_at hl 0 rfl) ?_
              refine m_geta G X 5 rfl (hwd _ mk_7) rfl dX12_moveAll_135 ?_
              refine lv_iload_n hx hb dX12_moveAll_138 rfl (lv_at hl 1 rfl) ?_
              refine lv_aload_n hx hb dX12_moveAll_139 rfl (lv_at hl 0 rfl) ?_
              refine lv_aload_n hx hb dX12_moveAll_140 rfl (lv_at hl 0 rfl) ?_
              refine m_geta G X 5 rfl (hwd _ mk_7) rfl dX12_moveAll_141 ?_
              refine lv_iload_n hx hb dX12_moveAll_144 rfl (lv_at hl 1 rfl) ?_
              refine m_iald G X 5 rfl (i := i1) (by show _ < 5; omega) (by omega) dX12_moveAll_145 ?_
              refine gi_eq (a := (σ.2 5 i1)) (zmv_rA (Nat.le_of_eq (show (53 + 4 * i1) = zpA 5 i1 from ((zpA_b (Or.inl rfl) (i := i1) (by omega)).trans (by omega)).symm)) (by decide)) ?_
              refine ctI_V (wf := []) (As := [.int (nI (σ.2 5 i1))]) (rest := [.int (nI i1), .ref (q 5)]) (n := 1) hx hb hml hown hts hK hA (ap_nil X) hl.1 (m_recv G X) (c_move hcl ht0 ht1 (σ := (zmv σ (53 + 4 * i1))) (σ.2 5 i1) (hok.2.2 5 i1 (by decide) (by have h9 : zpA 5 i1 = (53 + 4 * i1) := ((zpA_b (Or.inl rfl) (i := i1) (by omega)).trans (by omega)); omega)) (show (53 + 4 * i1) < 150 by omega) (by rw [zmv_40 (by omega)]; exact hok.1)) (cwV 1 hts (mg_V mk_266 mk_270 mk_271 mk_272 mk_43) rfl rfl rfl (by decide +kernel) ⟨Nat.le_of_ble_eq_true rfl, Nat.le_of_ble_eq_true rfl⟩) rfl (Nat.le_of_ble_eq_true rfl) dX12_moveAll_146 ⟨Nat.le_refl _, Nat.le_refl _⟩ (fun H locs X => ?_)
              replace X := ap_nil' X
              refine m_iast G X 5 rfl (i := i1) (v := (zmvR (zmv σ (53 + 4 * i1)) (σ.2 5 i1))) (by show _ < 5; omega) (by omega) dX12_moveAll_149 (fun H locs X => ?_)
              replace X := wh_eq ((zmv_E (σ := σ) (n := (53 + 4 * i1)) (j := 5) (i := i1) ((zpA_b (Or.inl rfl) (i := i1) (by omega)).trans (by omega)) (by omega) rfl).trans (congrArg (zmv σ) (show (53 + 4 * i1) + 1 = (53 + 4 * i1 + 1) by omega))) X
              refine lv_aload_n hx hb dX12_moveAll_150 rfl (lv_at hl 0 rfl) ?_
              refine m_geta G X 6 rfl (hwd _ mk_8) rfl dX12_moveAll_151 ?_
              refine lv_iload_n hx hb dX12_moveAll_154 rfl (lv_at hl 1 rfl) ?_
              refine lv_aload_n hx hb dX12_moveAll_155 rfl (lv_at hl 0 rfl) ?_
              refine lv_aload_n hx hb dX12_moveAll_156 rfl (lv_at hl 0 rfl) ?_
              refine m_geta G X 6 rfl (hwd _ mk_8) rfl dX12_moveAll_157 ?_
              refine lv_iload_n hx hb dX12_moveAll_160 rfl (lv_at hl 1 rfl) ?_
              refine m_iald G X 6 rfl (i := i1) (by show _ < 5; omega) (by omega) dX12_moveAll_161 ?_
              refine gi_eq (a := (σ.2 6 i1)) (zmv_rA (Nat.le_of_eq (show (53 + 4 * i1 + 1) = zpA 6 i1 from ((zpA_b (Or.inr (Or.inl rfl)) (i := i1) (by omega)).trans (by omega)).symm)) (by decide)) ?_
              refine ctI_V (wf := []) (As := [.int (nI (σ.2 6 i1))]) (rest := [.int (nI i1), .ref (q 6)]) (n := 1) hx hb hml hown hts hK hA (ap_nil X) hl.1 (m_recv G X) (c_move hcl ht0 ht1 (σ := (zmv σ (53 + 4 * i1 + 1))) (σ.2 6 i1) (hok.2.2 6 i1 (by decide) (by have h9 : zpA 6 i1 = (53 + 4 * i1 + 1) := ((zpA_b (Or.inr (Or.inl rfl)) (i := i1) (by omega)).trans (by omega)); omega)) (show (53 + 4 * i1 + 1) < 150 by omega) (by rw [zmv_40 (by omega)]; exact hok.1)) (cwV 1 hts (mg_V mk_266 mk_270 mk_271 mk_272 mk_43) rfl rfl rfl (by decide +kernel) ⟨Nat.le_of_ble_eq_true rfl, Nat.le_of_ble_eq_true rfl⟩) rfl (Nat.le_of_ble_eq_true rfl) dX12_moveAll_162 ⟨Nat.le_refl _, Nat.le_refl _⟩ (fun H locs X => ?_)
              replace X := ap_nil' X
              refine m_iast G X 6 rfl (i := i1) (v := (zmvR (zmv σ (53 + 4 * i1 + 1)) (σ.2 6 i1))) (by show _ < 5; omega) (by omega) dX12_moveAll_165 (fun H locs X => ?_)
              replace X := wh_eq ((zmv_E (σ := σ) (n := (53 + 4 * i1 + 1)) (j := 6) (i := i1) ((zpA_b (Or.inr (Or.inl rfl)) (i := i1) (by omega)).trans (by omega)) (by omega) rfl).trans (congrArg (zmv σ) (show (53 + 4 * i1 + 1) + 1 = (53 + 4 * i1 + 2) by omega))) X
              refine lv_aload_n hx hb dX12_moveAll_166 rfl (lv_at hl 0 rfl) ?_
              refine m_geta G X 7 rfl (hwd _ mk_9) rfl dX12_moveAll_167 ?_
              refine lv_iload_n hx hb dX12_moveAll_170 rfl (lv_at hl 1 rfl) ?_
              refine lv_aload_n hx hb dX12_moveAll_171 rfl (lv_at hl 0 rfl) ?_
              refine lv_aload_n hx hb dX12_moveAll_172 rfl (lv_at hl 0 rfl) ?_
              refine m_geta G X 7 rfl (hwd _ mk_9) rfl dX12_moveAll_173 ?_
              refine lv_iload_n hx hb dX12_moveAll_176 rfl (lv_at hl 1 rfl) ?_
              refine m_iald G X 7 rfl (i := i1) (by show _ < 5; omega) (by omega) dX12_moveAll_177 ?_
              refine gi_eq (a := (σ.2 7 i1)) (zmv_rA (Nat.le_of_eq (show (53 + 4 * i1 + 2) = zpA 7 i1 from ((zpA_b (Or.inr (Or.inr rfl)) (i := i1) (by omega)).trans (by omega)).symm)) (by decide)) ?_
              refine ctI_V (wf := []) (As := [.int (nI (σ.2 7 i1))]) (rest := [.int (nI i1), .ref (q 7)]) (n := 1) hx hb hml hown hts hK hA (ap_nil X) hl.1 (m_recv G X) (c_move hcl ht0 ht1 (σ := (zmv σ (53 + 4 * i1 + 2))) (σ.2 7 i1) (hok.2.2 7 i1 (by decide) (by have h9 : zpA 7 i1 = (53 + 4 * i1 + 2) := ((zpA_b (Or.inr (Or.inr rfl)) (i := i1) (by omega)).trans (by omega)); omega)) (show (53 + 4 * i1 + 2) < 150 by omega) (by rw [zmv_40 (by omega)]; exact hok.1)) (cwV 1 hts (mg_V mk_266 mk_270 mk_271 mk_272 mk_43) rfl rfl rfl (by decide +kernel) ⟨Nat.le_of_ble_eq_true rfl, Nat.le_of_ble_eq_true rfl⟩) rfl (Nat.le_of_ble_eq_true rfl) dX12_moveAll_178 ⟨Nat.le_refl _, Nat.le_refl _⟩ (fun H locs X => ?_)
              replace X := ap_nil' X
              refine m_iast G X 7 rfl (i := i1) (v := (zmvR (zmv σ (53 + 4 * i1 + 2)) (σ.2 7 i1))) (by show _ < 5; omega) (by omega) dX12_moveAll_181 (fun H locs X => ?_)
              replace X := wh_eq ((zmv_E (σ := σ) (n := (53 + 4 * i1 + 2)) (j := 7) (i := i1) ((zpA_b (Or.inr (Or.inr rfl)) (i := i1) (by omega)).trans (by omega)) (by omega) rfl).trans (congrArg (zmv σ) (show (53 + 4 * i1 + 2) + 1 = (53 + 4 * i1 + 3) by omega))) X
              refine lv_aload_n hx hb dX12_moveAll_182 rfl (lv_at hl 0 rfl) ?_
              refine m_geta G X 14 rfl (hwd _ mk_15) rfl dX12_moveAll_183 ?_
              refine lv_iload_n hx hb dX12_moveAll_186 rfl (lv_at hl 1 rfl) ?_
              refine lv_aload_n hx hb dX12_moveAll_187 rfl (lv_at hl 0 rfl) ?_
              refine lv_aload_n hx hb dX12_moveAll_188 rfl (lv_at hl 0 rfl) ?_
              refine m_geta G X 14 rfl (hwd _ mk_15) rfl dX12_moveAll_189 ?_
              refine lv_iload_n hx hb dX12_moveAll_192 rfl (lv_at hl 1 rfl) ?_
              refine m_lald G X 14 rfl (i := i1) (by show _ < 5; omega) (by omega) dX12_moveAll_193 ?_
              refine gl_eq (a := (σ.2 14 i1)) (zmv_rA (Nat.le_of_eq (show (53 + 4 * i1 + 3) = zpA 14 i1 from ((zpA_c (i := i1) (by omega)).trans (by omega)).symm)) (by decide)) ?_
              refine ctL_V (wf := []) (As := [.long (lN (σ.2 14 i1))]) (rest := [.int (nI i1), .ref (q 14)]) (n := 1) hx hb hml hown hts hK hA (ap_nil X) hl.1 (m_recv G X) (c_moveLong hcl ht0 ht1 (σ := (zmv σ (53 + 4 * i1 + 3))) (σ.2 14 i1) (show (53 + 4 * i1 + 3) < 150 by omega) (by rw [zmv_40 (by omega)]; exact hok.1)) (cwV 1 hts (mg_V mk_263 mk_267 mk_268 mk_269 mk_43) rfl rfl rfl (by decide +kernel) ⟨Nat.le_of_ble_eq_true rfl, Nat.le_of_ble_eq_true rfl⟩) rfl (Nat.le_of_ble_eq_true rfl) dX12_moveAll_194 ⟨Nat.le_refl _, Nat.le_refl _⟩ (fun H locs X => ?_)
              replace X := ap_nil' X
              refine m_last G X 14 rfl (i := i1) (v := (zmvR (zmv σ (53 + 4 * i1 + 3)) (σ.2 14 i1))) (by show _ < 5; omega) (by omega) dX12_moveAll_197 (fun H locs X => ?_)
              replace X := wh_eq ((zmv_E (σ := σ) (n := (53 + 4 * i1 + 3)) (j := 14) (i := i1) ((zpA_c (i := i1) (by omega)).trans (by omega)) (by omega) rfl).trans (congrArg (zmv σ) (show (53 + 4 * i1 + 3) + 1 = (53 + 4 * (i1 + 1)) by omega))) X
              refine lv_iinc (v := nI (i1 + 1)) (lv' := [(1, .int (nI (i1 + 1))), (0, .ref o)]) hx hb dX12_moveAll_198 hl (k := 1) rfl (zn_inc _) (by decide) rfl (fun ls hl => ?_)
              refine lv_goto (tgt := 129) hx hb dX12_moveAll_201 (by decide) ?_
              refine ih_129 (i1 + 1) (by omega) (by omega) _ _ _ (by exact X) (by exact lv_sub hl [1, 0] rfl)
        refine cut_129 _ 0 (Nat.zero_le _) (Nat.lt_succ_self _) _ _ _ (by exact X) (by exact lv_sub hl [1, 0] rfl)
      ·
        refine lv_aload_n hx hb dX12_moveAll_73 rfl (lv_at hl 0 rfl) ?_
        refine m_geta G X 1 rfl (hwd _ mk_4) rfl dX12_moveAll_74 ?_
        refine lv_iload_n hx hb dX12_moveAll_77 rfl (lv_at hl 1 rfl) ?_
        refine lv_aload_n hx hb dX12_moveAll_78 rfl (lv_at hl 0 rfl) ?_
        refine lv_aload_n hx hb dX12_moveAll_79 rfl (lv_at hl 0 rfl) ?_
        refine m_geta G X 1 rfl (hwd _ mk_4) rfl dX12_moveAll_80 ?_
        refine lv_iload_n hx hb dX12_moveAll_83 rfl (lv_at hl 1 rfl) ?_
        refine m_iald G X 1 rfl (i := i1) (by show _ < 16; omega) (by omega) dX12_moveAll_84 ?_
        refine gi_eq (a := (σ.2 1 i1)) (zmv_rA (Nat.le_of_eq (show (5 + 3 * i1) = zpA 1 i1 from ((zpA_a (Or.inl rfl) (i := i1) (by omega)).trans (by omega)).symm)) (by decide)) ?_
        refine ctI_V (wf := []) (As := [.int (nI (σ.2 1 i1))]) (rest := [.int (nI i1), .ref (q 1)]) (n := 1) hx hb hml hown hts hK hA (ap_nil X) hl.1 (m_recv G X) (c_move hcl ht0 ht1 (σ := (zmv σ (5 + 3 * i1))) (σ.2 1 i1) (hok.2.2 1 i1 (by decide) (by have h9 : zpA 1 i1 = (5 + 3 * i1) := ((zpA_a (Or.inl rfl) (i := i1) (by omega)).trans (by omega)); omega)) (show (5 + 3 * i1) < 150 by omega) (by rw [zmv_40 (by omega)]; exact hok.1)) (cwV 1 hts (mg_V mk_266 mk_270 mk_271 mk_272 mk_43) rfl rfl rfl (by decide +kernel) ⟨Nat.le_of_ble_eq_true rfl, Nat.le_of_ble_eq_true rfl⟩) rfl (Nat.le_of_ble_eq_true rfl) dX12_moveAll_85 ⟨Nat.le_refl _, Nat.le_refl _⟩ (fun H locs X => ?_)
        replace X := ap_nil' X
        refine m_iast G X 1 rfl (i := i1) (v := (zmvR (zmv σ (5 + 3 * i1)) (σ.2 1 i1))) (by show _ < 16; omega) (by omega) dX12_moveAll_88 (fun H locs X => ?_)
        replace X := wh_eq ((zmv_E (σ := σ) (n := (5 + 3 * i1)) (j := 1) (i := i1) ((zpA_a (Or.inl rfl) (i := i1) (by omega)).trans (by omega)) (by omega) rfl).trans (congrArg (zmv σ) (show (5 + 3 * i1) + 1 = (5 + 3 * i1 + 1) by omega))) X
        refine lv_aload_n hx hb dX12_moveAll_89 rfl (lv_at hl 0 rfl) ?_
        refine m_geta G X 2 rfl (hwd _ mk_5) rfl dX12_moveAll_90 ?_
        refine lv_iload_n hx hb dX12_moveAll_93 rfl (lv_at hl 1 rfl) ?_
        refine lv_aload_n hx hb dX12_moveAll_94 rfl (lv_at hl 0 rfl) ?_
        refine lv_aload_n hx hb dX12_moveAll_95 rfl (lv_at hl 0 rfl) ?_
        refine m_geta G X 2 rfl (hwd _ mk_5) rfl dX12_moveAll_96 ?_
        refine lv_iload_n hx hb dX12_moveAll_99 rfl (lv_at hl 1 rfl) ?_
        refine m_iald G X 2 rfl (i := i1) (by show _ < 16; omega) (by omega) dX12_moveAll_100 ?_
        refine gi_eq (a := (σ.2 2 i1)) (zmv_rA (Nat.le_of_eq (show (5 + 3 * i1 + 1) = zpA 2 i1 from ((zpA_a (Or.inr (Or.inl rfl)) (i := i1) (by omega)).trans (by omega)).symm)) (by decide)) ?_
        refine ctI_V (wf := []) (As := [.int (nI (σ.2 2 i1))]) (rest := [.int (nI i1), .ref (q 2)]) (n := 1) hx hb hml hown hts hK hA (ap_nil X) hl.1 (m_recv G X) (c_move hcl ht0 ht1 (σ := (zmv σ (5 + 3 * i1 + 1))) (σ.2 2 i1) (hok.2.2 2 i1 (by decide) (by have h9 : zpA 2 i1 = (5 + 3 * i1 + 1) := ((zpA_a (Or.inr (Or.inl rfl)) (i := i1) (by omega)).trans (by omega)); omega)) (show (5 + 3 * i1 + 1) < 150 by omega) (by rw [zmv_40 (by omega)]; exact hok.1)) (cwV 1 hts (mg_V mk_266 mk_270 mk_271 mk_272 mk_43) rfl rfl rfl (by decide +kernel) ⟨Nat.le_of_ble_eq_true rfl, Nat.le_of_ble_eq_true rfl⟩) rfl (Nat.le_of_ble_eq_true rfl) dX12_moveAll_101 ⟨Nat.le_refl _, Nat.le_refl _⟩ (fun H locs X => ?_)
        replace X := ap_nil' X
        refine m_iast G X 2 rfl (i := i1) (v := (zmvR (zmv σ (5 + 3 * i1 + 1)) (σ.2 2 i1))) (by show _ < 16; omega) (by omega) dX12_moveAll_104 (fun H locs X => ?_)
        replace X := wh_eq ((zmv_E (σ := σ) (n := (5 + 3 * i1 + 1)) (j := 2) (i := i1) ((zpA_a (Or.inr (Or.inl rfl)) (i := i1) (by omega)).trans (by omega)) (by omega) rfl).trans (congrArg (zmv σ) (show (5 + 3 * i1 + 1) + 1 = (5 + 3 * i1 + 2) by omega))) X
        refine lv_aload_n hx hb dX12_moveAll_105 rfl (lv_at hl 0 rfl) ?_
        refine m_geta G X 3 rfl (hwd _ mk_6) rfl dX12_moveAll_106 ?_
        refine lv_iload_n hx hb dX12_moveAll_109 rfl (lv_at hl 1 rfl) ?_
        refine lv_aload_n hx hb dX12_moveAll_110 rfl (lv_at hl 0 rfl) ?_
        refine lv_aload_n hx hb dX12_moveAll_111 rfl (lv_at hl 0 rfl) ?_
        refine m_geta G X 3 rfl (hwd _ mk_6) rfl dX12_moveAll_112 ?_
        refine lv_iload_n hx hb dX12_moveAll_115 rfl (lv_at hl 1 rfl) ?_
        refine m_iald G X 3 rfl (i := i1) (by show _ < 16; omega) (by omega) dX12_moveAll_116 ?_
        refine gi_eq (a := (σ.2 3 i1)) (zmv_rA (Nat.le_of_eq (show (5 + 3 * i1 + 2) = zpA 3 i1 from ((zpA_a (Or.inr (Or.inr rfl)) (i := i1) (by omega)).trans (by omega)).symm)) (by decide)) ?_
        refine ctI_V (wf := []) (As := [.int (nI (σ.2 3 i1))]) (rest := [.int (nI i1), .ref (q 3)]) (n := 1) hx hb hml hown hts hK hA (ap_nil X) hl.1 (m_recv G X) (c_move hcl ht0 ht1 (σ := (zmv σ (5 + 3 * i1 + 2))) (σ.2 3 i1) (hok.2.2 3 i1 (by decide) (by have h9 : zpA 3 i1 = (5 + 3 * i1 + 2) := ((zpA_a (Or.inr (Or.inr rfl)) (i := i1) (by omega)).trans (by omega)); omega)) (show (5 + 3 * i1 + 2) < 150 by omega) (by rw [zmv_40 (by omega)]; exact hok.1)) (cwV 1 hts (mg_V mk_266 mk_270 mk_271 mk_272 mk_43) rfl rfl rfl (by decide +kernel) ⟨Nat.le_of_ble_eq_true rfl, Nat.le_of_ble_eq_true rfl⟩) rfl (Nat.le_of_ble_eq_true rfl) dX12_moveAll_117 ⟨Nat.le_refl _, Nat.le_refl _⟩ (fun H locs X => ?_)
        replace X := ap_nil' X
        refine m_iast G X 3 rfl (i := i1) (v := (zmvR (zmv σ (5 + 3 * i1 + 2)) (σ.2 3 i1))) (by show _ < 16; omega) (by omega) dX12_moveAll_120 (fun H locs X => ?_)
        replace X := wh_eq ((zmv_E (σ := σ) (n := (5 + 3 * i1 + 2)) (j := 3) (i := i1) ((zpA_a (Or.inr (Or.inr rfl)) (i := i1) (by omega)).trans (by omega)) (by omega) rfl).trans (congrArg (zmv σ) (show (5 + 3 * i1 + 2) + 1 = (5 + 3 * (i1 + 1)) by omega))) X
        refine lv_iinc (v := nI (i1 + 1)) (lv' := [(1, .int (nI (i1 + 1))), (0, .ref o)]) hx hb dX12_moveAll_121 hl (k := 1) rfl (zn_inc _) (by decide) rfl (fun ls hl => ?_)
        refine lv_goto (tgt := 67) hx hb dX12_moveAll_124 (by decide) ?_
        refine ih_67 (i1 + 1) (by omega) (by omega) _ _ _ (by exact X) (by exact lv_sub hl [1, 0] rfl)
  refine cut_67 _ 0 (Nat.zero_le _) (Nat.lt_succ_self _) _ _ _ (by exact X) (by exact lv_sub hl [1, 0] rfl)
