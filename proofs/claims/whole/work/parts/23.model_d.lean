set_option maxHeartbeats 4000000 in
set_option maxRecDepth 100000 in
theorem c_findWays {l : Launch} {D : va_G} {cl : List vw_C} {tys : List (ClassId × FieldType)} {o : Nat} {q : Nat → Nat} {ci : Nat} {cI cJ : ClassId} (hcl : cl[ci]? = some (RX12, TX12, 48)) (ht0 : tys[0]? = some (cI, .int)) (ht1 : tys[1]? = some (cJ, .long)) {σ : MS} (hok : mOk σ) (hW : zWok (σ.2 27)) : ctV l D cl tys yX12_findWays (Cond.code yX12_findWays cX12_findWays 4 (none) :: mW) { frames := 1, cells := 0, slots := 0, locals := 24 } [.ref o] (mw o q ci cI cJ σ) (mw o q ci cI cJ (sA σ 27 (zws σ (σ.2 27) (σ.1 4)))) := by
  refine ctV_of (cc := cX12_findWays) (maxL := 4) (by decide +kernel) rfl (Nat.le_of_ble_eq_true rfl) ?_
  intro p e s m args below meth c A Q ls hx hb hml hown hts hK hA X hl fin
  replace hown : s.vm.findClass RX12 = some m.cls := hown
  have hwd : ∀ w ∈ mW, w.before args s = true := fun w h => hts w (List.mem_cons_of_mem _ h)
  have G : mG p c cX12_findWays s m args D cl tys ci cI cJ := ⟨hx, hb, hown, hwd, hK, hcl, ht0, ht1⟩
  replace hl : lv_has ls 4 [(0, .ref o)] := hl
  obtain ⟨kr, kw, ks, kroad, kworld, ksort, kmet, ksum, kst, kco⟩ := id hok
  refine lv_iconst (v := nI 0) hx hb dX12_findWays_0 (by decide) ?_
  refine lv_istore_n (lv' := [(1, .int (nI 0)), (0, .ref o)]) hx hb dX12_findWays_1 rfl hl (by decide) rfl (fun ls hl => ?_)
  have cut_2 : ∀ (NN : Nat) (w1 : Nat) (h1 : w1 ≤ σ.1 4), σ.1 4 - w1 < NN → ∀ (H : Heap) (locs : List Loc) (ls : Array Slot), wH D cl A s.heap H locs (mw o q ci cI cJ (sA σ 27 (zws σ (σ.2 27) w1))) → lv_has ls 4 [(0, .ref o), (1, .int (nI w1))] → W p l e { frames := 1, cells := 0, slots := 0, locals := 24 } s m args below meth c H locs 0 0 Q (F0 m 2 ls []) := by
    intro NN
    induction NN with
    | zero => intro w1 h1 hNN; exact absurd hNN (Nat.not_lt_zero _)
    | succ NN ih_2 =>
      intro w1 h1 hNN H locs ls X hl
      refine lv_iload_n hx hb dX12_findWays_2 rfl (lv_at hl 1 rfl) ?_
      refine lv_aload_n hx hb dX12_findWays_3 rfl (lv_at hl 0 rfl) ?_
      refine m_geti G X 4 rfl (hwd _ mk_45) rfl dX12_findWays_4 ?_
      refine gi_eq (a := (σ.1 4)) rfl ?_
      refine gn_icmp_ge (tgt := 160) hx hb dX12_findWays_7 (by decide) (by omega) (by omega) (fun c_7 => ?_) (fun c_7 => ?_)
      ·
        exact finV_of (by rw [show w1 = σ.1 4 by omega]) X dX12_findWays_160 fin
      ·
        refine lv_iconst (v := nI 0) hx hb dX12_findWays_10 (by decide) ?_
        refine lv_istore_n (lv' := [(2, .int (nI 0)), (0, .ref o), (1, .int (nI w1))]) hx hb dX12_findWays_11 rfl hl (by decide) rfl (fun ls hl => ?_)
        have cut_12 : ∀ (NN : Nat) (c1 : Nat) (hc1 : c1 ≤ 8), 8 - c1 < NN → ∀ (H : Heap) (locs : List Loc) (ls : Array Slot), wH D cl A s.heap H locs (mw o q ci cI cJ (sA σ 27 (zinit (zws σ (σ.2 27) w1) w1 (σ.2 6 w1) c1))) → lv_has ls 4 [(0, .ref o), (1, .int (nI w1)), (2, .int (nI c1))] → W p l e { frames := 1, cells := 0, slots := 0, locals := 24 } s m args below meth c H locs 0 0 Q (F0 m 12 ls []) := by
          intro NN
          induction NN with
          | zero => intro c1 hc1 hNN; exact absurd hNN (Nat.not_lt_zero _)
          | succ NN ih_12 =>
            intro c1 hc1 hNN H locs ls X hl
            have hgl := kworld w1 c_7
            refine lv_iload_n hx hb dX12_findWays_12 rfl (lv_at hl 2 rfl) ?_
            refine lv_bipush (v := nI 8) hx hb dX12_findWays_13 (by decide) ?_
            refine gn_icmp_ge (tgt := 51) hx hb dX12_findWays_15 (by decide) (by omega) (by omega) (fun c_15 => ?_) (fun c_15 => ?_)
            ·
              refine lv_iconst (v := nI 0) hx hb dX12_findWays_51 (by decide) ?_
              refine lv_istore_n (lv' := [(2, .int (nI 0)), (0, .ref o), (1, .int (nI w1))]) hx hb dX12_findWays_52 rfl hl (by decide) rfl (fun ls hl => ?_)
              have cut_53 : ∀ (NN : Nat) (t1 : Nat) (htt1 : t1 ≤ 8), 8 - t1 < NN → ∀ (H : Heap) (locs : List Loc) (ls : Array Slot), wH D cl A s.heap H locs (mw o q ci cI cJ (sA σ 27 (zts σ w1 (zinit (zws σ (σ.2 27) w1) w1 (σ.2 6 w1) 8) t1))) → lv_has ls 4 [(0, .ref o), (1, .int (nI w1)), (2, .int (nI t1))] → W p l e { frames := 1, cells := 0, slots := 0, locals := 24 } s m args below meth c H locs 0 0 Q (F0 m 53 ls []) := by
                intro NN
                induction NN with
                | zero => intro t1 htt1 hNN; exact absurd hNN (Nat.not_lt_zero _)
                | succ NN ih_53 =>
                  intro t1 htt1 hNN H locs ls X hl
                  refine lv_iload_n hx hb dX12_findWays_53 rfl (lv_at hl 2 rfl) ?_
                  refine lv_bipush (v := nI 8) hx hb dX12_findWays_54 (by decide) ?_
                  refine gn_icmp_ge (tgt := 154) hx hb dX12_findWays_56 (by decide) (by omega) (by omega) (fun c_56 => ?_) (fun c_56 => ?_)
                  ·
                    refine lv_iinc (v := nI (w1 + 1)) (lv' := [(1, .int (nI (w1 + 1))), (0, .ref o), (2, .int (nI t1))]) hx hb dX12_findWays_154 hl (k := 1) rfl (zn_inc _) (by decide) rfl (fun ls hl => ?_)
                    refine lv_goto (tgt := 2) hx hb dX12_findWays_157 (by decide) ?_
                    refine ih_2 (w1 + 1) (by omega) (by omega) _ _ _ (by exact wh_eq (by rw [show t1 = 8 by omega]; rfl) X) (by exact lv_sub hl [1, 0] rfl)
                  ·
                    refine lv_iconst (v := nI 0) hx hb dX12_findWays_59 (by decide) ?_
                    refine lv_istore_n (lv' := [(3, .int (nI 0)), (0, .ref o), (1, .int (nI w1)), (2, .int (nI t1))]) hx hb dX12_findWays_60 rfl hl (by decide) rfl (fun ls hl => ?_)
                    have cut_61 : ∀ (NN : Nat) (r1 : Nat) (hr1 : r1 ≤ σ.1 0), σ.1 0 - r1 < NN → ∀ (H : Heap) (locs : List Loc) (ls : Array Slot), wH D cl A s.heap H locs (mw o q ci cI cJ (sA σ 27 (zrs σ w1 (zts σ w1 (zinit (zws σ (σ.2 27) w1) w1 (σ.2 6 w1) 8) t1) r1))) → lv_has ls 4 [(0, .ref o), (1, .int (nI w1)), (2, .int (nI t1)), (3, .int (nI r1))] → W p l e { frames := 1, cells := 0, slots := 0, locals := 24 } s m args below meth c H locs 0 0 Q (F0 m 61 ls []) := by
                      intro NN
                      induction NN with
                      | zero => intro r1 hr1 hNN; exact absurd hNN (Nat.not_lt_zero _)
                      | succ NN ih_61 =>
                        intro r1 hr1 hNN H locs ls X hl
                        have hWr : zWok (zrs σ w1 (zts σ w1 (zinit (zws σ (σ.2 27) w1) w1 (σ.2 6 w1) 8) t1) r1) := zWok_rs (zWok_ts (zWok_init (zWok_ws hW _) _ _ _) _) _
                        refine lv_iload_n hx hb dX12_findWays_61 rfl (lv_at hl 3 rfl) ?_
                        refine lv_aload_n hx hb dX12_findWays_62 rfl (lv_at hl 0 rfl) ?_
                        refine m_geti G X 0 rfl (hwd _ mk_77) rfl dX12_findWays_63 ?_
                        refine gi_eq (a := (σ.1 0)) rfl ?_
                        refine gn_icmp_ge (tgt := 148) hx hb dX12_findWays_66 (by decide) (by omega) (by omega) (fun c_66 => ?_) (fun c_66 => ?_)
                        ·
                          refine lv_iinc (v := nI (t1 + 1)) (lv' := [(2, .int (nI (t1 + 1))), (0, .ref o), (1, .int (nI w1)), (3, .int (nI r1))]) hx hb dX12_findWays_148 hl (k := 2) rfl (zn_inc _) (by decide) rfl (fun ls hl => ?_)
                          refine lv_goto (tgt := 53) hx hb dX12_findWays_151 (by decide) ?_
                          refine ih_53 (t1 + 1) (by omega) (by omega) _ _ _ (by exact wh_eq (by rw [show r1 = σ.1 0 by omega]; rfl) X) (by exact lv_sub hl [1, 2, 0] rfl)
                        ·
                          have hrd := kroad r1 (by omega)
                          refine lv_aload_n hx hb dX12_findWays_69 rfl (lv_at hl 0 rfl) ?_
                          refine lv_iload_n hx hb dX12_findWays_70 rfl (lv_at hl 1 rfl) ?_
                          refine lv_iload_n hx hb dX12_findWays_71 rfl (lv_at hl 3 rfl) ?_
                          refine ctI_V (wf := []) (As := [.int (nI w1), .int (nI r1)]) (rest := []) (n := 2) hx hb hml hown hts hK hA (ap_nil X) hl.1 (m_recv G X) (c_isShut hcl ht0 ht1 (σ := (sA σ 27 (zrs σ w1 (zts σ w1 (zinit (zws σ (σ.2 27) w1) w1 (σ.2 6 w1) 8) t1) r1))) w1 r1 (hok) (c_7) (by omega)) (cwV 2 hts (mg_V mk_113 mk_117 mk_118 mk_119 mk_43) rfl rfl rfl (by decide +kernel) ⟨Nat.le_of_ble_eq_true rfl, Nat.le_of_ble_eq_true rfl⟩) rfl (Nat.le_of_ble_eq_true rfl) dX12_findWays_72 ⟨Nat.le_refl _, Nat.le_refl _⟩ (fun H locs X => ?_)
                          replace X := ap_nil' X
                          refine gi_raw (y := (if zshut σ w1 r1 then 1 else 0)) rfl ?_
                          refine gb_if_ne (tgt := 142) hx hb dX12_findWays_75 (by decide) (fun c_75 => ?_) (fun c_75 => ?_)
                          ·
                            refine lv_iinc (v := nI (r1 + 1)) (lv' := [(3, .int (nI (r1 + 1))), (0, .ref o), (1, .int (nI w1)), (2, .int (nI t1))]) hx hb dX12_findWays_142 hl (k := 3) rfl (zn_inc _) (by decide) rfl (fun ls hl => ?_)
                            refine lv_goto (tgt := 61) hx hb dX12_findWays_145 (by decide) ?_
                            refine ih_61 (r1 + 1) (by omega) (by omega) _ _ _ (by exact wh_eq (by first | (rw [sA_sA, sA_sA]; exact congrArg (sA σ 27) (by rw [zrs, if_neg c_75]; rfl)) | exact congrArg (sA σ 27) (by rw [zrs, if_pos c_75])) X) (by exact lv_sub hl [1, 2, 3, 0] rfl)
                          ·
                            refine lv_aload_n hx hb dX12_findWays_78 rfl (lv_at hl 0 rfl) ?_
                            refine lv_bipush (v := nI 8) hx hb dX12_findWays_79 (by decide) ?_
                            refine lv_iload_n hx hb dX12_findWays_81 rfl (lv_at hl 1 rfl) ?_
                            refine gn_imul hx hb dX12_findWays_82  ?_
                            refine lv_aload_n hx hb dX12_findWays_83 rfl (lv_at hl 0 rfl) ?_
                            refine m_geta G X 1 rfl (hwd _ mk_4) rfl dX12_findWays_84 ?_
                            refine lv_iload_n hx hb dX12_findWays_87 rfl (lv_at hl 3 rfl) ?_
                            refine m_iald G X 1 rfl (i := r1) (by show _ < 16; omega) (by omega) dX12_findWays_88 ?_
                            refine gi_eq (a := (σ.2 1 r1)) rfl ?_
                            refine gn_iadd hx hb dX12_findWays_89  ?_
                            refine lv_bipush (v := nI 8) hx hb dX12_findWays_90 (by decide) ?_
                            refine lv_iload_n hx hb dX12_findWays_92 rfl (lv_at hl 1 rfl) ?_
                            refine gn_imul hx hb dX12_findWays_93  ?_
                            refine lv_aload_n hx hb dX12_findWays_94 rfl (lv_at hl 0 rfl) ?_
                            refine m_geta G X 2 rfl (hwd _ mk_5) rfl dX12_findWays_95 ?_
                            refine lv_iload_n hx hb dX12_findWays_98 rfl (lv_at hl 3 rfl) ?_
                            refine m_iald G X 2 rfl (i := r1) (by show _ < 16; omega) (by omega) dX12_findWays_99 ?_
                            refine gi_eq (a := (σ.2 2 r1)) rfl ?_
                            refine gn_iadd hx hb dX12_findWays_100  ?_
                            refine lv_aload_n hx hb dX12_findWays_101 rfl (lv_at hl 0 rfl) ?_
                            refine m_geta G X 3 rfl (hwd _ mk_6) rfl dX12_findWays_102 ?_
                            refine lv_iload_n hx hb dX12_findWays_105 rfl (lv_at hl 3 rfl) ?_
                            refine m_iald G X 3 rfl (i := r1) (by show _ < 16; omega) (by omega) dX12_findWays_106 ?_
                            refine gi_eq (a := (σ.2 3 r1)) rfl ?_
                            refine ctV_V (wf := []) (As := [.int (nI ((8 * w1) + (σ.2 1 r1))), .int (nI ((8 * w1) + (σ.2 2 r1))), .int (nI (σ.2 3 r1))]) (rest := []) (n := 3) hx hb hml hown hts hK hA (ap_nil X) hl.1 (m_recv G X) (c_shorten hcl ht0 ht1 (σ := (sA σ 27 (zrs σ w1 (zts σ w1 (zinit (zws σ (σ.2 27) w1) w1 (σ.2 6 w1) 8) t1) r1))) ((8 * w1) + (σ.2 1 r1)) ((8 * w1) + (σ.2 2 r1)) (σ.2 3 r1) (by omega) (by omega) (by omega) (hWr)) (cwV 3 hts (mg_V mk_114 mk_120 mk_121 mk_122 mk_43) rfl rfl rfl (by decide +kernel) ⟨Nat.le_of_ble_eq_true rfl, Nat.le_of_ble_eq_true rfl⟩) rfl (Nat.le_of_ble_eq_true rfl) dX12_findWays_107 ⟨Nat.le_refl _, Nat.le_refl _⟩ (fun H locs X => ?_)
                            replace X := ap_nil' X
                            refine lv_aload_n hx hb dX12_findWays_110 rfl (lv_at hl 0 rfl) ?_
                            refine lv_bipush (v := nI 8) hx hb dX12_findWays_111 (by decide) ?_
                            refine lv_iload_n hx hb dX12_findWays_113 rfl (lv_at hl 1 rfl) ?_
                            refine gn_imul hx hb dX12_findWays_114  ?_
                            refine lv_aload_n hx hb dX12_findWays_115 rfl (lv_at hl 0 rfl) ?_
                            refine m_geta G X 2 rfl (hwd _ mk_5) rfl dX12_findWays_116 ?_
                            refine lv_iload_n hx hb dX12_findWays_119 rfl (lv_at hl 3 rfl) ?_
                            refine m_iald G X 2 rfl (i := r1) (by show _ < 16; omega) (by omega) dX12_findWays_120 ?_
                            refine gi_eq (a := (σ.2 2 r1)) rfl ?_
                            refine gn_iadd hx hb dX12_findWays_121  ?_
                            refine lv_bipush (v := nI 8) hx hb dX12_findWays_122 (by decide) ?_
                            refine lv_iload_n hx hb dX12_findWays_124 rfl (lv_at hl 1 rfl) ?_
                            refine gn_imul hx hb dX12_findWays_125  ?_
                            refine lv_aload_n hx hb dX12_findWays_126 rfl (lv_at hl 0 rfl) ?_
                            refine m_geta G X 1 rfl (hwd _ mk_4) rfl dX12_findWays_127 ?_
                            refine lv_iload_n hx hb dX12_findWays_130 rfl (lv_at hl 3 rfl) ?_
                            refine m_iald G X 1 rfl (i := r1) (by show _ < 16; omega) (by omega) dX12_findWays_131 ?_
                            refine gi_eq (a := (σ.2 1 r1)) rfl ?_
                            refine gn_iadd hx hb dX12_findWays_132  ?_
                            refine lv_aload_n hx hb dX12_findWays_133 rfl (lv_at hl 0 rfl) ?_
                            refine m_geta G X 3 rfl (hwd _ mk_6) rfl dX12_findWays_134 ?_
                            refine lv_iload_n hx hb dX12_findWays_137 rfl (lv_at hl 3 rfl) ?_
                            refine m_iald G X 3 rfl (i := r1) (by show _ < 16; omega) (by omega) dX12_findWays_138 ?_
                            refine gi_eq (a := (σ.2 3 r1)) rfl ?_
                            refine ctV_V (wf := []) (As := [.int (nI ((8 * w1) + (σ.2 2 r1))), .int (nI ((8 * w1) + (σ.2 1 r1))), .int (nI (σ.2 3 r1))]) (rest := []) (n := 3) hx hb hml hown hts hK hA (ap_nil X) hl.1 (m_recv G X) (c_shorten hcl ht0 ht1 (σ := (sA (sA σ 27 (zrs σ w1 (zts σ w1 (zinit (zws σ (σ.2 27) w1) w1 (σ.2 6 w1) 8) t1) r1)) 27 (zrel (zrs σ w1 (zts σ w1 (zinit (zws σ (σ.2 27) w1) w1 (σ.2 6 w1) 8) t1) r1) ((8 * w1) + (σ.2 1 r1)) ((8 * w1) + (σ.2 2 r1)) (σ.2 3 r1)))) ((8 * w1) + (σ.2 2 r1)) ((8 * w1) + (σ.2 1 r1)) (σ.2 3 r1) (by omega) (by omega) (by omega) (zWok_rel hWr _ _ _)) (cwV 3 hts (mg_V mk_114 mk_120 mk_121 mk_122 mk_43) rfl rfl rfl (by decide +kernel) ⟨Nat.le_of_ble_eq_true rfl, Nat.le_of_ble_eq_true rfl⟩) rfl (Nat.le_of_ble_eq_true rfl) dX12_findWays_139 ⟨Nat.le_refl _, Nat.le_refl _⟩ (fun H locs X => ?_)
                            replace X := ap_nil' X
                            refine lv_iinc (v := nI (r1 + 1)) (lv' := [(3, .int (nI (r1 + 1))), (0, .ref o), (1, .int (nI w1)), (2, .int (nI t1))]) hx hb dX12_findWays_142 hl (k := 3) rfl (zn_inc _) (by decide) rfl (fun ls hl => ?_)
                            refine lv_goto (tgt := 61) hx hb dX12_findWays_145 (by decide) ?_
                            refine ih_61 (r1 + 1) (by omega) (by omega) _ _ _ (by exact wh_eq (by first | (rw [sA_sA, sA_sA]; exact congrArg (sA σ 27) (by rw [zrs, if_neg c_75]; rfl)) | exact congrArg (sA σ 27) (by rw [zrs, if_pos c_75])) X) (by exact lv_sub hl [1, 2, 3, 0] rfl)
                    refine cut_61 _ 0 (Nat.zero_le _) (Nat.lt_succ_self _) _ _ _ (by exact X) (by exact lv_sub hl [1, 2, 3, 0] rfl)
              refine cut_53 _ 0 (Nat.zero_le _) (Nat.lt_succ_self _) _ _ _ (by exact wh_eq (by rw [show c1 = 8 by omega]; rfl) X) (by exact lv_sub hl [1, 2, 0] rfl)
            ·
              refine lv_aload_n hx hb dX12_findWays_18 rfl (lv_at hl 0 rfl) ?_
              refine m_geta G X 27 rfl (hwd _ mk_22) rfl dX12_findWays_19 ?_
              refine lv_bipush (v := nI 8) hx hb dX12_findWays_22 (by decide) ?_
              refine lv_iload_n hx hb dX12_findWays_24 rfl (lv_at hl 1 rfl) ?_
              refine gn_imul hx hb dX12_findWays_25  ?_
              refine lv_iload_n hx hb dX12_findWays_26 rfl (lv_at hl 2 rfl) ?_
              refine gn_iadd hx hb dX12_findWays_27  ?_
              refine lv_iload_n hx hb dX12_findWays_28 rfl (lv_at hl 2 rfl) ?_
              refine lv_aload_n hx hb dX12_findWays_29 rfl (lv_at hl 0 rfl) ?_
              refine m_geta G X 6 rfl (hwd _ mk_8) rfl dX12_findWays_30 ?_
              refine lv_iload_n hx hb dX12_findWays_33 rfl (lv_at hl 1 rfl) ?_
              refine m_iald G X 6 rfl (i := w1) (by show _ < 5; omega) (by omega) dX12_findWays_34 ?_
              refine gi_eq (a := (σ.2 6 w1)) rfl ?_
              refine gn_icmp_ne (tgt := 42) hx hb dX12_findWays_35 (by decide) (by omega) (by omega) (fun c_35 => ?_) (fun c_35 => ?_)
              ·
                refine gn_ldc (v := 99999) (k := 99999) hx hb hown (hwd _ mk_115) (by decide) dX12_findWays_42 ?_
                refine m_iast G X 27 rfl (i := ((8 * w1) + c1)) (v := 99999) (by show _ < 40; omega) (by omega) dX12_findWays_44 (fun H locs X => ?_)
                refine lv_iinc (v := nI (c1 + 1)) (lv' := [(2, .int (nI (c1 + 1))), (0, .ref o), (1, .int (nI w1))]) hx hb dX12_findWays_45 hl (k := 2) rfl (zn_inc _) (by decide) rfl (fun ls hl => ?_)
                refine lv_goto (tgt := 12) hx hb dX12_findWays_48 (by decide) ?_
                refine ih_12 (c1 + 1) (by omega) (by omega) _ _ _ (by exact wh_eq ((sA_e1 σ 27 _ _ _).trans (by rw [zinit_1 _ _ _ _ _ (by first | rw [if_pos (by omega)] | rw [if_neg (by omega)])])) X) (by exact lv_sub hl [1, 2, 0] rfl)
              ·
                refine lv_iconst (v := nI 0) hx hb dX12_findWays_38 (by decide) ?_
                refine lv_goto (tgt := 44) hx hb dX12_findWays_39 (by decide) ?_
                refine m_iast G X 27 rfl (i := ((8 * w1) + c1)) (v := 0) (by show _ < 40; omega) (by omega) dX12_findWays_44 (fun H locs X => ?_)
                refine lv_iinc (v := nI (c1 + 1)) (lv' := [(2, .int (nI (c1 + 1))), (0, .ref o), (1, .int (nI w1))]) hx hb dX12_findWays_45 hl (k := 2) rfl (zn_inc _) (by decide) rfl (fun ls hl => ?_)
                refine lv_goto (tgt := 12) hx hb dX12_findWays_48 (by decide) ?_
                refine ih_12 (c1 + 1) (by omega) (by omega) _ _ _ (by exact wh_eq ((sA_e1 σ 27 _ _ _).trans (by rw [zinit_1 _ _ _ _ _ (by first | rw [if_pos (by omega)] | rw [if_neg (by omega)])])) X) (by exact lv_sub hl [1, 2, 0] rfl)
        refine cut_12 _ 0 (Nat.zero_le _) (Nat.lt_succ_self _) _ _ _ (by exact wh_eq (by rw [zinit_0]) X) (by exact lv_sub hl [1, 2, 0] rfl)
  refine cut_2 _ 0 (Nat.zero_le _) (Nat.lt_succ_self _) _ _ _ (by exact wh_eq (sA_self σ 27).symm X) (by exact lv_sub hl [1, 0] rfl)
set_option maxHeartbeats 4000000 in
set_option maxRecDepth 100000 in
theorem c_nextRoad {l : Launch} {D : va_G} {cl : List vw_C} {tys : List (ClassId × FieldType)} {o : Nat} {q : Nat → Nat} {ci : Nat} {cI cJ : ClassId} (hcl : cl[ci]? = some (RX12, TX12, 48)) (ht0 : tys[0]? = some (cI, .int)) (ht1 : tys[1]? = some (cJ, .long)) {σ : MS} (xw : Nat) (xc : Nat) (hok : mOk σ) (hw : xw < σ.1 4) (hc : xc < 8) (hW : zWok (σ.2 27)) : ctI l D cl tys yX12_nextRoad (Cond.code yX12_nextRoad cX12_nextRoad 5 (some .int) :: mW) { frames := 1, cells := 0, slots := 0, locals := 22 } [.ref o, .int (nI xw), .int (nI xc)] (mw o q ci cI cJ σ) (znext σ xw xc) (mw o q ci cI cJ σ) := by
  refine ctI_of (cc := cX12_nextRoad) (maxL := 5) (by decide +kernel) rfl (Nat.le_of_ble_eq_true rfl) ?_
  intro p e s m args below meth c A Q ls hx hb hml hown hts hK hA X hl fin
  replace hown : s.vm.findClass RX12 = some m.cls := hown
  have hwd : ∀ w ∈ mW, w.before args s = true := fun w h => hts w (List.mem_cons_of_mem _ h)
  have G : mG p c cX12_nextRoad s m args D cl tys ci cI cJ := ⟨hx, hb, hown, hwd, hK, hcl, ht0, ht1⟩
  replace hl : lv_has ls 5 [(0, .ref o), (1, .int (nI xw)), (2, .int (nI xc))] := hl
  obtain ⟨kr, kw, ks, kroad, kworld, ksort, kmet, ksum, kst, kco⟩ := id hok
  refine lv_iconst (v := nI 0) hx hb dX12_nextRoad_0 (by decide) ?_
  refine lv_istore_n (lv' := [(3, .int (nI 0)), (0, .ref o), (1, .int (nI xw)), (2, .int (nI xc))]) hx hb dX12_nextRoad_1 rfl hl (by decide) rfl (fun ls hl => ?_)
  have cut_2 : ∀ (NN : Nat) (r1 : Nat) (h1 : r1 ≤ σ.1 0) (hno : ∀ j, j < r1 → znextP σ xw xc j = false), σ.1 0 - r1 < NN → ∀ (H : Heap) (locs : List Loc) (ls : Array Slot), wH D cl A s.heap H locs (mw o q ci cI cJ σ) → lv_has ls 5 [(0, .ref o), (1, .int (nI xw)), (2, .int (nI xc)), (3, .int (nI r1))] → W p l e { frames := 1, cells := 0, slots := 0, locals := 22 } s m args below meth c H locs 0 0 Q (F0 m 2 ls []) := by
    intro NN
    induction NN with
    | zero => intro r1 h1 hno hNN; exact absurd hNN (Nat.not_lt_zero _)
    | succ NN ih_2 =>
      intro r1 h1 hno hNN H locs ls X hl
      have hWc := hW (8 * xw + xc)
      refine lv_iload_n hx hb dX12_nextRoad_2 rfl (lv_at hl 3 rfl) ?_
      refine lv_aload_n hx hb dX12_nextRoad_3 rfl (lv_at hl 0 rfl) ?_
      refine m_geti G X 0 rfl (hwd _ mk_77) rfl dX12_nextRoad_4 ?_
      refine gn_icmp_ge (tgt := 106) hx hb dX12_nextRoad_7 (by decide) (by omega) (by omega) (fun c_7 => ?_) (fun c_7 => ?_)
      ·
        refine lv_bipush (v := (-4)) hx hb dX12_nextRoad_106 (by decide) ?_
        exact fin_of (rfl) ((znext_no (by first | exact Or.inl (by omega) | exact Or.inr (fun j hj => hno j (by omega)))).symm) X dX12_nextRoad_108 fin
      ·
        refine lv_aload_n hx hb dX12_nextRoad_10 rfl (lv_at hl 0 rfl) ?_
        refine m_geta G X 27 rfl (hwd _ mk_22) rfl dX12_nextRoad_11 ?_
        refine lv_bipush (v := nI 8) hx hb dX12_nextRoad_14 (by decide) ?_
        refine lv_iload_n hx hb dX12_nextRoad_16 rfl (lv_at hl 1 rfl) ?_
        refine gn_imul hx hb dX12_nextRoad_17  ?_
        refine lv_iload_n hx hb dX12_nextRoad_18 rfl (lv_at hl 2 rfl) ?_
        refine gn_iadd hx hb dX12_nextRoad_19  ?_
        refine m_iald G X 27 rfl (i := ((8 * xw) + xc)) (by show _ < 40; omega) (by omega) dX12_nextRoad_20 ?_
        refine gn_ldc (v := 99999) (k := 99999) hx hb hown (hwd _ mk_115) (by decide) dX12_nextRoad_21 ?_
        refine gn_icmp_ge (tgt := 106) hx hb dX12_nextRoad_23 (by decide) (by omega) (by omega) (fun c_23 => ?_) (fun c_23 => ?_)
        ·
          refine lv_bipush (v := (-4)) hx hb dX12_nextRoad_106 (by decide) ?_
          exact fin_of (rfl) ((znext_no (by first | exact Or.inl (by omega) | exact Or.inr (fun j hj => hno j (by omega)))).symm) X dX12_nextRoad_108 fin
        ·
          have hrd := kroad r1 (by omega)
          have hWa := hW (8 * xw + σ.2 1 r1)
          have hWb := hW (8 * xw + σ.2 2 r1)
          refine lv_aload_n hx hb dX12_nextRoad_26 rfl (lv_at hl 0 rfl) ?_
          refine lv_iload_n hx hb dX12_nextRoad_27 rfl (lv_at hl 3 rfl) ?_
          refine lv_iload_n hx hb dX12_nextRoad_28 rfl (lv_at hl 2 rfl) ?_
          refine ctI_V (wf := []) (As := [.int (nI r1), .int (nI xc)]) (rest := []) (n := 2) hx hb hml hown hts hK hA (ap_nil X) hl.1 (m_recv G X) (c_otherEnd hcl ht0 ht1 (σ := σ) r1 xc (hok) (by omega) (by omega)) (cwV 2 hts (mg_V mk_123 mk_125 mk_126 mk_127 mk_43) rfl rfl rfl (by decide +kernel) ⟨Nat.le_of_ble_eq_true rfl, Nat.le_of_ble_eq_true rfl⟩) rfl (Nat.le_of_ble_eq_true rfl) dX12_nextRoad_29 ⟨Nat.le_refl _, Nat.le_refl _⟩ (fun H locs X => ?_)
          replace X := ap_nil' X
          by_cases e1 : σ.2 1 r1 = xc
          ·
            refine gi_raw (y := nI (σ.2 2 r1)) (if_pos e1) ?_
            refine lv_istore (lv' := [(4, .int (nI (σ.2 2 r1))), (0, .ref o), (1, .int (nI xw)), (2, .int (nI xc)), (3, .int (nI r1))]) hx hb dX12_nextRoad_32 hl (by decide) rfl (fun ls hl => ?_)
            refine lv_iload hx hb dX12_nextRoad_34 (lv_at hl 0 rfl) ?_
            refine gn_if_lt (tgt := 100) hx hb dX12_nextRoad_36 (by decide) (by omega) ?_
            refine lv_aload_n hx hb dX12_nextRoad_39 rfl (lv_at hl 1 rfl) ?_
            refine lv_iload_n hx hb dX12_nextRoad_40 rfl (lv_at hl 2 rfl) ?_
            refine lv_iload_n hx hb dX12_nextRoad_41 rfl (lv_at hl 4 rfl) ?_
            refine ctI_V (wf := []) (As := [.int (nI xw), .int (nI r1)]) (rest := []) (n := 2) hx hb hml hown hts hK hA (ap_nil X) hl.1 (m_recv G X) (c_isShut hcl ht0 ht1 (σ := σ) xw r1 (hok) (hw) (by omega)) (cwV 2 hts (mg_V mk_113 mk_117 mk_118 mk_119 mk_43) rfl rfl rfl (by decide +kernel) ⟨Nat.le_of_ble_eq_true rfl, Nat.le_of_ble_eq_true rfl⟩) rfl (Nat.le_of_ble_eq_true rfl) dX12_nextRoad_42 ⟨Nat.le_refl _, Nat.le_refl _⟩ (fun H locs X => ?_)
            replace X := ap_nil' X
            refine gb_if_ne (tgt := 100) hx hb dX12_nextRoad_45 (by decide) (fun c_45 => ?_) (fun c_45 => ?_)
            ·
              refine lv_iinc (v := nI (r1 + 1)) (lv' := [(3, .int (nI (r1 + 1))), (4, .int (nI (σ.2 2 r1))), (0, .ref o), (1, .int (nI xw)), (2, .int (nI xc))]) hx hb dX12_nextRoad_100 hl (k := 4) rfl (zn_inc _) (by decide) rfl (fun ls hl => ?_)
              refine lv_goto (tgt := 2) hx hb dX12_nextRoad_103 (by decide) ?_
              refine ih_2 (r1 + 1) (by omega) (fun j hj => by
                    rcases Nat.lt_or_ge j r1 with h9 | h9
                    · exact hno j h9
                    · rw [show j = r1 by omega]
                      refine decide_eq_false (fun h => ?_)
                      first | exact absurd c_45 h.2.1 | (obtain ⟨h5, -, h6, h7⟩ := h; first | omega | (rw [if_pos e1] at h6 h7; omega) | (rw [if_neg e1] at h6 h7; omega))) (by omega) _ _ _ (by exact X) (by exact lv_sub hl [2, 3, 4, 0] rfl)
            ·
              refine lv_aload_n hx hb dX12_nextRoad_48 rfl (lv_at hl 1 rfl) ?_
              refine m_geta G X 27 rfl (hwd _ mk_22) rfl dX12_nextRoad_49 ?_
              refine lv_bipush (v := nI 8) hx hb dX12_nextRoad_52 (by decide) ?_
              refine lv_iload_n hx hb dX12_nextRoad_54 rfl (lv_at hl 2 rfl) ?_
              refine gn_imul hx hb dX12_nextRoad_55  ?_
              refine lv_iload hx hb dX12_nextRoad_56 (lv_at hl 0 rfl) ?_
              refine gn_iadd hx hb dX12_nextRoad_58  ?_
              refine m_iald G X 27 rfl (i := ((8 * xw) + (σ.2 2 r1))) (by show _ < 40; omega) (by omega) dX12_nextRoad_59 ?_
              refine gn_ldc (v := 99999) (k := 99999) hx hb hown (hwd _ mk_115) (by decide) dX12_nextRoad_60 ?_
              refine gn_icmp_ge (tgt := 100) hx hb dX12_nextRoad_62 (by decide) (by omega) (by omega) (fun c_62 => ?_) (fun c_62 => ?_)
              ·
                refine lv_iinc (v := nI (r1 + 1)) (lv' := [(3, .int (nI (r1 + 1))), (4, .int (nI (σ.2 2 r1))), (0, .ref o), (1, .int (nI xw)), (2, .int (nI xc))]) hx hb dX12_nextRoad_100 hl (k := 4) rfl (zn_inc _) (by decide) rfl (fun ls hl => ?_)
                refine lv_goto (tgt := 2) hx hb dX12_nextRoad_103 (by decide) ?_
                refine ih_2 (r1 + 1) (by omega) (fun j hj => by
                      rcases Nat.lt_or_ge j r1 with h9 | h9
                      · exact hno j h9
                      · rw [show j = r1 by omega]
                        refine decide_eq_false (fun h => ?_)
                        first | exact absurd c_45 h.2.1 | (obtain ⟨h5, -, h6, h7⟩ := h; first | omega | (rw [if_pos e1] at h6 h7; omega) | (rw [if_neg e1] at h6 h7; omega))) (by omega) _ _ _ (by exact X) (by exact lv_sub hl [2, 3, 4, 0] rfl)
              ·
                refine lv_aload_n hx hb dX12_nextRoad_65 rfl (lv_at hl 1 rfl) ?_
                refine m_geta G X 27 rfl (hwd _ mk_22) rfl dX12_nextRoad_66 ?_
                refine lv_bipush (v := nI 8) hx hb dX12_nextRoad_69 (by decide) ?_
                refine lv_iload_n hx hb dX12_nextRoad_71 rfl (lv_at hl 2 rfl) ?_
                refine gn_imul hx hb dX12_nextRoad_72  ?_
                refine lv_iload hx hb dX12_nextRoad_73 (lv_at hl 0 rfl) ?_
                refine gn_iadd hx hb dX12_nextRoad_75  ?_
                refine m_iald G X 27 rfl (i := ((8 * xw) + (σ.2 2 r1))) (by show _ < 40; omega) (by omega) dX12_nextRoad_76 ?_
                refine lv_aload_n hx hb dX12_nextRoad_77 rfl (lv_at hl 1 rfl) ?_
                refine m_geta G X 3 rfl (hwd _ mk_6) rfl dX12_nextRoad_78 ?_
                refine lv_iload_n hx hb dX12_nextRoad_81 rfl (lv_at hl 4 rfl) ?_
                refine m_iald G X 3 rfl (i := r1) (by show _ < 16; omega) (by omega) dX12_nextRoad_82 ?_
                refine gn_iadd hx hb dX12_nextRoad_83  ?_
                refine lv_aload_n hx hb dX12_nextRoad_84 rfl (lv_at hl 1 rfl) ?_
                refine m_geta G X 27 rfl (hwd _ mk_22) rfl dX12_nextRoad_85 ?_
                refine lv_bipush (v := nI 8) hx hb dX12_nextRoad_88 (by decide) ?_
                refine lv_iload_n hx hb dX12_nextRoad_90 rfl (lv_at hl 2 rfl) ?_
                refine gn_imul hx hb dX12_nextRoad_91  ?_
                refine lv_iload_n hx hb dX12_nextRoad_92 rfl (lv_at hl 3 rfl) ?_
                refine gn_iadd hx hb dX12_nextRoad_93  ?_
                refine m_iald G X 27 rfl (i := ((8 * xw) + xc)) (by show _ < 40; omega) (by omega) dX12_nextRoad_94 ?_
                refine gn_icmp_ne (tgt := 100) hx hb dX12_nextRoad_95 (by decide) (by omega) (by omega) (fun c_95 => ?_) (fun c_95 => ?_)
                ·
                  refine lv_iinc (v := nI (r1 + 1)) (lv' := [(3, .int (nI (r1 + 1))), (4, .int (nI (σ.2 2 r1))), (0, .ref o), (1, .int (nI xw)), (2, .int (nI xc))]) hx hb dX12_nextRoad_100 hl (k := 4) rfl (zn_inc _) (by decide) rfl (fun ls hl => ?_)
                  refine lv_goto (tgt := 2) hx hb dX12_nextRoad_103 (by decide) ?_
                  refine ih_2 (r1 + 1) (by omega) (fun j hj => by
                        rcases Nat.lt_or_ge j r1 with h9 | h9
                        · exact hno j h9
                        · rw [show j = r1 by omega]
                          refine decide_eq_false (fun h => ?_)
                          first | exact absurd c_45 h.2.1 | (obtain ⟨h5, -, h6, h7⟩ := h; first | omega | (rw [if_pos e1] at h6 h7; omega) | (rw [if_neg e1] at h6 h7; omega))) (by omega) _ _ _ (by exact X) (by exact lv_sub hl [2, 3, 4, 0] rfl)
                ·
                  refine lv_iload_n hx hb dX12_nextRoad_98 rfl (lv_at hl 4 rfl) ?_
                  exact fin_of (rfl) ((znext_at c_23 hno (decide_eq_true ⟨by omega, c_45, by first | (rw [if_pos e1]; omega) | (rw [if_neg e1]; omega), by first | (rw [if_pos e1]; omega) | (rw [if_neg e1]; omega)⟩) (by omega)).symm) X dX12_nextRoad_99 fin
          by_cases e2 : σ.2 2 r1 = xc
          ·
            refine gi_raw (y := nI (σ.2 1 r1)) (by rw [if_neg e1, if_pos e2]) ?_
            refine lv_istore (lv' := [(4, .int (nI (σ.2 1 r1))), (0, .ref o), (1, .int (nI xw)), (2, .int (nI xc)), (3, .int (nI r1))]) hx hb dX12_nextRoad_32 hl (by decide) rfl (fun ls hl => ?_)
            refine lv_iload hx hb dX12_nextRoad_34 (lv_at hl 0 rfl) ?_
            refine gn_if_lt (tgt := 100) hx hb dX12_nextRoad_36 (by decide) (by omega) ?_
            refine lv_aload_n hx hb dX12_nextRoad_39 rfl (lv_at hl 1 rfl) ?_
            refine lv_iload_n hx hb dX12_nextRoad_40 rfl (lv_at hl 2 rfl) ?_
            refine lv_iload_n hx hb dX12_nextRoad_41 rfl (lv_at hl 4 rfl) ?_
            refine ctI_V (wf := []) (As := [.int (nI xw), .int (nI r1)]) (rest := []) (n := 2) hx hb hml hown hts hK hA (ap_nil X) hl.1 (m_recv G X) (c_isShut hcl ht0 ht1 (σ := σ) xw r1 (hok) (hw) (by omega)) (cwV 2 hts (mg_V mk_113 mk_117 mk_118 mk_119 mk_43) rfl rfl rfl (by decide +kernel) ⟨Nat.le_of_ble_eq_true rfl, Nat.le_of_ble_eq_true rfl⟩) rfl (Nat.le_of_ble_eq_true rfl) dX12_nextRoad_42 ⟨Nat.le_refl _, Nat.le_refl _⟩ (fun H locs X => ?_)
            replace X := ap_nil' X
            refine gb_if_ne (tgt := 100) hx hb dX12_nextRoad_45 (by decide) (fun c_45 => ?_) (fun c_45 => ?_)
            ·
              refine lv_iinc (v := nI (r1 + 1)) (lv' := [(3, .int (nI (r1 + 1))), (4, .int (nI (σ.2 1 r1))), (0, .ref o), (1, .int (nI xw)), (2, .int (nI xc))]) hx hb dX12_nextRoad_100 hl (k := 4) rfl (zn_inc _) (by decide) rfl (fun ls hl => ?_)
              refine lv_goto (tgt := 2) hx hb dX12_nextRoad_103 (by decide) ?_
              refine ih_2 (r1 + 1) (by omega) (fun j hj => by
                    rcases Nat.lt_or_ge j r1 with h9 | h9
                    · exact hno j h9
                    · rw [show j = r1 by omega]
                      refine decide_eq_false (fun h => ?_)
                      first | exact absurd c_45 h.2.1 | (obtain ⟨h5, -, h6, h7⟩ := h; first | omega | (rw [if_pos e1] at h6 h7; omega) | (rw [if_neg e1] at h6 h7; omega))) (by omega) _ _ _ (by exact X) (by exact lv_sub hl [2, 3, 4, 0] rfl)
            ·
              refine lv_aload_n hx hb dX12_nextRoad_48 rfl (lv_at hl 1 rfl) ?_
              refine m_geta G X 27 rfl (hwd _ mk_22) rfl dX12_nextRoad_49 ?_
              refine lv_bipush (v := nI 8) hx hb dX12_nextRoad_52 (by decide) ?_
              refine lv_iload_n hx hb dX12_nextRoad_54 rfl (lv_at hl 2 rfl) ?_
              refine gn_imul hx hb dX12_nextRoad_55  ?_
              refine lv_iload hx hb dX12_nextRoad_56 (lv_at hl 0 rfl) ?_
              refine gn_iadd hx hb dX12_nextRoad_58  ?_
              refine m_iald G X 27 rfl (i := ((8 * xw) + (σ.2 1 r1))) (by show _ < 40; omega) (by omega) dX12_nextRoad_59 ?_
              refine gn_ldc (v := 99999) (k := 99999) hx hb hown (hwd _ mk_115) (by decide) dX12_nextRoad_60 ?_
              refine gn_icmp_ge (tgt := 100) hx hb dX12_nextRoad_62 (by decide) (by omega) (by omega) (fun c_62 => ?_) (fun c_62 => ?_)
              ·
                refine lv_iinc (v := nI (r1 + 1)) (lv' := [(3, .int (nI (r1 + 1))), (4, .int (nI (σ.2 1 r1))), (0, .ref o), (1, .int (nI xw)), (2, .int (nI xc))]) hx hb dX12_nextRoad_100 hl (k := 4) rfl (zn_inc _) (by decide) rfl (fun ls hl => ?_)
                refine lv_goto (tgt := 2) hx hb dX12_nextRoad_103 (by decide) ?_
                refine ih_2 (r1 + 1) (by omega) (fun j hj => by
                      rcases Nat.lt_or_ge j r1 with h9 | h9
                      · exact hno j h9
                      · rw [show j = r1 by omega]
                        refine decide_eq_false (fun h => ?_)
                        first | exact absurd c_45 h.2.1 | (obtain ⟨h5, -, h6, h7⟩ := h; first | omega | (rw [if_pos e1] at h6 h7; omega) | (rw [if_neg e1] at h6 h7; omega))) (by omega) _ _ _ (by exact X) (by exact lv_sub hl [2, 3, 4, 0] rfl)
              ·
                refine lv_aload_n hx hb dX12_nextRoad_65 rfl (lv_at hl 1 rfl) ?_
                refine m_geta G X 27 rfl (hwd _ mk_22) rfl dX12_nextRoad_66 ?_
                refine lv_bipush (v := nI 8) hx hb dX12_nextRoad_69 (by decide) ?_
                refine lv_iload_n hx hb dX12_nextRoad_71 rfl (lv_at hl 2 rfl) ?_
                refine gn_imul hx hb dX12_nextRoad_72  ?_
                refine lv_iload hx hb dX12_nextRoad_73 (lv_at hl 0 rfl) ?_
                refine gn_iadd hx hb dX12_nextRoad_75  ?_
                refine m_iald G X 27 rfl (i := ((8 * xw) + (σ.2 1 r1))) (by show _ < 40; omega) (by omega) dX12_nextRoad_76 ?_
                refine lv_aload_n hx hb dX12_nextRoad_77 rfl (lv_at hl 1 rfl) ?_
                refine m_geta G X 3 rfl (hwd _ mk_6) rfl dX12_nextRoad_78 ?_
                refine lv_iload_n hx hb dX12_nextRoad_81 rfl (lv_at hl 4 rfl) ?_
                refine m_iald G X 3 rfl (i := r1) (by show _ < 16; omega) (by omega) dX12_nextRoad_82 ?_
                refine gn_iadd hx hb dX12_nextRoad_83  ?_
                refine lv_aload_n hx hb dX12_nextRoad_84 rfl (lv_at hl 1 rfl) ?_
                refine m_geta G X 27 rfl (hwd _ mk_22) rfl dX12_nextRoad_85 ?_
                refine lv_bipush (v := nI 8) hx hb dX12_nextRoad_88 (by decide) ?_
                refine lv_iload_n hx hb dX12_nextRoad_90 rfl (lv_at hl 2 rfl) ?_
                refine gn_imul hx hb dX12_nextRoad_91  ?_
                refine lv_iload_n hx hb dX12_nextRoad_92 rfl (lv_at hl 3 rfl) ?_
                refine gn_iadd hx hb dX12_nextRoad_93  ?_
                refine m_iald G X 27 rfl (i := ((8 * xw) + xc)) (by show _ < 40; omega) (by omega) dX12_nextRoad_94 ?_
                refine gn_icmp_ne (tgt := 100) hx hb dX12_nextRoad_95 (by decide) (by omega) (by omega) (fun c_95 => ?_) (fun c_95 => ?_)
                ·
                  refine lv_iinc (v := nI (r1 + 1)) (lv' := [(3, .int (nI (r1 + 1))), (4, .int (nI (σ.2 1 r1))), (0, .ref o), (1, .int (nI xw)), (2, .int (nI xc))]) hx hb dX12_nextRoad_100 hl (k := 4) rfl (zn_inc _) (by decide) rfl (fun ls hl => ?_)
                  refine lv_goto (tgt := 2) hx hb dX12_nextRoad_103 (by decide) ?_
                  refine ih_2 (r1 + 1) (by omega) (fun j hj => by
                        rcases Nat.lt_or_ge j r1 with h9 | h9
                        · exact hno j h9
                        · rw [show j = r1 by omega]
                          refine decide_eq_false (fun h => ?_)
                          first | exact absurd c_45 h.2.1 | (obtain ⟨h5, -, h6, h7⟩ := h; first | omega | (rw [if_pos e1] at h6 h7; omega) | (rw [if_neg e1] at h6 h7; omega))) (by omega) _ _ _ (by exact X) (by exact lv_sub hl [2, 3, 4, 0] rfl)
                ·
                  refine lv_iload_n hx hb dX12_nextRoad_98 rfl (lv_at hl 4 rfl) ?_
                  exact fin_of (rfl) ((znext_at c_23 hno (decide_eq_true ⟨by omega, c_45, by first | (rw [if_pos e1]; omega) | (rw [if_neg e1]; omega), by first | (rw [if_pos e1]; omega) | (rw [if_neg e1]; omega)⟩) (by omega)).symm) X dX12_nextRoad_99 fin
          refine gi_raw (y := (-1)) (by rw [if_neg e1, if_neg e2]) ?_
          refine lv_istore (lv' := [(4, .int (-1)), (0, .ref o), (1, .int (nI xw)), (2, .int (nI xc)), (3, .int (nI r1))]) hx hb dX12_nextRoad_32 hl (by decide) rfl (fun ls hl => ?_)
          refine lv_iload hx hb dX12_nextRoad_34 (lv_at hl 0 rfl) ?_
          refine lv_if_lt (tgt := 100) hx hb dX12_nextRoad_36 (by decide) (fun c_36 => ?_) (fun c_36 => ?_)
          ·
            refine lv_iinc (v := nI (r1 + 1)) (lv' := [(3, .int (nI (r1 + 1))), (4, .int (-1)), (0, .ref o), (1, .int (nI xw)), (2, .int (nI xc))]) hx hb dX12_nextRoad_100 hl (k := 4) rfl (zn_inc _) (by decide) rfl (fun ls hl => ?_)
            refine lv_goto (tgt := 2) hx hb dX12_nextRoad_103 (by decide) ?_
            refine ih_2 (r1 + 1) (by omega) (fun j hj => by
                  rcases Nat.lt_or_ge j r1 with h9 | h9
                  · exact hno j h9
                  · rw [show j = r1 by omega]
                    refine decide_eq_false (fun h => ?_)
                    first | exact absurd c_45 h.2.1 | (obtain ⟨h5, -, h6, h7⟩ := h; first | omega | (rw [if_pos e1] at h6 h7; omega) | (rw [if_neg e1] at h6 h7; omega))) (by omega) _ _ _ (by exact X) (by exact lv_sub hl [2, 3, 4, 0] rfl)
          · exact absurd c_36 (by decide)
  refine cut_2 _ 0 (Nat.zero_le _) (fun j hj => absurd hj (Nat.not_lt_zero j)) (Nat.lt_succ_self _) _ _ _ (by exact X) (by exact lv_sub hl [1, 2, 3, 0] rfl)
set_option maxHeartbeats 4000000 in
set_option maxRecDepth 100000 in
theorem c_said {l : Launch} {D : va_G} {cl : List vw_C} {tys : List (ClassId × FieldType)} {o : Nat} {q : Nat → Nat} {ci : Nat} {cI cJ : ClassId} (hcl : cl[ci]? = some (RX12, TX12, 48)) (ht0 : tys[0]? = some (cI, .int)) (ht1 : tys[1]? = some (cJ, .long)) {σ : MS} (xs : Nat) (xc : Nat) (xw : Nat) (hok : mOk σ) (hs : xs < σ.1 8) (hc : xc < 8) (hw : xw < σ.1 4) (hW : zWok (σ.2 27)) : ctI l D cl tys yX12_said (Cond.code yX12_said cX12_said 6 (some .int) :: mW) { frames := 0, cells := 0, slots := 0, locals := 0 } [.ref o, .int (nI xs), .int (nI xc), .int (nI xw)] (mw o q ci cI cJ σ) (nI (zsaid σ xs xc xw)) (mw o q ci cI cJ σ) := by
  refine ctI_of (cc := cX12_said) (maxL := 6) (by decide +kernel) rfl (Nat.le_of_ble_eq_true rfl) ?_
  intro p e s m args below meth c A Q ls hx hb hml hown hts hK hA X hl fin
  replace hown : s.vm.findClass RX12 = some m.cls := hown
  have hwd : ∀ w ∈ mW, w.before args s = true := fun w h => hts w (List.mem_cons_of_mem _ h)
  have G : mG p c cX12_said s m args D cl tys ci cI cJ := ⟨hx, hb, hown, hwd, hK, hcl, ht0, ht1⟩
  replace hl : lv_has ls 6 [(0, .ref o), (1, .int (nI xs)), (2, .int (nI xc)), (3, .int (nI xw))] := hl
  obtain ⟨kr, kw, ks, kroad, kworld, ksort, kmet, ksum, kst, kco⟩ := id hok
  have hsk := ksort xs hs
  refine lv_aload_n hx hb dX12_said_0 rfl (lv_at hl 0 rfl) ?_
  refine m_geta G X 9 rfl (hwd _ mk_10) rfl dX12_said_1 ?_
  refine lv_iload_n hx hb dX12_said_4 rfl (lv_at hl 1 rfl) ?_
  refine m_iald G X 9 rfl (i := xs) (by show _ < 6; omega) (by omega) dX12_said_5 ?_
  by_cases t_6_0 : (σ.2 9 xs) = 0
  · refine gi_eq t_6_0 ?_
    refine gn_tableIn (a := 0) (tgt := 36) hx hb dX12_said_6 (by decide) (by decide) (by decide) rfl (by decide) ?_
    refine lv_iload_n hx hb dX12_said_36 rfl (lv_at hl 3 rfl) ?_
    exact fin_of (rfl) (by unfold zsaid; (repeat first | rw [if_pos (by omega)] | rw [if_neg (by omega)])) X dX12_said_37 fin
  by_cases t_6_1 : (σ.2 9 xs) = 1
  · refine gi_eq t_6_1 ?_
    refine gn_tableIn (a := 1) (tgt := 38) hx hb dX12_said_6 (by decide) (by decide) (by decide) rfl (by decide) ?_
    refine lv_aload_n hx hb dX12_said_38 rfl (lv_at hl 0 rfl) ?_
    refine m_geta G X 10 rfl (hwd _ mk_11) rfl dX12_said_39 ?_
    refine lv_iload_n hx hb dX12_said_42 rfl (lv_at hl 1 rfl) ?_
    refine m_iald G X 10 rfl (i := xs) (by show _ < 6; omega) (by omega) dX12_said_43 ?_
    refine lv_aload_n hx hb dX12_said_44 rfl (lv_at hl 0 rfl) ?_
    refine m_geti G X 4 rfl (hwd _ mk_45) rfl dX12_said_45 ?_
    refine gn_icmp_ge (tgt := 60) hx hb dX12_said_48 (by decide) (by omega) (by omega) (fun c_48 => ?_) (fun c_48 => ?_)
    ·
      refine lv_aload_n hx hb dX12_said_60 rfl (lv_at hl 0 rfl) ?_
      refine m_geti G X 4 rfl (hwd _ mk_45) rfl dX12_said_61 ?_
      refine lv_iconst (v := nI 1) hx hb dX12_said_64 (by decide) ?_
      refine gn_isub hx hb dX12_said_65 (by omega) ?_
      exact fin_of (rfl) (by unfold zsaid; (repeat first | rw [if_pos (by omega)] | rw [if_neg (by omega)])) X dX12_said_66 fin
    ·
      refine lv_aload_n hx hb dX12_said_51 rfl (lv_at hl 0 rfl) ?_
      refine m_geta G X 10 rfl (hwd _ mk_11) rfl dX12_said_52 ?_
      refine lv_iload_n hx hb dX12_said_55 rfl (lv_at hl 1 rfl) ?_
      refine m_iald G X 10 rfl (i := xs) (by show _ < 6; omega) (by omega) dX12_said_56 ?_
      refine lv_goto (tgt := 66) hx hb dX12_said_57 (by decide) ?_
      exact fin_of (rfl) (by unfold zsaid; (repeat first | rw [if_pos (by omega)] | rw [if_neg (by omega)])) X dX12_said_66 fin
  by_cases t_6_2 : (σ.2 9 xs) = 2
  · refine gi_eq t_6_2 ?_
    refine gn_tableIn (a := 2) (tgt := 67) hx hb dX12_said_6 (by decide) (by decide) (by decide) rfl (by decide) ?_
    refine lv_iconst (v := nI 0) hx hb dX12_said_67 (by decide) ?_
    refine lv_istore (lv' := [(4, .int (nI 0)), (0, .ref o), (1, .int (nI xs)), (2, .int (nI xc)), (3, .int (nI xw))]) hx hb dX12_said_68 hl (by decide) rfl (fun ls hl => ?_)
    refine lv_iconst (v := nI 1) hx hb dX12_said_70 (by decide) ?_
    refine lv_istore (lv' := [(5, .int (nI 1)), (4, .int (nI 0)), (0, .ref o), (1, .int (nI xs)), (2, .int (nI xc)), (3, .int (nI xw))]) hx hb dX12_said_71 hl (by decide) rfl (fun ls hl => ?_)
    have cut_73 : ∀ (NN : Nat) (o1 : Nat) (h1 : 1 ≤ o1) (h2 : o1 ≤ σ.1 4), σ.1 4 - o1 < NN → ∀ (H : Heap) (locs : List Loc) (ls : Array Slot), wH D cl A s.heap H locs (mw o q ci cI cJ σ) → lv_has ls 6 [(0, .ref o), (1, .int (nI xs)), (2, .int (nI xc)), (3, .int (nI xw)), (4, .int (nI (zleast (fun o => σ.2 27 (8 * o + xc)) o1))), (5, .int (nI o1))] → W p l e { frames := 0, cells := 0, slots := 0, locals := 0 } s m args below meth c H locs 0 0 Q (F0 m 73 ls []) := by
      intro NN
      induction NN with
      | zero => intro o1 h1 h2 hNN; exact absurd hNN (Nat.not_lt_zero _)
      | succ NN ih_73 =>
        intro o1 h1 h2 hNN H locs ls X hl
        have hz := zleast_lt (fun o => σ.2 27 (8 * o + xc)) o1 (by omega)
        have hWa := hW (8 * o1 + xc)
        have hWb := hW (8 * zleast (fun o => σ.2 27 (8 * o + xc)) o1 + xc)
        refine lv_iload hx hb dX12_said_73 (lv_at hl 5 rfl) ?_
        refine lv_aload_n hx hb dX12_said_75 rfl (lv_at hl 0 rfl) ?_
        refine m_geti G X 4 rfl (hwd _ mk_45) rfl dX12_said_76 ?_
        refine gn_icmp_ge (tgt := 124) hx hb dX12_said_79 (by decide) (by omega) (by omega) (fun c_79 => ?_) (fun c_79 => ?_)
        ·
          refine lv_iload hx hb dX12_said_124 (lv_at hl 4 rfl) ?_
          exact fin_of (rfl) (by unfold zsaid; (repeat first | rw [if_pos (by omega)] | rw [if_neg (by omega)]); rw [show o1 = σ.1 4 by omega]) X dX12_said_126 fin
        ·
          refine lv_aload_n hx hb dX12_said_82 rfl (lv_at hl 0 rfl) ?_
          refine m_geta G X 27 rfl (hwd _ mk_22) rfl dX12_said_83 ?_
          refine lv_bipush (v := nI 8) hx hb dX12_said_86 (by decide) ?_
          refine lv_iload hx hb dX12_said_88 (lv_at hl 5 rfl) ?_
          refine gn_imul hx hb dX12_said_90  ?_
          refine lv_iload_n hx hb dX12_said_91 rfl (lv_at hl 2 rfl) ?_
          refine gn_iadd hx hb dX12_said_92  ?_
          refine m_iald G X 27 rfl (i := ((8 * o1) + xc)) (by show _ < 40; omega) (by omega) dX12_said_93 ?_
          refine lv_aload_n hx hb dX12_said_94 rfl (lv_at hl 0 rfl) ?_
          refine m_geta G X 27 rfl (hwd _ mk_22) rfl dX12_said_95 ?_
          refine lv_bipush (v := nI 8) hx hb dX12_said_98 (by decide) ?_
          refine lv_iload hx hb dX12_said_100 (lv_at hl 4 rfl) ?_
          refine gn_imul hx hb dX12_said_102  ?_
          refine lv_iload_n hx hb dX12_said_103 rfl (lv_at hl 2 rfl) ?_
          refine gn_iadd hx hb dX12_said_104  ?_
          refine m_iald G X 27 rfl (i := ((8 * (zleast (fun o => σ.2 27 (8 * o + xc)) o1)) + xc)) (by show _ < 40; omega) (by omega) dX12_said_105 ?_
          refine gn_icmp_ge (tgt := 114) hx hb dX12_said_106 (by decide) (by omega) (by omega) (fun c_106 => ?_) (fun c_106 => ?_)
          ·
            refine lv_iload hx hb dX12_said_114 (lv_at hl 4 rfl) ?_
            refine lv_istore (lv' := [(4, .int (nI (zleast (fun o => σ.2 27 (8 * o + xc)) o1))), (0, .ref o), (1, .int (nI xs)), (2, .int (nI xc)), (3, .int (nI xw)), (5, .int (nI o1))]) hx hb dX12_said_116 hl (by decide) rfl (fun ls hl => ?_)
            refine lv_iinc (v := nI (o1 + 1)) (lv' := [(5, .int (nI (o1 + 1))), (4, .int (nI (zleast (fun o => σ.2 27 (8 * o + xc)) o1))), (0, .ref o), (1, .int (nI xs)), (2, .int (nI xc)), (3, .int (nI xw))]) hx hb dX12_said_118 hl (k := 5) rfl (zn_inc _) (by decide) rfl (fun ls hl => ?_)
            refine lv_goto (tgt := 73) hx hb dX12_said_121 (by decide) ?_
            refine ih_73 (o1 + 1) (by omega) (by omega) (by omega) _ _ _ (by exact X) (by rw [show zleast (fun o => σ.2 27 (8 * o + xc)) (o1 + 1) = zleast (fun o => σ.2 27 (8 * o + xc)) o1 from if_neg (Nat.not_lt.mpr c_106)]; exact lv_sub hl [2, 3, 4, 5, 1, 0] rfl)
          ·
            refine lv_iload hx hb dX12_said_109 (lv_at hl 5 rfl) ?_
            refine lv_goto (tgt := 116) hx hb dX12_said_111 (by decide) ?_
            refine lv_istore (lv' := [(4, .int (nI o1)), (0, .ref o), (1, .int (nI xs)), (2, .int (nI xc)), (3, .int (nI xw)), (5, .int (nI o1))]) hx hb dX12_said_116 hl (by decide) rfl (fun ls hl => ?_)
            refine lv_iinc (v := nI (o1 + 1)) (lv' := [(5, .int (nI (o1 + 1))), (4, .int (nI o1)), (0, .ref o), (1, .int (nI xs)), (2, .int (nI xc)), (3, .int (nI xw))]) hx hb dX12_said_118 hl (k := 5) rfl (zn_inc _) (by decide) rfl (fun ls hl => ?_)
            refine lv_goto (tgt := 73) hx hb dX12_said_121 (by decide) ?_
            refine ih_73 (o1 + 1) (by omega) (by omega) (by omega) _ _ _ (by exact X) (by rw [show zleast (fun o => σ.2 27 (8 * o + xc)) (o1 + 1) = o1 from if_pos c_106]; exact lv_sub hl [2, 3, 4, 5, 1, 0] rfl)
    refine cut_73 _ 1 (by omega) (by omega) (Nat.lt_succ_self _) _ _ _ (by exact X) (by rw [zleast_1]; exact lv_sub hl [2, 3, 4, 5, 1, 0] rfl)
  by_cases t_6_3 : (σ.2 9 xs) = 3
  · refine gi_eq t_6_3 ?_
    refine gn_tableIn (a := 3) (tgt := 127) hx hb dX12_said_6 (by decide) (by decide) (by decide) rfl (by decide) ?_
    refine lv_iload_n hx hb dX12_said_127 rfl (lv_at hl 3 rfl) ?_
    refine lv_aload_n hx hb dX12_said_128 rfl (lv_at hl 0 rfl) ?_
    refine m_geti G X 4 rfl (hwd _ mk_45) rfl dX12_said_129 ?_
    refine lv_iconst (v := nI 1) hx hb dX12_said_132 (by decide) ?_
    refine gn_isub hx hb dX12_said_133 (by omega) ?_
    refine gn_icmp_ne (tgt := 141) hx hb dX12_said_134 (by decide) (by omega) (by omega) (fun c_134 => ?_) (fun c_134 => ?_)
    ·
      refine lv_iload_n hx hb dX12_said_141 rfl (lv_at hl 3 rfl) ?_
      refine lv_iconst (v := nI 1) hx hb dX12_said_142 (by decide) ?_
      refine gn_iadd hx hb dX12_said_143  ?_
      exact fin_of (rfl) (by unfold zsaid; (repeat first | rw [if_pos (by omega)] | rw [if_neg (by omega)])) X dX12_said_144 fin
    ·
      refine lv_iconst (v := nI 0) hx hb dX12_said_137 (by decide) ?_
      refine lv_goto (tgt := 144) hx hb dX12_said_138 (by decide) ?_
      exact fin_of (rfl) (by unfold zsaid; (repeat first | rw [if_pos (by omega)] | rw [if_neg (by omega)])) X dX12_said_144 fin
  refine gn_tableOut (a := (σ.2 9 xs)) (tgt := 145) hx hb dX12_said_6 (by omega) (by omega) (by decide) ?_
  refine lv_iload_n hx hb dX12_said_145 rfl (lv_at hl 3 rfl) ?_
  refine gn_if_ne (tgt := 158) hx hb dX12_said_146 (by decide) (by omega) (fun c_146 => ?_) (fun c_146 => ?_)
  ·
    refine lv_iload_n hx hb dX12_said_158 rfl (lv_at hl 3 rfl) ?_
    refine lv_iconst (v := nI 1) hx hb dX12_said_159 (by decide) ?_
    refine gn_isub hx hb dX12_said_160 (by omega) ?_
    exact fin_of (rfl) (by unfold zsaid; (repeat first | rw [if_pos (by omega)] | rw [if_neg (by omega)])) X dX12_said_161 fin
  ·
    refine lv_aload_n hx hb dX12_said_149 rfl (lv_at hl 0 rfl) ?_
    refine m_geti G X 4 rfl (hwd _ mk_45) rfl dX12_said_150 ?_
    refine lv_iconst (v := nI 1) hx hb dX12_said_153 (by decide) ?_
    refine gn_isub hx hb dX12_said_154 (by omega) ?_
    refine lv_goto (tgt := 161) hx hb dX12_said_155 (by decide) ?_
    exact fin_of (rfl) (by unfold zsaid; (repeat first | rw [if_pos (by omega)] | rw [if_neg (by omega)])) X dX12_said_161 fin
set_option maxHeartbeats 4000000 in
set_option maxRecDepth 100000 in
theorem c_hundredths {l : Launch} {D : va_G} {cl : List vw_C} {tys : List (ClassId × FieldType)} {o : Nat} {q : Nat → Nat} {ci : Nat} {cI cJ : ClassId} (hcl : cl[ci]? = some (RX12, TX12, 48)) (ht0 : tys[0]? = some (cI, .int)) (ht1 : tys[1]? = some (cJ, .long)) {σ : MS} (xc : Nat) (xa : Nat) (xw : Nat) (hok : mOk σ) (hc : xc < 8) (ha : xa < σ.1 4 ∨ xa = 4294967295) (hw : xw < σ.1 4) (hW : zWok (σ.2 27)) (hp : σ.1 28 < 8 ∨ σ.1 28 = 4294967295) : ctI l D cl tys yX12_hundredths (Cond.code yX12_hundredths cX12_hundredths 6 (some .int) :: mW) { frames := 1, cells := 0, slots := 0, locals := 25 } [.ref o, .int (nI xc), .int (nI xa), .int (nI xw)] (mw o q ci cI cJ σ) (nI (zhund σ xc xa xw)) (mw o q ci cI cJ σ) := by
  refine ctI_of (cc := cX12_hundredths) (maxL := 6) (by decide +kernel) rfl (Nat.le_of_ble_eq_true rfl) ?_
  intro p e s m args below meth c A Q ls hx hb hml hown hts hK hA X hl fin
  replace hown : s.vm.findClass RX12 = some m.cls := hown
  have hwd : ∀ w ∈ mW, w.before args s = true := fun w h => hts w (List.mem_cons_of_mem _ h)
  have G : mG p c cX12_hundredths s m args D cl tys ci cI cJ := ⟨hx, hb, hown, hwd, hK, hcl, ht0, ht1⟩
  replace hl : lv_has ls 6 [(0, .ref o), (1, .int (nI xc)), (2, .int (nI xa)), (3, .int (nI xw))] := hl
  obtain ⟨kr, kw, ks, kroad, kworld, ksort, kmet, ksum, kst, kco⟩ := id hok
  refine lv_iload_n hx hb dX12_hundredths_0 rfl (lv_at hl 1 rfl) ?_
  refine lv_aload_n hx hb dX12_hundredths_1 rfl (lv_at hl 0 rfl) ?_
  refine m_geti G X 28 rfl (hwd _ mk_23) rfl dX12_hundredths_2 ?_
  refine gn_icmp_ne (tgt := 20) hx hb dX12_hundredths_5 (by decide) (by omega) (by omega) (fun c_5 => ?_) (fun c_5 => ?_)
  ·
    refine lv_iload_n hx hb dX12_hundredths_20 rfl (lv_at hl 2 rfl) ?_
    by_cases ea : xa = 4294967295
    ·
      refine gi_raw (y := (-1)) (by rw [ea]; decide) ?_
      refine lv_if_ge (tgt := 33) hx hb dX12_hundredths_21 (by decide) (fun c_21 => ?_) (fun c_21 => ?_)
      · exact absurd c_21 (by decide)
      ·
        have hms := ksum xc hc
        refine lv_bipush (v := nI 100) hx hb dX12_hundredths_24 (by decide) ?_
        refine lv_aload_n hx hb dX12_hundredths_26 rfl (lv_at hl 0 rfl) ?_
        refine lv_iload_n hx hb dX12_hundredths_27 rfl (lv_at hl 1 rfl) ?_
        refine ctI_V (wf := []) (As := [.int (nI xc)]) (rest := [.int (nI 100)]) (n := 1) hx hb hml hown hts hK hA (ap_nil X) hl.1 (m_recv G X) (c_metTogether hcl ht0 ht1 (σ := σ) xc (hok) (by omega)) (cwV 1 hts (mg_V mk_75 mk_82 mk_83 mk_84 mk_43) rfl rfl rfl (by decide +kernel) ⟨Nat.le_of_ble_eq_true rfl, Nat.le_of_ble_eq_true rfl⟩) rfl (Nat.le_of_ble_eq_true rfl) dX12_hundredths_28 ⟨Nat.le_refl _, Nat.le_refl _⟩ (fun H locs X => ?_)
        replace X := ap_nil' X
        refine gn_isub hx hb dX12_hundredths_31 (by omega) ?_
        exact fin_of (rfl) (by unfold zhund; (repeat first | rw [if_pos (by omega)] | rw [if_neg (by omega)])) X dX12_hundredths_32 fin
    refine gn_if_ge (tgt := 33) hx hb dX12_hundredths_21 (by decide) (by omega) ?_
    refine lv_iconst (v := nI 0) hx hb dX12_hundredths_33 (by decide) ?_
    refine lv_istore (lv' := [(4, .int (nI 0)), (0, .ref o), (1, .int (nI xc)), (2, .int (nI xa)), (3, .int (nI xw))]) hx hb dX12_hundredths_34 hl (by decide) rfl (fun ls hl => ?_)
    refine lv_iconst (v := nI 0) hx hb dX12_hundredths_36 (by decide) ?_
    refine lv_istore (lv' := [(5, .int (nI 0)), (4, .int (nI 0)), (0, .ref o), (1, .int (nI xc)), (2, .int (nI xa)), (3, .int (nI xw))]) hx hb dX12_hundredths_37 hl (by decide) rfl (fun ls hl => ?_)
    have cut_39 : ∀ (NN : Nat) (s1 : Nat) (h1 : s1 ≤ σ.1 8), σ.1 8 - s1 < NN → ∀ (H : Heap) (locs : List Loc) (ls : Array Slot), wH D cl A s.heap H locs (mw o q ci cI cJ σ) → lv_has ls 6 [(0, .ref o), (1, .int (nI xc)), (2, .int (nI xa)), (3, .int (nI xw)), (4, .int (nI (zsum (fun s => if zsaid σ s xc xw = xa then σ.2 11 (6 * xc + s) else 0) s1))), (5, .int (nI s1))] → W p l e { frames := 1, cells := 0, slots := 0, locals := 25 } s m args below meth c H locs 0 0 Q (F0 m 39 ls []) := by
      intro NN
      induction NN with
      | zero => intro s1 h1 hNN; exact absurd hNN (Nat.not_lt_zero _)
      | succ NN ih_39 =>
        intro s1 h1 hNN H locs ls X hl
        have hz := zsaid_lt (σ := σ) (s := s1) (c := xc) hw
        refine lv_iload hx hb dX12_hundredths_39 (lv_at hl 5 rfl) ?_
        refine lv_aload_n hx hb dX12_hundredths_41 rfl (lv_at hl 0 rfl) ?_
        refine m_geti G X 8 rfl (hwd _ mk_80) rfl dX12_hundredths_42 ?_
        refine gn_icmp_ge (tgt := 87) hx hb dX12_hundredths_45 (by decide) (by omega) (by omega) (fun c_45 => ?_) (fun c_45 => ?_)
        ·
          refine lv_iload hx hb dX12_hundredths_87 (lv_at hl 4 rfl) ?_
          exact fin_of (rfl) (by unfold zhund; (repeat first | rw [if_pos (by omega)] | rw [if_neg (by omega)]); rw [show s1 = σ.1 8 by omega]) X dX12_hundredths_89 fin
        ·
          refine lv_iload hx hb dX12_hundredths_48 (lv_at hl 4 rfl) ?_
          refine lv_aload_n hx hb dX12_hundredths_50 rfl (lv_at hl 0 rfl) ?_
          refine lv_iload hx hb dX12_hundredths_51 (lv_at hl 5 rfl) ?_
          refine lv_iload_n hx hb dX12_hundredths_53 rfl (lv_at hl 1 rfl) ?_
          refine lv_iload_n hx hb dX12_hundredths_54 rfl (lv_at hl 3 rfl) ?_
          refine ctI_V (wf := []) (As := [.int (nI s1), .int (nI xc), .int (nI xw)]) (rest := [.int (nI (zsum (fun s => if zsaid σ s xc xw = xa then σ.2 11 (6 * xc + s) else 0) s1))]) (n := 3) hx hb hml hown hts hK hA (ap_nil X) hl.1 (m_recv G X) (c_said hcl ht0 ht1 (σ := σ) s1 xc xw (hok) (by omega) (by omega) (by omega) (hW)) (cwV 3 hts (mg_V mk_136 mk_137 mk_138 mk_139 mk_43) rfl rfl rfl (by decide +kernel) ⟨Nat.le_of_ble_eq_true rfl, Nat.le_of_ble_eq_true rfl⟩) rfl (Nat.le_of_ble_eq_true rfl) dX12_hundredths_55 ⟨Nat.le_refl _, Nat.le_refl _⟩ (fun H locs X => ?_)
          replace X := ap_nil' X
          refine lv_iload_n hx hb dX12_hundredths_58 rfl (lv_at hl 2 rfl) ?_
          refine gn_icmp_ne (tgt := 77) hx hb dX12_hundredths_59 (by decide) (by omega) (by omega) (fun c_59 => ?_) (fun c_59 => ?_)
          ·
            refine lv_iconst (v := nI 0) hx hb dX12_hundredths_77 (by decide) ?_
            refine gn_iadd hx hb dX12_hundredths_78  ?_
            refine lv_istore (lv' := [(4, .int (nI ((zsum (fun s => if zsaid σ s xc xw = xa then σ.2 11 (6 * xc + s) else 0) s1) + 0))), (0, .ref o), (1, .int (nI xc)), (2, .int (nI xa)), (3, .int (nI xw)), (5, .int (nI s1))]) hx hb dX12_hundredths_79 hl (by decide) rfl (fun ls hl => ?_)
            refine lv_iinc (v := nI (s1 + 1)) (lv' := [(5, .int (nI (s1 + 1))), (4, .int (nI ((zsum (fun s => if zsaid σ s xc xw = xa then σ.2 11 (6 * xc + s) else 0) s1) + 0))), (0, .ref o), (1, .int (nI xc)), (2, .int (nI xa)), (3, .int (nI xw))]) hx hb dX12_hundredths_81 hl (k := 5) rfl (zn_inc _) (by decide) rfl (fun ls hl => ?_)
            refine lv_goto (tgt := 39) hx hb dX12_hundredths_84 (by decide) ?_
            refine ih_39 (s1 + 1) (by omega) (by omega) _ _ _ (by exact X) (by rw [show zsum (fun s => if zsaid σ s xc xw = xa then σ.2 11 (6 * xc + s) else 0) (s1 + 1) = zsum (fun s => if zsaid σ s xc xw = xa then σ.2 11 (6 * xc + s) else 0) s1 + (if zsaid σ s1 xc xw = xa then σ.2 11 (6 * xc + s1) else 0) from rfl]; first | (rw [if_pos c_59]; exact lv_sub hl [2, 3, 4, 5, 1, 0] rfl) | (rw [if_neg c_59]; exact lv_sub hl [2, 3, 4, 5, 1, 0] rfl))
          ·
            refine lv_aload_n hx hb dX12_hundredths_62 rfl (lv_at hl 0 rfl) ?_
            refine m_geta G X 11 rfl (hwd _ mk_12) rfl dX12_hundredths_63 ?_
            refine lv_bipush (v := nI 6) hx hb dX12_hundredths_66 (by decide) ?_
            refine lv_iload_n hx hb dX12_hundredths_68 rfl (lv_at hl 1 rfl) ?_
            refine gn_imul hx hb dX12_hundredths_69  ?_
            refine lv_iload hx hb dX12_hundredths_70 (lv_at hl 5 rfl) ?_
            refine gn_iadd hx hb dX12_hundredths_72  ?_
            refine m_iald G X 11 rfl (i := ((6 * xc) + s1)) (by show _ < 48; omega) (by omega) dX12_hundredths_73 ?_
            refine lv_goto (tgt := 78) hx hb dX12_hundredths_74 (by decide) ?_
            refine gn_iadd hx hb dX12_hundredths_78  ?_
            refine lv_istore (lv' := [(4, .int (nI ((zsum (fun s => if zsaid σ s xc xw = xa then σ.2 11 (6 * xc + s) else 0) s1) + (σ.2 11 ((6 * xc) + s1))))), (0, .ref o), (1, .int (nI xc)), (2, .int (nI xa)), (3, .int (nI xw)), (5, .int (nI s1))]) hx hb dX12_hundredths_79 hl (by decide) rfl (fun ls hl => ?_)
            refine lv_iinc (v := nI (s1 + 1)) (lv' := [(5, .int (nI (s1 + 1))), (4, .int (nI ((zsum (fun s => if zsaid σ s xc xw = xa then σ.2 11 (6 * xc + s) else 0) s1) + (σ.2 11 ((6 * xc) + s1))))), (0, .ref o), (1, .int (nI xc)), (2, .int (nI xa)), (3, .int (nI xw))]) hx hb dX12_hundredths_81 hl (k := 5) rfl (zn_inc _) (by decide) rfl (fun ls hl => ?_)
            refine lv_goto (tgt := 39) hx hb dX12_hundredths_84 (by decide) ?_
            refine ih_39 (s1 + 1) (by omega) (by omega) _ _ _ (by exact X) (by rw [show zsum (fun s => if zsaid σ s xc xw = xa then σ.2 11 (6 * xc + s) else 0) (s1 + 1) = zsum (fun s => if zsaid σ s xc xw = xa then σ.2 11 (6 * xc + s) else 0) s1 + (if zsaid σ s1 xc xw = xa then σ.2 11 (6 * xc + s1) else 0) from rfl]; first | (rw [if_pos c_59]; exact lv_sub hl [2, 3, 4, 5, 1, 0] rfl) | (rw [if_neg c_59]; exact lv_sub hl [2, 3, 4, 5, 1, 0] rfl))
    refine cut_39 _ 0 (Nat.zero_le _) (Nat.lt_succ_self _) _ _ _ (by exact X) (by exact lv_sub hl [2, 3, 4, 5, 1, 0] rfl)
  ·
    refine lv_iload_n hx hb dX12_hundredths_8 rfl (lv_at hl 2 rfl) ?_
    refine lv_iload_n hx hb dX12_hundredths_9 rfl (lv_at hl 3 rfl) ?_
    refine gn_icmp_ne (tgt := 18) hx hb dX12_hundredths_10 (by decide) (by omega) (by omega) (fun c_10 => ?_) (fun c_10 => ?_)
    ·
      refine lv_iconst (v := nI 0) hx hb dX12_hundredths_18 (by decide) ?_
      exact fin_of (rfl) (by unfold zhund; (repeat first | rw [if_pos (by omega)] | rw [if_neg (by omega)])) X dX12_hundredths_19 fin
    ·
      refine lv_bipush (v := nI 100) hx hb dX12_hundredths_13 (by decide) ?_
      refine lv_goto (tgt := 19) hx hb dX12_hundredths_15 (by decide) ?_
      exact fin_of (rfl) (by unfold zhund; (repeat first | rw [if_pos (by omega)] | rw [if_neg (by omega)])) X dX12_hundredths_19 fin
set_option maxHeartbeats 4000000 in
set_option maxRecDepth 100000 in
theorem c_hear {l : Launch} {D : va_G} {cl : List vw_C} {tys : List (ClassId × FieldType)} {o : Nat} {q : Nat → Nat} {ci : Nat} {cI cJ : ClassId} (hcl : cl[ci]? = some (RX12, TX12, 48)) (ht0 : tys[0]? = some (cI, .int)) (ht1 : tys[1]? = some (cJ, .long)) {σ : MS} (xc : Nat) (xa : Nat) (hok : mOk σ) (hc : xc < 8) (ha : xa < σ.1 4 ∨ xa = 4294967295) (hW : zWok (σ.2 27)) (hp : σ.1 28 < 8 ∨ σ.1 28 = 4294967295) : ctV l D cl tys yX12_hear (Cond.code yX12_hear cX12_hear 4 (none) :: mW) { frames := 2, cells := 0, slots := 0, locals := 50 } [.ref o, .int (nI xc), .int (nI xa)] (mw o q ci cI cJ σ) (mw o q ci cI cJ (sA σ 29 (zcp (zhearM σ (σ.2 29) xc xa) (σ.2 29) (σ.1 4)))) := by
  refine ctV_of (cc := cX12_hear) (maxL := 4) (by decide +kernel) rfl (Nat.le_of_ble_eq_true rfl) ?_
  intro p e s m args below meth c A Q ls hx hb hml hown hts hK hA X hl fin
  replace hown : s.vm.findClass RX12 = some m.cls := hown
  have hwd : ∀ w ∈ mW, w.before args s = true := fun w h => hts w (List.mem_cons_of_mem _ h)
  have G : mG p c cX12_hear s m args D cl tys ci cI cJ := ⟨hx, hb, hown, hwd, hK, hcl, ht0, ht1⟩
  replace hl : lv_has ls 4 [(0, .ref o), (1, .int (nI xc)), (2, .int (nI xa))] := hl
  obtain ⟨kr, kw, ks, kroad, kworld, ksort, kmet, ksum, kst, kco⟩ := id hok
  refine lv_iconst (v := nI 0) hx hb dX12_hear_0 (by decide) ?_
  refine lv_istore_n (lv' := [(3, .int (nI 0)), (0, .ref o), (1, .int (nI xc)), (2, .int (nI xa))]) hx hb dX12_hear_1 rfl hl (by decide) rfl (fun ls hl => ?_)
  have cut_2 : ∀ (NN : Nat) (w1 : Nat) (h1 : w1 ≤ σ.1 4), σ.1 4 - w1 < NN → ∀ (H : Heap) (locs : List Loc) (ls : Array Slot), wH D cl A s.heap H locs (mw o q ci cI cJ (sA σ 29 (zcp (zhearM σ (σ.2 29) xc xa) (σ.2 29) w1))) → lv_has ls 4 [(0, .ref o), (1, .int (nI xc)), (2, .int (nI xa)), (3, .int (nI w1))] → W p l e { frames := 2, cells := 0, slots := 0, locals := 50 } s m args below meth c H locs 0 0 Q (F0 m 2 ls []) := by
    intro NN
    induction NN with
    | zero => intro w1 h1 hNN; exact absurd hNN (Nat.not_lt_zero _)
    | succ NN ih_2 =>
      intro w1 h1 hNN H locs ls X hl
      refine lv_iload_n hx hb dX12_hear_2 rfl (lv_at hl 3 rfl) ?_
      refine lv_aload_n hx hb dX12_hear_3 rfl (lv_at hl 0 rfl) ?_
      refine m_geti G X 4 rfl (hwd _ mk_45) rfl dX12_hear_4 ?_
      refine gi_eq (a := (σ.1 4)) rfl ?_
      refine gn_icmp_ge (tgt := 33) hx hb dX12_hear_7 (by decide) (by omega) (by omega) (fun c_7 => ?_) (fun c_7 => ?_)
      ·
        have hwe : w1 = σ.1 4 := by omega
        exact finV_of (by rw [hwe]) X dX12_hear_33 fin
      ·
        refine lv_aload_n hx hb dX12_hear_10 rfl (lv_at hl 0 rfl) ?_
        refine m_geta G X 29 rfl (hwd _ mk_24) rfl dX12_hear_11 ?_
        refine lv_iload_n hx hb dX12_hear_14 rfl (lv_at hl 3 rfl) ?_
        refine lv_dup2_11 hx hb dX12_hear_15 rfl rfl ?_
        refine m_lald G X 29 rfl (i := w1) (by show _ < 5; omega) (by omega) dX12_hear_16 ?_
        refine gl_eq (a := ((zcp (zhearM σ (σ.2 29) xc xa) (σ.2 29) w1) w1)) rfl ?_
        refine gl_eq (a := (σ.2 29 w1)) (zcp_out (Nat.le_refl _)) ?_
        refine lv_aload_n hx hb dX12_hear_17 rfl (lv_at hl 0 rfl) ?_
        refine lv_iload_n hx hb dX12_hear_18 rfl (lv_at hl 1 rfl) ?_
        refine lv_iload_n hx hb dX12_hear_19 rfl (lv_at hl 2 rfl) ?_
        refine lv_iload_n hx hb dX12_hear_20 rfl (lv_at hl 3 rfl) ?_
        refine ctI_V (wf := []) (As := [.int (nI xc), .int (nI xa), .int (nI w1)]) (rest := [.long (lN (σ.2 29 w1)), .int (nI w1), .ref (q 29)]) (n := 3) hx hb hml hown hts hK hA (ap_nil X) hl.1 (m_recv G X) (c_hundredths hcl ht0 ht1 (σ := (sA σ 29 (zcp (zhearM σ (σ.2 29) xc xa) (σ.2 29) w1))) xc xa w1 (hok) (by omega) (ha) (c_7) (hW) (hp)) (cwV 3 hts (mg_V mk_141 mk_147 mk_148 mk_149 mk_43) rfl rfl rfl (by decide +kernel) ⟨Nat.le_of_ble_eq_true rfl, Nat.le_of_ble_eq_true rfl⟩) rfl (Nat.le_of_ble_eq_true rfl) dX12_hear_21 ⟨Nat.le_refl _, Nat.le_refl _⟩ (fun H locs X => ?_)
        replace X := ap_nil' X
        refine gi_raw (y := (nI (zhund σ xc xa w1))) rfl ?_
        refine gn_i2l hx hb dX12_hear_24 (by have := zhund_le (a := xa) (w := w1) hok hc; omega) ?_
        refine gn_lmul hx hb dX12_hear_25  ?_
        refine m_last G X 29 rfl (i := w1) (v := ((σ.2 29 w1) * (zhund σ xc xa w1))) (by show _ < 5; omega) (by omega) dX12_hear_26 (fun H locs X => ?_)
        refine lv_iinc (v := nI (w1 + 1)) (lv' := [(3, .int (nI (w1 + 1))), (0, .ref o), (1, .int (nI xc)), (2, .int (nI xa))]) hx hb dX12_hear_27 hl (k := 3) rfl (zn_inc _) (by decide) rfl (fun ls hl => ?_)
        refine lv_goto (tgt := 2) hx hb dX12_hear_30 (by decide) ?_
        refine ih_2 (w1 + 1) (by omega) (by omega) _ _ _ (by exact wh_eq (sA_f1 σ 29 (zhearM σ (σ.2 29) xc xa) w1 _ (rfl)) X) (by exact lv_sub hl [1, 2, 3, 0] rfl)
  refine cut_2 _ 0 (Nat.zero_le _) (Nat.lt_succ_self _) _ _ _ (by exact wh_eq (sA_f0 σ 29 (zhearM σ (σ.2 29) xc xa)) X) (by exact lv_sub hl [1, 2, 3, 0] rfl)
set_option maxHeartbeats 4000000 in
set_option maxRecDepth 100000 in
theorem c_settle {l : Launch} {D : va_G} {cl : List vw_C} {tys : List (ClassId × FieldType)} {o : Nat} {q : Nat → Nat} {ci : Nat} {cI cJ : ClassId} (hcl : cl[ci]? = some (RX12, TX12, 48)) (ht0 : tys[0]? = some (cI, .int)) (ht1 : tys[1]? = some (cJ, .long)) {σ : MS} (hok : mOk σ) (hM : ∀ w, w < σ.1 4 → σ.2 29 w < 9223372036854775808) : ctI l D cl tys yX12_settle (Cond.code yX12_settle cX12_settle 5 (some .boolean) :: mW) { frames := 1, cells := 0, slots := 0, locals := 29 } [.ref o] (mw o q ci cI cJ σ) (if zgall (σ.2 29) (σ.1 4) ≠ 0 then 1 else 0) (mw o q ci cI cJ (sA σ 29 (zset (σ.1 4) (σ.2 29)))) := by
  refine ctZ_of (cc := cX12_settle) (maxL := 5) (hnar := zb_ite) (by decide +kernel) rfl (Nat.le_of_ble_eq_true rfl) ?_
  intro p e s m args below meth c A Q ls hx hb hml hown hts hK hA X hl fin
  replace hown : s.vm.findClass RX12 = some m.cls := hown
  have hwd : ∀ w ∈ mW, w.before args s = true := fun w h => hts w (List.mem_cons_of_mem _ h)
  have G : mG p c cX12_settle s m args D cl tys ci cI cJ := ⟨hx, hb, hown, hwd, hK, hcl, ht0, ht1⟩
  replace hl : lv_has ls 5 [(0, .ref o)] := hl
  obtain ⟨kr, kw, ks, kroad, kworld, ksort, kmet, ksum, kst, kco⟩ := id hok
  refine lv_lconst (v := lN 0) hx hb dX12_settle_0 (by decide) ?_
  refine lv_lstore_n (lv' := [(1, .long (lN 0)), (0, .ref o)]) hx hb dX12_settle_1 rfl hl (by decide) rfl (fun ls hl => ?_)
  refine lv_iconst (v := nI 0) hx hb dX12_settle_2 (by decide) ?_
  refine lv_istore_n (lv' := [(3, .int (nI 0)), (1, .long (lN 0)), (0, .ref o)]) hx hb dX12_settle_3 rfl hl (by decide) rfl (fun ls hl => ?_)
  have cut_4 : ∀ (NN : Nat) (v1 : Nat) (hv1 : v1 ≤ σ.1 4), σ.1 4 - v1 < NN → ∀ (H : Heap) (locs : List Loc) (ls : Array Slot), wH D cl A s.heap H locs (mw o q ci cI cJ σ) → lv_has ls 5 [(0, .ref o), (1, .long (lN (zgall (σ.2 29) v1))), (3, .int (nI v1))] → W p l e { frames := 1, cells := 0, slots := 0, locals := 29 } s m args below meth c H locs 0 0 Q (F0 m 4 ls []) := by
    intro NN
    induction NN with
    | zero => intro v1 hv1 hNN; exact absurd hNN (Nat.not_lt_zero _)
    | succ NN ih_4 =>
      intro v1 hv1 hNN H locs ls X hl
      have hg := zgall_lt (f := σ.2 29) (b := 9223372036854775808) (by omega) v1 (fun w hw => hM w (by omega))
      refine lv_iload_n hx hb dX12_settle_4 rfl (lv_at hl 2 rfl) ?_
      refine lv_aload_n hx hb dX12_settle_5 rfl (lv_at hl 0 rfl) ?_
      refine m_geti G X 4 rfl (hwd _ mk_45) rfl dX12_settle_6 ?_
      refine gn_icmp_ge (tgt := 29) hx hb dX12_settle_9 (by decide) (by omega) (by omega) (fun c_9 => ?_) (fun c_9 => ?_)
      ·
        refine lv_lload_n hx hb dX12_settle_29 rfl (lv_at hl 1 rfl) ?_
        refine lv_lconst (v := lN 0) hx hb dX12_settle_30 (by decide) ?_
        refine gn_lc_ne (tgt := 37) hx hb dX12_settle_31 dX12_settle_32 (by decide) (hg) (by omega) (fun c_31 => ?_) (fun c_31 => ?_)
        ·
          have hne : zgall (σ.2 29) (σ.1 4) ≠ 0 := by rw [show σ.1 4 = v1 by omega]; exact c_31
          refine lv_iconst (v := nI 0) hx hb dX12_settle_37 (by decide) ?_
          refine lv_istore_n (lv' := [(3, .int (nI 0)), (0, .ref o), (1, .long (lN (zgall (σ.2 29) v1)))]) hx hb dX12_settle_38 rfl hl (by decide) rfl (fun ls hl => ?_)
          have cut_39 : ∀ (NN : Nat) (w2 : Nat) (hw2 : w2 ≤ σ.1 4), σ.1 4 - w2 < NN → ∀ (H : Heap) (locs : List Loc) (ls : Array Slot), wH D cl A s.heap H locs (mw o q ci cI cJ (sA σ 29 (zcp (fun w => σ.2 29 w / zgall (σ.2 29) (σ.1 4)) (σ.2 29) w2))) → lv_has ls 5 [(0, .ref o), (1, .long (lN (zgall (σ.2 29) (σ.1 4)))), (3, .int (nI w2))] → W p l e { frames := 1, cells := 0, slots := 0, locals := 29 } s m args below meth c H locs 0 0 Q (F0 m 39 ls []) := by
            intro NN
            induction NN with
            | zero => intro w2 hw2 hNN; exact absurd hNN (Nat.not_lt_zero _)
            | succ NN ih_39 =>
              intro w2 hw2 hNN H locs ls X hl
              refine lv_iload_n hx hb dX12_settle_39 rfl (lv_at hl 2 rfl) ?_
              refine lv_aload_n hx hb dX12_settle_40 rfl (lv_at hl 0 rfl) ?_
              refine m_geti G X 4 rfl (hwd _ mk_45) rfl dX12_settle_41 ?_
              refine gi_eq (a := (σ.1 4)) rfl ?_
              refine gn_icmp_ge (tgt := 63) hx hb dX12_settle_44 (by decide) (by omega) (by omega) (fun c_44 => ?_) (fun c_44 => ?_)
              ·
                refine lv_iconst (v := nI 1) hx hb dX12_settle_63 (by decide) ?_
                refine lv_istore_n (lv' := [(3, .int (nI 1)), (0, .ref o), (1, .long (lN (zgall (σ.2 29) (σ.1 4))))]) hx hb dX12_settle_64 rfl hl (by decide) rfl (fun ls hl => ?_)
                have cut_65 : ∀ (NN : Nat) (g : Nat → Nat) (k : Nat) (mo : Nat) (hmo : mo < 2) (hf1 : mo = 1 → zhalves (σ.1 4) k g = zset (σ.1 4) (σ.2 29)) (hf0 : mo = 0 → g = zset (σ.1 4) (σ.2 29)) (hbd : ∀ w, w < σ.1 4 → g w ≤ 100000000000 * 2 ^ k) (hg6 : ∀ w, w < σ.1 4 → g w < 9223372036854775808), 2 * k + mo < NN → ∀ (H : Heap) (locs : List Loc) (ls : Array Slot), wH D cl A s.heap H locs (mw o q ci cI cJ (sA σ 29 g)) → lv_has ls 5 [(0, .ref o), (1, .long (lN (zgall (σ.2 29) (σ.1 4)))), (3, .int (nI mo))] → W p l e { frames := 1, cells := 0, slots := 0, locals := 29 } s m args below meth c H locs 0 0 Q (F0 m 65 ls []) := by
                  intro NN
                  induction NN with
                  | zero => intro g k mo hmo hf1 hf0 hbd hg6 hNN; exact absurd hNN (Nat.not_lt_zero _)
                  | succ NN ih_65 =>
                    intro g k mo hmo hf1 hf0 hbd hg6 hNN H locs ls X hl
                    refine lv_iload_n hx hb dX12_settle_65 rfl (lv_at hl 2 rfl) ?_
                    refine gn_if_eq (tgt := 172) hx hb dX12_settle_66 (by decide) (by omega) (fun c_66 => ?_) (fun c_66 => ?_)
                    ·
                      refine lv_iconst (v := nI 1) hx hb dX12_settle_172 (by decide) ?_
                      exact fin_of (mw_eq (by rw [hf0 (by omega)])) (by rw [if_pos hne]; rfl) X dX12_settle_173 fin
                    ·
                      refine lv_iconst (v := nI 0) hx hb dX12_settle_69 (by decide) ?_
                      refine lv_istore_n (lv' := [(3, .int (nI 0)), (0, .ref o), (1, .long (lN (zgall (σ.2 29) (σ.1 4))))]) hx hb dX12_settle_70 rfl hl (by decide) rfl (fun ls hl => ?_)
                      refine lv_iconst (v := nI 0) hx hb dX12_settle_71 (by decide) ?_
                      refine lv_istore (lv' := [(4, .int (nI 0)), (3, .int (nI 0)), (0, .ref o), (1, .long (lN (zgall (σ.2 29) (σ.1 4))))]) hx hb dX12_settle_72 hl (by decide) rfl (fun ls hl => ?_)
                      have cut_74 : ∀ (NN : Nat) (w1 : Nat) (h1 : w1 ≤ σ.1 4), σ.1 4 - w1 < NN → ∀ (H : Heap) (locs : List Loc) (ls : Array Slot), wH D cl A s.heap H locs (mw o q ci cI cJ (sA σ 29 g)) → lv_has ls 5 [(0, .ref o), (1, .long (lN (zgall (σ.2 29) (σ.1 4)))), (3, .int (if zany (zbigP g) w1 = true then 1 else 0)), (4, .int (nI w1))] → W p l e { frames := 1, cells := 0, slots := 0, locals := 29 } s m args below meth c H locs 0 0 Q (F0 m 74 ls []) := by
                        intro NN
                        induction NN with
                        | zero => intro w1 h1 hNN; exact absurd hNN (Nat.not_lt_zero _)
                        | succ NN ih_74 =>
                          intro w1 h1 hNN H locs ls X hl
                          refine lv_iload hx hb dX12_settle_74 (lv_at hl 3 rfl) ?_
                          refine lv_aload_n hx hb dX12_settle_76 rfl (lv_at hl 0 rfl) ?_
                          refine m_geti G X 4 rfl (hwd _ mk_45) rfl dX12_settle_77 ?_
                          refine gi_eq (a := (σ.1 4)) rfl ?_
                          refine gn_icmp_ge (tgt := 113) hx hb dX12_settle_80 (by decide) (by omega) (by omega) (fun c_80 => ?_) (fun c_80 => ?_)
                          ·
                            refine lv_iconst (v := nI 0) hx hb dX12_settle_113 (by decide) ?_
                            refine lv_istore (lv' := [(4, .int (nI 0)), (0, .ref o), (1, .long (lN (zgall (σ.2 29) (σ.1 4)))), (3, .int (if zany (zbigP g) w1 = true then 1 else 0))]) hx hb dX12_settle_114 hl (by decide) rfl (fun ls hl => ?_)
                            have cut_116 : ∀ (NN : Nat) (w1 : Nat) (mo2 : Nat) (h1 : w1 ≤ σ.1 4) (hm2 : (mo2 = 1 ∧ zany (zbigP g) (σ.1 4) = true) ∨ (mo2 = 0 ∧ ¬ zany (zbigP g) (σ.1 4) = true ∧ w1 = 0)), σ.1 4 - w1 < NN → ∀ (H : Heap) (locs : List Loc) (ls : Array Slot), wH D cl A s.heap H locs (mw o q ci cI cJ (sA σ 29 (zcp (zhf g) g w1))) → lv_has ls 5 [(0, .ref o), (1, .long (lN (zgall (σ.2 29) (σ.1 4)))), (3, .int (nI mo2)), (4, .int (nI w1))] → W p l e { frames := 1, cells := 0, slots := 0, locals := 29 } s m args below meth c H locs 0 0 Q (F0 m 116 ls []) := by
                              intro NN
                              induction NN with
                              | zero => intro w1 mo2 h1 hm2 hNN; exact absurd hNN (Nat.not_lt_zero _)
                              | succ NN ih_116 =>
                                intro w1 mo2 h1 hm2 hNN H locs ls X hl
                                refine lv_iload hx hb dX12_settle_116 (lv_at hl 3 rfl) ?_
                                refine lv_aload_n hx hb dX12_settle_118 rfl (lv_at hl 0 rfl) ?_
                                refine m_geti G X 4 rfl (hwd _ mk_45) rfl dX12_settle_119 ?_
                                refine gi_eq (a := (σ.1 4)) rfl ?_
                                refine gn_icmp_ge (tgt := 169) hx hb dX12_settle_122 (by decide) (by omega) (by omega) (fun c_122 => ?_) (fun c_122 => ?_)
                                ·
                                  by_cases em : mo2 = 0
                                  ·
                                    replace X := wh_eq (show sA σ 29 (zcp (zhf g) g w1) = sA σ 29 g by rw [show w1 = 0 by omega]; exact congrArg (sA σ 29) (funext fun a => zcp_out (Nat.zero_le a))) X
                                    subst em
                                    refine lv_goto (tgt := 65) hx hb dX12_settle_169 (by decide) ?_
                                    refine ih_65 g k 0 (by omega) (fun h => absurd h (by omega)) (fun _ => by
                                          rcases hm2 with h | h
                                          · omega
                                          · have hm1 : mo = 1 := by omega
                                            have := hf1 hm1
                                            rw [zhalves_stop h.2.1] at this
                                            exact this) (hbd) (hg6) (by omega) _ _ _ (by exact X) (by exact lv_sub hl [0, 1, 2] rfl)
                                  have hw9 : w1 = σ.1 4 := by omega
                                  have hb9 : zany (zbigP g) (σ.1 4) = true := by rcases hm2 with h | h; exact h.2; exact absurd h.1 em
                                  have hk9 : 0 < k := by
                                        rcases Nat.eq_zero_or_pos k with h | h
                                        · subst h
                                          exact absurd hb9 (zany_small (fun w hw => by simpa using hbd w hw))
                                        · exact h
                                  have em1 : mo2 = 1 := by omega
                                  subst em1
                                  refine lv_goto (tgt := 65) hx hb dX12_settle_169 (by decide) ?_
                                  refine ih_65 (zcp (zhf g) g (σ.1 4)) (k - 1) 1 (by omega) (fun _ => by
                                        have h := hf1 (by omega)
                                        rw [show k = (k - 1) + 1 by omega, zhalves, if_pos hb9] at h
                                        exact h) (fun h => absurd h (by omega)) (fun w hw => by
                                        rw [zcp_in hw]
                                        have h := hbd w hw
                                        rw [show k = (k - 1) + 1 by omega, Nat.pow_succ] at h
                                        exact zhf_le (by omega) (Nat.mul_pos (by omega) (Nat.pow_pos (by omega)))) (fun w hw => by
                                        rw [zcp_in hw]
                                        have h := hg6 w hw
                                        unfold zhf
                                        split <;> omega) (by omega) _ _ _ (by exact wh_eq (by rw [hw9]) X) (by exact lv_sub hl [0, 1, 2] rfl)
                                ·
                                  refine lv_iload_n hx hb dX12_settle_125 rfl (lv_at hl 2 rfl) ?_
                                  refine gn_if_eq (tgt := 169) hx hb dX12_settle_126 (by decide) (by omega) (fun c_126 => ?_) (fun c_126 => ?_)
                                  ·
                                    by_cases em : mo2 = 0
                                    ·
                                      replace X := wh_eq (show sA σ 29 (zcp (zhf g) g w1) = sA σ 29 g by rw [show w1 = 0 by omega]; exact congrArg (sA σ 29) (funext fun a => zcp_out (Nat.zero_le a))) X
                                      subst em
                                      refine lv_goto (tgt := 65) hx hb dX12_settle_169 (by decide) ?_
                                      refine ih_65 g k 0 (by omega) (fun h => absurd h (by omega)) (fun _ => by
                                            rcases hm2 with h | h
                                            · omega
                                            · have hm1 : mo = 1 := by omega
                                              have := hf1 hm1
                                              rw [zhalves_stop h.2.1] at this
                                              exact this) (hbd) (hg6) (by omega) _ _ _ (by exact X) (by exact lv_sub hl [0, 1, 2] rfl)
                                    have hw9 : w1 = σ.1 4 := by omega
                                    have hb9 : zany (zbigP g) (σ.1 4) = true := by rcases hm2 with h | h; exact h.2; exact absurd h.1 em
                                    have hk9 : 0 < k := by
                                          rcases Nat.eq_zero_or_pos k with h | h
                                          · subst h
                                            exact absurd hb9 (zany_small (fun w hw => by simpa using hbd w hw))
                                          · exact h
                                    have em1 : mo2 = 1 := by omega
                                    subst em1
                                    refine lv_goto (tgt := 65) hx hb dX12_settle_169 (by decide) ?_
                                    refine ih_65 (zcp (zhf g) g (σ.1 4)) (k - 1) 1 (by omega) (fun _ => by
                                          have h := hf1 (by omega)
                                          rw [show k = (k - 1) + 1 by omega, zhalves, if_pos hb9] at h
                                          exact h) (fun h => absurd h (by omega)) (fun w hw => by
                                          rw [zcp_in hw]
                                          have h := hbd w hw
                                          rw [show k = (k - 1) + 1 by omega, Nat.pow_succ] at h
                                          exact zhf_le (by omega) (Nat.mul_pos (by omega) (Nat.pow_pos (by omega)))) (fun w hw => by
                                          rw [zcp_in hw]
                                          have h := hg6 w hw
                                          unfold zhf
                                          split <;> omega) (by omega) _ _ _ (by exact wh_eq (by rw [hw9]) X) (by exact lv_sub hl [0, 1, 2] rfl)
                                  ·
                                    refine lv_aload_n hx hb dX12_settle_129 rfl (lv_at hl 0 rfl) ?_
                                    refine m_geta G X 29 rfl (hwd _ mk_24) rfl dX12_settle_130 ?_
                                    refine lv_iload hx hb dX12_settle_133 (lv_at hl 3 rfl) ?_
                                    refine lv_aload_n hx hb dX12_settle_135 rfl (lv_at hl 0 rfl) ?_
                                    refine m_geta G X 29 rfl (hwd _ mk_24) rfl dX12_settle_136 ?_
                                    refine lv_iload hx hb dX12_settle_139 (lv_at hl 3 rfl) ?_
                                    refine m_lald G X 29 rfl (i := w1) (by show _ < 5; omega) (by omega) dX12_settle_141 ?_
                                    refine gl_eq (a := ((zcp (zhf g) g w1) w1)) rfl ?_
                                    refine gl_eq (a := (g w1)) (zcp_out (Nat.le_refl _)) ?_
                                    refine lv_lconst (v := lN 1) hx hb dX12_settle_142 (by decide) ?_
                                    refine gn_lc_ne (tgt := 151) hx hb dX12_settle_143 dX12_settle_144 (by decide) (hg6 w1 (by omega)) (by omega) (fun c_143 => ?_) (fun c_143 => ?_)
                                    ·
                                      refine lv_aload_n hx hb dX12_settle_151 rfl (lv_at hl 0 rfl) ?_
                                      refine m_geta G X 29 rfl (hwd _ mk_24) rfl dX12_settle_152 ?_
                                      refine lv_iload hx hb dX12_settle_155 (lv_at hl 3 rfl) ?_
                                      refine m_lald G X 29 rfl (i := w1) (by show _ < 5; omega) (by omega) dX12_settle_157 ?_
                                      refine gl_eq (a := ((zcp (zhf g) g w1) w1)) rfl ?_
                                      refine gl_eq (a := (g w1)) (zcp_out (Nat.le_refl _)) ?_
                                      refine gn_ldc2 (v := 2) (k := 2) hx hb hown (hwd _ mk_102) (by decide) dX12_settle_158 ?_
                                      refine gn_ldiv hx hb dX12_settle_161 (hg6 w1 (by omega)) (by omega) (by omega) ?_
                                      refine m_last G X 29 rfl (i := w1) (v := ((g w1) / 2)) (by show _ < 5; omega) (by omega) dX12_settle_162 (fun H locs X => ?_)
                                      refine lv_iinc (v := nI (w1 + 1)) (lv' := [(4, .int (nI (w1 + 1))), (0, .ref o), (1, .long (lN (zgall (σ.2 29) (σ.1 4)))), (3, .int (nI mo2))]) hx hb dX12_settle_163 hl (k := 3) rfl (zn_inc _) (by decide) rfl (fun ls hl => ?_)
                                      refine lv_goto (tgt := 116) hx hb dX12_settle_166 (by decide) ?_
                                      refine ih_116 (w1 + 1) mo2 (by omega) (Or.inl (by rcases hm2 with h | h; exact h; exact absurd h.1 (by omega))) (by omega) _ _ _ (by exact wh_eq ((sA_e1 σ 29 _ _ _).trans (congrArg (sA σ 29) (zcp_1 (by unfold zhf; first | rw [if_pos c_143] | rw [if_neg c_143])))) X) (by exact lv_sub hl [1, 2, 3, 0] rfl)
                                    ·
                                      refine lv_lconst (v := lN 1) hx hb dX12_settle_147 (by decide) ?_
                                      refine lv_goto (tgt := 162) hx hb dX12_settle_148 (by decide) ?_
                                      refine m_last G X 29 rfl (i := w1) (v := 1) (by show _ < 5; omega) (by omega) dX12_settle_162 (fun H locs X => ?_)
                                      refine lv_iinc (v := nI (w1 + 1)) (lv' := [(4, .int (nI (w1 + 1))), (0, .ref o), (1, .long (lN (zgall (σ.2 29) (σ.1 4)))), (3, .int (nI mo2))]) hx hb dX12_settle_163 hl (k := 3) rfl (zn_inc _) (by decide) rfl (fun ls hl => ?_)
                                      refine lv_goto (tgt := 116) hx hb dX12_settle_166 (by decide) ?_
                                      refine ih_116 (w1 + 1) mo2 (by omega) (Or.inl (by rcases hm2 with h | h; exact h; exact absurd h.1 (by omega))) (by omega) _ _ _ (by exact wh_eq ((sA_e1 σ 29 _ _ _).trans (congrArg (sA σ 29) (zcp_1 (by unfold zhf; first | rw [if_pos c_143] | rw [if_neg c_143])))) X) (by exact lv_sub hl [1, 2, 3, 0] rfl)
                            refine cut_116 _ 0 (if zany (zbigP g) (σ.1 4) = true then 1 else 0) (Nat.zero_le _) (by by_cases h : zany (zbigP g) (σ.1 4) = true; exact Or.inl ⟨if_pos h, h⟩; exact Or.inr ⟨if_neg h, h, rfl⟩) (Nat.lt_succ_self _) _ _ _ (by exact wh_eq (congrArg (sA σ 29) (funext fun a => (zcp_out (Nat.zero_le a)).symm)) X) (by rw [show nI (if zany (zbigP g) (σ.1 4) = true then 1 else 0) = (if zany (zbigP g) w1 = true then 1 else 0) from by rw [show w1 = σ.1 4 by omega]; split <;> rfl]; exact lv_sub hl [1, 2, 3, 0] rfl)
                          ·
                            refine lv_iload_n hx hb dX12_settle_83 rfl (lv_at hl 2 rfl) ?_
                            refine gb_if_ne (tgt := 101) hx hb dX12_settle_84 (by decide) (fun c_84 => ?_) (fun c_84 => ?_)
                            ·
                              refine lv_iconst (v := nI 1) hx hb dX12_settle_101 (by decide) ?_
                              refine lv_goto (tgt := 106) hx hb dX12_settle_102 (by decide) ?_
                              refine lv_istore_n (lv' := [(3, .int (nI 1)), (0, .ref o), (1, .long (lN (zgall (σ.2 29) (σ.1 4)))), (4, .int (nI w1))]) hx hb dX12_settle_106 rfl hl (by decide) rfl (fun ls hl => ?_)
                              refine lv_iinc (v := nI (w1 + 1)) (lv' := [(4, .int (nI (w1 + 1))), (3, .int (nI 1)), (0, .ref o), (1, .long (lN (zgall (σ.2 29) (σ.1 4))))]) hx hb dX12_settle_107 hl (k := 3) rfl (zn_inc _) (by decide) rfl (fun ls hl => ?_)
                              refine lv_goto (tgt := 74) hx hb dX12_settle_110 (by decide) ?_
                              refine ih_74 (w1 + 1) (by omega) (by omega) _ _ _ (by exact X) (by first | (rw [if_pos (zany_t1 c_84)]; exact lv_sub hl [2, 3, 1, 0] rfl) | (rw [if_pos (zany_t2 (decide_eq_true c_97))]; exact lv_sub hl [2, 3, 1, 0] rfl) | (rw [if_neg (zany_f c_84 (fun h => absurd (of_decide_eq_true h) (by omega)))]; exact lv_sub hl [2, 3, 1, 0] rfl))
                            ·
                              refine lv_aload_n hx hb dX12_settle_87 rfl (lv_at hl 0 rfl) ?_
                              refine m_geta G X 29 rfl (hwd _ mk_24) rfl dX12_settle_88 ?_
                              refine lv_iload hx hb dX12_settle_91 (lv_at hl 3 rfl) ?_
                              refine m_lald G X 29 rfl (i := w1) (by show _ < 5; omega) (by omega) dX12_settle_93 ?_
                              refine gl_eq (a := (g w1)) rfl ?_
                              refine gn_ldc2 (v := 100000000000) (k := 100000000000) hx hb hown (hwd _ mk_153) (by decide) dX12_settle_94 ?_
                              refine gn_lc_le (tgt := 105) hx hb dX12_settle_97 dX12_settle_98 (by decide) (hg6 w1 (by omega)) (by omega) (fun c_97 => ?_) (fun c_97 => ?_)
                              ·
                                refine lv_iconst (v := nI 0) hx hb dX12_settle_105 (by decide) ?_
                                refine lv_istore_n (lv' := [(3, .int (nI 0)), (0, .ref o), (1, .long (lN (zgall (σ.2 29) (σ.1 4)))), (4, .int (nI w1))]) hx hb dX12_settle_106 rfl hl (by decide) rfl (fun ls hl => ?_)
                                refine lv_iinc (v := nI (w1 + 1)) (lv' := [(4, .int (nI (w1 + 1))), (3, .int (nI 0)), (0, .ref o), (1, .long (lN (zgall (σ.2 29) (σ.1 4))))]) hx hb dX12_settle_107 hl (k := 3) rfl (zn_inc _) (by decide) rfl (fun ls hl => ?_)
                                refine lv_goto (tgt := 74) hx hb dX12_settle_110 (by decide) ?_
                                refine ih_74 (w1 + 1) (by omega) (by omega) _ _ _ (by exact X) (by first | (rw [if_pos (zany_t1 c_84)]; exact lv_sub hl [2, 3, 1, 0] rfl) | (rw [if_pos (zany_t2 (decide_eq_true c_97))]; exact lv_sub hl [2, 3, 1, 0] rfl) | (rw [if_neg (zany_f c_84 (fun h => absurd (of_decide_eq_true h) (by omega)))]; exact lv_sub hl [2, 3, 1, 0] rfl))
                              ·
                                refine lv_iconst (v := nI 1) hx hb dX12_settle_101 (by decide) ?_
                                refine lv_goto (tgt := 106) hx hb dX12_settle_102 (by decide) ?_
                                refine lv_istore_n (lv' := [(3, .int (nI 1)), (0, .ref o), (1, .long (lN (zgall (σ.2 29) (σ.1 4)))), (4, .int (nI w1))]) hx hb dX12_settle_106 rfl hl (by decide) rfl (fun ls hl => ?_)
                                refine lv_iinc (v := nI (w1 + 1)) (lv' := [(4, .int (nI (w1 + 1))), (3, .int (nI 1)), (0, .ref o), (1, .long (lN (zgall (σ.2 29) (σ.1 4))))]) hx hb dX12_settle_107 hl (k := 3) rfl (zn_inc _) (by decide) rfl (fun ls hl => ?_)
                                refine lv_goto (tgt := 74) hx hb dX12_settle_110 (by decide) ?_
                                refine ih_74 (w1 + 1) (by omega) (by omega) _ _ _ (by exact X) (by first | (rw [if_pos (zany_t1 c_84)]; exact lv_sub hl [2, 3, 1, 0] rfl) | (rw [if_pos (zany_t2 (decide_eq_true c_97))]; exact lv_sub hl [2, 3, 1, 0] rfl) | (rw [if_neg (zany_f c_84 (fun h => absurd (of_decide_eq_true h) (by omega)))]; exact lv_sub hl [2, 3, 1, 0] rfl))
                      refine cut_74 _ 0 (Nat.zero_le _) (Nat.lt_succ_self _) _ _ _ (by exact X) (by exact lv_sub hl [2, 3, 1, 0] rfl)
                refine cut_65 _ (zcp (fun w => σ.2 29 w / zgall (σ.2 29) (σ.1 4)) (σ.2 29) (σ.1 4)) 64 1 (by omega) (fun _ => rfl) (fun h => absurd h (by omega)) (fun w hw => by
                      rw [zcp_in hw]
                      have h1 := hM w hw
                      have h2 := zdiv_le (σ.2 29 w) (zgall (σ.2 29) (σ.1 4))
                      have h3 : 9223372036854775808 ≤ 100000000000 * 2 ^ 64 := by decide
                      omega) (fun w hw => by
                      rw [zcp_in hw]
                      have h1 := hM w hw
                      have h2 := zdiv_le (σ.2 29 w) (zgall (σ.2 29) (σ.1 4))
                      omega) (Nat.lt_succ_self _) _ _ _ (by exact wh_eq (by rw [show w2 = σ.1 4 by omega]) X) (by exact lv_sub hl [1, 2, 0] rfl)
              ·
                refine lv_aload_n hx hb dX12_settle_47 rfl (lv_at hl 0 rfl) ?_
                refine m_geta G X 29 rfl (hwd _ mk_24) rfl dX12_settle_48 ?_
                refine lv_iload_n hx hb dX12_settle_51 rfl (lv_at hl 2 rfl) ?_
                refine lv_dup2_11 hx hb dX12_settle_52 rfl rfl ?_
                refine m_lald G X 29 rfl (i := w2) (by show _ < 5; omega) (by omega) dX12_settle_53 ?_
                refine gl_eq (a := ((zcp (fun w => σ.2 29 w / zgall (σ.2 29) (σ.1 4)) (σ.2 29) w2) w2)) rfl ?_
                refine gl_eq (a := (σ.2 29 w2)) (zcp_out (Nat.le_refl _)) ?_
                refine lv_lload_n hx hb dX12_settle_54 rfl (lv_at hl 1 rfl) ?_
                refine gn_ldiv hx hb dX12_settle_55 (hM w2 (by omega)) (by omega) (zgall_lt (by omega) _ hM) ?_
                refine m_last G X 29 rfl (i := w2) (v := ((σ.2 29 w2) / (zgall (σ.2 29) (σ.1 4)))) (by show _ < 5; omega) (by omega) dX12_settle_56 (fun H locs X => ?_)
                refine lv_iinc (v := nI (w2 + 1)) (lv' := [(3, .int (nI (w2 + 1))), (0, .ref o), (1, .long (lN (zgall (σ.2 29) (σ.1 4))))]) hx hb dX12_settle_57 hl (k := 2) rfl (zn_inc _) (by decide) rfl (fun ls hl => ?_)
                refine lv_goto (tgt := 39) hx hb dX12_settle_60 (by decide) ?_
                refine ih_39 (w2 + 1) (by omega) (by omega) _ _ _ (by exact wh_eq (sA_f1 σ 29 (fun w => σ.2 29 w / zgall (σ.2 29) (σ.1 4)) w2 _ rfl) X) (by exact lv_sub hl [1, 2, 0] rfl)
          refine cut_39 _ 0 (Nat.zero_le _) (Nat.lt_succ_self _) _ _ _ (by exact wh_eq (sA_f0 σ 29 (fun w => σ.2 29 w / zgall (σ.2 29) (σ.1 4))) X) (by rw [show zgall (σ.2 29) (σ.1 4) = zgall (σ.2 29) v1 by rw [show v1 = σ.1 4 by omega]]; exact lv_sub hl [1, 2, 0] rfl)
        ·
          refine lv_iconst (v := nI 0) hx hb dX12_settle_35 (by decide) ?_
          exact fin_of (mw_eq (by rw [zset_zero (by rw [show σ.1 4 = v1 by omega]; exact c_31), sA_self])) (by rw [if_neg (by rw [show σ.1 4 = v1 by omega]; omega)]; rfl) X dX12_settle_36 fin
      ·
        refine lv_aload_n hx hb dX12_settle_12 rfl (lv_at hl 0 rfl) ?_
        refine m_geta G X 29 rfl (hwd _ mk_24) rfl dX12_settle_13 ?_
        refine lv_iload_n hx hb dX12_settle_16 rfl (lv_at hl 2 rfl) ?_
        refine m_lald G X 29 rfl (i := v1) (by show _ < 5; omega) (by omega) dX12_settle_17 ?_
        refine lv_lload_n hx hb dX12_settle_18 rfl (lv_at hl 1 rfl) ?_
        refine ctL_S (w := []) (wf := mw o q ci cI cJ σ) (As := [.long (lN (σ.2 29 v1)), .long (lN (zgall (σ.2 29) v1))]) (rest := []) (n := 2) hx hb hml hown hts hK hA X hl.1 (c_divisor (σ.2 29 v1) (zgall (σ.2 29) v1) (hM v1 (by omega)) (hg)) (va_cwS 2 hts (mg_S mk_151 mk_154 mk_155 mk_43) rfl rfl rfl (by decide +kernel) ⟨Nat.le_of_ble_eq_true rfl, Nat.le_of_ble_eq_true rfl⟩) rfl (Nat.le_of_ble_eq_true rfl) dX12_settle_19 ⟨Nat.le_refl _, Nat.le_refl _⟩ (fun H locs X => ?_)
        refine lv_lstore_n (lv' := [(1, .long (lN (Nat.gcd (σ.2 29 v1) (zgall (σ.2 29) v1)))), (0, .ref o), (3, .int (nI v1))]) hx hb dX12_settle_22 rfl hl (by decide) rfl (fun ls hl => ?_)
        refine lv_iinc (v := nI (v1 + 1)) (lv' := [(3, .int (nI (v1 + 1))), (1, .long (lN (Nat.gcd (σ.2 29 v1) (zgall (σ.2 29) v1)))), (0, .ref o)]) hx hb dX12_settle_23 hl (k := 2) rfl (zn_inc _) (by decide) rfl (fun ls hl => ?_)
        refine lv_goto (tgt := 4) hx hb dX12_settle_26 (by decide) ?_
        refine ih_4 (v1 + 1) (by omega) (by omega) _ _ _ (by exact X) (by exact lv_sub hl [2, 1, 0] rfl)
  refine cut_4 _ 0 (Nat.zero_le _) (Nat.lt_succ_self _) _ _ _ (by exact X) (by exact lv_sub hl [2, 1, 0] rfl)
