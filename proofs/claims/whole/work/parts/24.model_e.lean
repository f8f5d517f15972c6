set_option maxHeartbeats 4000000 in
set_option maxRecDepth 100000 in
theorem c_keepMind {l : Launch} {D : va_G} {cl : List vw_C} {tys : List (ClassId × FieldType)} {o : Nat} {q : Nat → Nat} {ci : Nat} {cI cJ : ClassId} (hcl : cl[ci]? = some (RX12, TX12, 48)) (ht0 : tys[0]? = some (cI, .int)) (ht1 : tys[1]? = some (cJ, .long)) {σ : MS} (hok : mOk σ) (hM : ∀ w, w < σ.1 4 → σ.2 29 w < 9223372036854775808) : ctI l D cl tys yX12_keepMind (Cond.code yX12_keepMind cX12_keepMind 2 (some .int) :: mW) { frames := 2, cells := 0, slots := 0, locals := 53 } [.ref o] (mw o q ci cI cJ σ) (if zgall (σ.2 29) (σ.1 4) = 0 then -3 else nI (zbest (zset (σ.1 4) (σ.2 29)) (σ.1 4))) (mw o q ci cI cJ (sA (sA σ 29 (zset (σ.1 4) (σ.2 29))) 14 (if zgall (σ.2 29) (σ.1 4) = 0 then σ.2 14 else zcp (zset (σ.1 4) (σ.2 29)) (σ.2 14) (σ.1 4)))) := by
  refine ctI_of (cc := cX12_keepMind) (maxL := 2) (by decide +kernel) rfl (Nat.le_of_ble_eq_true rfl) ?_
  intro p e s m args below meth c A Q ls hx hb hml hown hts hK hA X hl fin
  replace hown : s.vm.findClass RX12 = some m.cls := hown
  have hwd : ∀ w ∈ mW, w.before args s = true := fun w h => hts w (List.mem_cons_of_mem _ h)
  have G : mG p c cX12_keepMind s m args D cl tys ci cI cJ := ⟨hx, hb, hown, hwd, hK, hcl, ht0, ht1⟩
  replace hl : lv_has ls 2 [(0, .ref o)] := hl
  obtain ⟨kr, kw, ks, kroad, kworld, ksort, kmet, ksum, kst, kco⟩ := id hok
  refine lv_aload_n hx hb dX12_keepMind_0 rfl (lv_at hl 0 rfl) ?_
  refine ctI_V (wf := []) (As := []) (rest := []) (n := 0) hx hb hml hown hts hK hA (ap_nil X) hl.1 (m_recv G X) (c_settle hcl ht0 ht1 (σ := σ)  (hok) (hM)) (cwV 0 hts (mg_V mk_152 mk_159 mk_160 mk_161 mk_43) rfl rfl rfl (by decide +kernel) ⟨Nat.le_of_ble_eq_true rfl, Nat.le_of_ble_eq_true rfl⟩) rfl (Nat.le_of_ble_eq_true rfl) dX12_keepMind_1 ⟨Nat.le_refl _, Nat.le_refl _⟩ (fun H locs X => ?_)
  replace X := ap_nil' X
  refine gb_if_ne (tgt := 10) hx hb dX12_keepMind_4 (by decide) (fun c_4 => ?_) (fun c_4 => ?_)
  ·
    refine lv_iconst (v := nI 0) hx hb dX12_keepMind_10 (by decide) ?_
    refine lv_istore_n (lv' := [(1, .int (nI 0)), (0, .ref o)]) hx hb dX12_keepMind_11 rfl hl (by decide) rfl (fun ls hl => ?_)
    have cut_12 : ∀ (NN : Nat) (w1 : Nat) (h1 : w1 ≤ σ.1 4), σ.1 4 - w1 < NN → ∀ (H : Heap) (locs : List Loc) (ls : Array Slot), wH D cl A s.heap H locs (mw o q ci cI cJ (sA (sA σ 29 (zset (σ.1 4) (σ.2 29))) 14 (zcp (zset (σ.1 4) (σ.2 29)) (σ.2 14) w1))) → lv_has ls 2 [(0, .ref o), (1, .int (nI w1))] → W p l e { frames := 2, cells := 0, slots := 0, locals := 53 } s m args below meth c H locs 0 0 Q (F0 m 12 ls []) := by
      intro NN
      induction NN with
      | zero => intro w1 h1 hNN; exact absurd hNN (Nat.not_lt_zero _)
      | succ NN ih_12 =>
        intro w1 h1 hNN H locs ls X hl
        refine lv_iload_n hx hb dX12_keepMind_12 rfl (lv_at hl 1 rfl) ?_
        refine lv_aload_n hx hb dX12_keepMind_13 rfl (lv_at hl 0 rfl) ?_
        refine m_geti G X 4 rfl (hwd _ mk_45) rfl dX12_keepMind_14 ?_
        refine gi_eq (a := (σ.1 4)) rfl ?_
        refine gn_icmp_ge (tgt := 38) hx hb dX12_keepMind_17 (by decide) (by omega) (by omega) (fun c_17 => ?_) (fun c_17 => ?_)
        ·
          refine lv_aload_n hx hb dX12_keepMind_38 rfl (lv_at hl 0 rfl) ?_
          refine ctI_V (wf := []) (As := []) (rest := []) (n := 0) hx hb hml hown hts hK hA (ap_nil X) hl.1 (m_recv G X) (c_likeliest hcl ht0 ht1 (σ := (sA (sA σ 29 (zset (σ.1 4) (σ.2 29))) 14 (zcp (zset (σ.1 4) (σ.2 29)) (σ.2 14) w1)))  (hok) (fun w hw => Nat.lt_of_le_of_lt (zset_le hM w hw) (by decide))) (cwV 0 hts (mg_V mk_157 mk_162 mk_163 mk_164 mk_43) rfl rfl rfl (by decide +kernel) ⟨Nat.le_of_ble_eq_true rfl, Nat.le_of_ble_eq_true rfl⟩) rfl (Nat.le_of_ble_eq_true rfl) dX12_keepMind_39 ⟨Nat.le_refl _, Nat.le_refl _⟩ (fun H locs X => ?_)
          replace X := ap_nil' X
          refine gi_raw (y := (nI (zbest ((zset (σ.1 4) (σ.2 29))) ((σ.1 4))))) rfl ?_
          exact fin_of (mw_eq (by rw [if_neg c_4, show w1 = σ.1 4 by omega])) ((if_neg c_4).symm) X dX12_keepMind_42 fin
        ·
          refine lv_aload_n hx hb dX12_keepMind_20 rfl (lv_at hl 0 rfl) ?_
          refine m_geta G X 14 rfl (hwd _ mk_15) rfl dX12_keepMind_21 ?_
          refine lv_iload_n hx hb dX12_keepMind_24 rfl (lv_at hl 1 rfl) ?_
          refine lv_aload_n hx hb dX12_keepMind_25 rfl (lv_at hl 0 rfl) ?_
          refine m_geta G X 29 rfl (hwd _ mk_24) rfl dX12_keepMind_26 ?_
          refine lv_iload_n hx hb dX12_keepMind_29 rfl (lv_at hl 1 rfl) ?_
          refine m_lald G X 29 rfl (i := w1) (by show _ < 5; omega) (by omega) dX12_keepMind_30 ?_
          refine gl_eq (a := ((zset (σ.1 4) (σ.2 29)) w1)) rfl ?_
          refine m_last G X 14 rfl (i := w1) (v := ((zset (σ.1 4) (σ.2 29)) w1)) (by show _ < 5; omega) (by omega) dX12_keepMind_31 (fun H locs X => ?_)
          refine lv_iinc (v := nI (w1 + 1)) (lv' := [(1, .int (nI (w1 + 1))), (0, .ref o)]) hx hb dX12_keepMind_32 hl (k := 1) rfl (zn_inc _) (by decide) rfl (fun ls hl => ?_)
          refine lv_goto (tgt := 12) hx hb dX12_keepMind_35 (by decide) ?_
          refine ih_12 (w1 + 1) (by omega) (by omega) _ _ _ (by exact wh_eq (sA_f1 (sA σ 29 (zset (σ.1 4) (σ.2 29))) 14 (zset (σ.1 4) (σ.2 29)) w1 _ rfl) X) (by exact lv_sub hl [1, 0] rfl)
    refine cut_12 _ 0 (Nat.zero_le _) (Nat.lt_succ_self _) _ _ _ (by exact wh_eq (sA_f0 (sA σ 29 (zset (σ.1 4) (σ.2 29))) 14 (zset (σ.1 4) (σ.2 29))) X) (by exact lv_sub hl [1, 0] rfl)
  ·
    refine lv_bipush (v := (-3)) hx hb dX12_keepMind_7 (by decide) ?_
    exact fin_of (mw_eq (by rw [if_pos (Decidable.not_not.mp c_4)]; exact (sA_self (sA σ 29 (zset (σ.1 4) (σ.2 29))) 14).symm)) ((if_pos (Decidable.not_not.mp c_4)).symm) X dX12_keepMind_9 fin
set_option maxHeartbeats 4000000 in
set_option maxRecDepth 100000 in
theorem c_ask {l : Launch} {D : va_G} {cl : List vw_C} {tys : List (ClassId × FieldType)} {o : Nat} {q : Nat → Nat} {ci : Nat} {cI cJ : ClassId} (hcl : cl[ci]? = some (RX12, TX12, 48)) (ht0 : tys[0]? = some (cI, .int)) (ht1 : tys[1]? = some (cJ, .long)) {σ : MS} (xc : Nat) (xw : Nat) (hok : mOk σ) (hc : xc < 8) (hw : xw < σ.1 4) (hW : zWok (σ.2 27)) (hp : σ.1 28 < 8 ∨ σ.1 28 = 4294967295) : ctI l D cl tys yX12_ask (Cond.code yX12_ask cX12_ask 6 (some .int) :: mW) { frames := 1, cells := 0, slots := 0, locals := 25 } [.ref o, .int (nI xc), .int (nI xw)] (mw o q ci cI cJ σ) (nI (zans σ (znx (σ.1 34)) xc xw)) (mw o q ci cI cJ (sF (sF (sF σ 30 (σ.1 30 + σ.1 13)) 31 (σ.1 31 + 1)) 34 (znx (σ.1 34)))) := by
  refine ctI_of (cc := cX12_ask) (maxL := 6) (by decide +kernel) rfl (Nat.le_of_ble_eq_true rfl) ?_
  intro p e s m args below meth c A Q ls hx hb hml hown hts hK hA X hl fin
  replace hown : s.vm.findClass RX12 = some m.cls := hown
  have hwd : ∀ w ∈ mW, w.before args s = true := fun w h => hts w (List.mem_cons_of_mem _ h)
  have G : mG p c cX12_ask s m args D cl tys ci cI cJ := ⟨hx, hb, hown, hwd, hK, hcl, ht0, ht1⟩
  replace hl : lv_has ls 6 [(0, .ref o), (1, .int (nI xc)), (2, .int (nI xw))] := hl
  obtain ⟨kr, kw, ks, kroad, kworld, ksort, kmet, ksum, kst, kco⟩ := id hok
  refine lv_aload_n hx hb dX12_ask_0 rfl (lv_at hl 0 rfl) ?_
  refine lv_dup hx hb dX12_ask_1 rfl ?_
  refine m_geti G X 30 rfl (hwd _ mk_198) rfl dX12_ask_2 ?_
  refine lv_aload_n hx hb dX12_ask_5 rfl (lv_at hl 0 rfl) ?_
  refine m_geti G X 13 rfl (hwd _ mk_13) rfl dX12_ask_6 ?_
  refine gn_iadd hx hb dX12_ask_9  ?_
  refine m_puti G X 30 rfl (hwd _ mk_198) rfl (ty := .int) (by decide +kernel) rfl rfl dX12_ask_10 (fun H locs X => ?_)
  refine lv_aload_n hx hb dX12_ask_13 rfl (lv_at hl 0 rfl) ?_
  refine lv_dup hx hb dX12_ask_14 rfl ?_
  refine m_geti G X 31 rfl (hwd _ mk_199) rfl dX12_ask_15 ?_
  refine gi_eq (a := (σ.1 31)) rfl ?_
  refine lv_iconst (v := nI 1) hx hb dX12_ask_18 (by decide) ?_
  refine gn_iadd hx hb dX12_ask_19  ?_
  refine m_puti G X 31 rfl (hwd _ mk_199) rfl (ty := .int) (by decide +kernel) rfl rfl dX12_ask_20 (fun H locs X => ?_)
  refine lv_aload_n hx hb dX12_ask_23 rfl (lv_at hl 0 rfl) ?_
  refine lv_aload_n hx hb dX12_ask_24 rfl (lv_at hl 0 rfl) ?_
  refine m_geti G X 34 rfl (hwd _ mk_200) rfl dX12_ask_25 ?_
  refine gi_eq (a := (σ.1 34)) rfl ?_
  refine gn_ldcw (v := 1103515245) (k := 1103515245) hx hb hown (hwd _ mk_201) (by decide) dX12_ask_28 ?_
  refine gn_imul hx hb dX12_ask_31  ?_
  refine lv_sipush (v := nI 12345) hx hb dX12_ask_32 (by decide) ?_
  refine gn_iadd hx hb dX12_ask_35  ?_
  refine gi_eq (a := (znx (σ.1 34))) (rfl) ?_
  refine m_puti G X 34 rfl (hwd _ mk_200) rfl (ty := .int) (by decide +kernel) rfl rfl dX12_ask_36 (fun H locs X => ?_)
  refine lv_aload_n hx hb dX12_ask_39 rfl (lv_at hl 0 rfl) ?_
  refine m_geti G X 34 rfl (hwd _ mk_200) rfl dX12_ask_40 ?_
  refine gi_eq (a := (znx (σ.1 34))) rfl ?_
  refine gn_ldcw (v := 2147483647) (k := 2147483647) hx hb hown (hwd _ mk_202) (by decide) dX12_ask_43 ?_
  refine lv_iand hx hb dX12_ask_46 ?_
  refine gi_to (a := (znx (σ.1 34)) % 2147483648) (zand _ 31 (by decide) (by decide)) ?_
  refine gn_ldcw (v := 65536) (k := 65536) hx hb hown (hwd _ mk_203) (by decide) dX12_ask_47 ?_
  refine gn_idiv hx hb dX12_ask_50 (by omega) (by omega) (by omega) ?_
  refine lv_bipush (v := nI 100) hx hb dX12_ask_51 (by decide) ?_
  refine gn_irem hx hb dX12_ask_53 (by omega) (by omega) (by omega) ?_
  refine gi_eq (a := (zdrawn (znx (σ.1 34)))) (rfl) ?_
  refine lv_istore_n (lv' := [(3, .int (nI (zdrawn (znx (σ.1 34))))), (0, .ref o), (1, .int (nI xc)), (2, .int (nI xw))]) hx hb dX12_ask_54 rfl hl (by decide) rfl (fun ls hl => ?_)
  refine lv_iload_n hx hb dX12_ask_55 rfl (lv_at hl 2 rfl) ?_
  refine lv_aload_n hx hb dX12_ask_56 rfl (lv_at hl 1 rfl) ?_
  refine m_geti G X 28 rfl (hwd _ mk_23) rfl dX12_ask_57 ?_
  refine gi_eq (a := (σ.1 28)) rfl ?_
  refine gn_icmp_ne (tgt := 65) hx hb dX12_ask_60 (by decide) (by omega) (by omega) (fun c_60 => ?_) (fun c_60 => ?_)
  ·
    refine lv_iconst (v := nI 0) hx hb dX12_ask_65 (by decide) ?_
    refine lv_istore (lv' := [(4, .int (nI 0)), (3, .int (nI (zdrawn (znx (σ.1 34))))), (0, .ref o), (1, .int (nI xc)), (2, .int (nI xw))]) hx hb dX12_ask_66 hl (by decide) rfl (fun ls hl => ?_)
    refine lv_iconst (v := nI 0) hx hb dX12_ask_68 (by decide) ?_
    refine lv_istore (lv' := [(5, .int (nI 0)), (4, .int (nI 0)), (3, .int (nI (zdrawn (znx (σ.1 34))))), (0, .ref o), (1, .int (nI xc)), (2, .int (nI xw))]) hx hb dX12_ask_69 hl (by decide) rfl (fun ls hl => ?_)
    have cut_71 : ∀ (NN : Nat) (s1 : Nat) (h1 : s1 ≤ σ.1 8) (hno : ∀ j, j < s1 → zmetP σ xc (zdrawn (znx (σ.1 34))) j = false), σ.1 8 - s1 < NN → ∀ (H : Heap) (locs : List Loc) (ls : Array Slot), wH D cl A s.heap H locs (mw o q ci cI cJ (sF (sF (sF σ 30 (σ.1 30 + σ.1 13)) 31 (σ.1 31 + 1)) 34 (znx (σ.1 34)))) → lv_has ls 6 [(0, .ref o), (1, .int (nI xc)), (2, .int (nI xw)), (3, .int (nI (zdrawn (znx (σ.1 34))))), (4, .int (nI (zsum (fun t => σ.2 11 (6 * xc + t)) s1))), (5, .int (nI s1))] → W p l e { frames := 1, cells := 0, slots := 0, locals := 25 } s m args below meth c H locs 0 0 Q (F0 m 71 ls []) := by
      intro NN
      induction NN with
      | zero => intro s1 h1 hno hNN; exact absurd hNN (Nat.not_lt_zero _)
      | succ NN ih_71 =>
        intro s1 h1 hno hNN H locs ls X hl
        have hsm := zsum_mono (fun t => σ.2 11 (6 * xc + t)) (show s1 + 1 ≤ 7 by omega)
        have hk7 := zsum_le (f := fun t => σ.2 11 (6 * xc + t)) (b := 100) s1 (fun k hk => kmet (6 * xc + k) (by omega))
        have hdr : zdrawn (znx (σ.1 34)) < 100 := Nat.mod_lt _ (by decide)
        refine lv_iload hx hb dX12_ask_71 (lv_at hl 5 rfl) ?_
        refine lv_aload_n hx hb dX12_ask_73 rfl (lv_at hl 0 rfl) ?_
        refine m_geti G X 8 rfl (hwd _ mk_80) rfl dX12_ask_74 ?_
        refine gi_eq (a := (σ.1 8)) rfl ?_
        refine gn_icmp_ge (tgt := 118) hx hb dX12_ask_77 (by decide) (by omega) (by omega) (fun c_77 => ?_) (fun c_77 => ?_)
        ·
          refine lv_iconst (v := (-1)) hx hb dX12_ask_118 (by decide) ?_
          exact fin_of (rfl) (by unfold zans; rw [if_neg c_60, zfirst_none (fun j hj => hno j (by omega)), if_neg (Nat.lt_irrefl _)]; exact zm1) X dX12_ask_119 fin
        ·
          refine lv_iload hx hb dX12_ask_80 (lv_at hl 4 rfl) ?_
          refine lv_aload_n hx hb dX12_ask_82 rfl (lv_at hl 0 rfl) ?_
          refine m_geta G X 11 rfl (hwd _ mk_12) rfl dX12_ask_83 ?_
          refine lv_bipush (v := nI 6) hx hb dX12_ask_86 (by decide) ?_
          refine lv_iload_n hx hb dX12_ask_88 rfl (lv_at hl 1 rfl) ?_
          refine gn_imul hx hb dX12_ask_89  ?_
          refine lv_iload hx hb dX12_ask_90 (lv_at hl 5 rfl) ?_
          refine gn_iadd hx hb dX12_ask_92  ?_
          refine m_iald G X 11 rfl (i := ((6 * xc) + s1)) (by show _ < 48; omega) (by omega) dX12_ask_93 ?_
          refine gi_eq (a := (σ.2 11 ((6 * xc) + s1))) rfl ?_
          refine gn_iadd hx hb dX12_ask_94  ?_
          have hk8 := kmet (6 * xc + s1) (by omega)
          refine lv_istore (lv' := [(4, .int (nI ((zsum (fun t => σ.2 11 (6 * xc + t)) s1) + (σ.2 11 ((6 * xc) + s1))))), (0, .ref o), (1, .int (nI xc)), (2, .int (nI xw)), (3, .int (nI (zdrawn (znx (σ.1 34))))), (5, .int (nI s1))]) hx hb dX12_ask_95 hl (by decide) rfl (fun ls hl => ?_)
          refine lv_iload_n hx hb dX12_ask_97 rfl (lv_at hl 4 rfl) ?_
          refine lv_iload hx hb dX12_ask_98 (lv_at hl 0 rfl) ?_
          refine gn_icmp_ge (tgt := 112) hx hb dX12_ask_100 (by decide) (by omega) (by omega) (fun c_100 => ?_) (fun c_100 => ?_)
          ·
            refine lv_iinc (v := nI (s1 + 1)) (lv' := [(5, .int (nI (s1 + 1))), (4, .int (nI ((zsum (fun t => σ.2 11 (6 * xc + t)) s1) + (σ.2 11 ((6 * xc) + s1))))), (0, .ref o), (1, .int (nI xc)), (2, .int (nI xw)), (3, .int (nI (zdrawn (znx (σ.1 34)))))]) hx hb dX12_ask_112 hl (k := 5) rfl (zn_inc _) (by decide) rfl (fun ls hl => ?_)
            refine lv_goto (tgt := 71) hx hb dX12_ask_115 (by decide) ?_
            refine ih_71 (s1 + 1) (by omega) (fun j hj => by rcases Nat.lt_or_ge j s1 with h9 | h9; exact hno j h9; rw [show j = s1 by omega]; exact decide_eq_false (Nat.not_lt.mpr c_100)) (by omega) _ _ _ (by exact X) (by exact lv_sub hl [2, 3, 4, 5, 1, 0] rfl)
          ·
            refine lv_aload_n hx hb dX12_ask_103 rfl (lv_at hl 1 rfl) ?_
            refine lv_iload hx hb dX12_ask_104 (lv_at hl 5 rfl) ?_
            refine lv_iload_n hx hb dX12_ask_106 rfl (lv_at hl 2 rfl) ?_
            refine lv_iload_n hx hb dX12_ask_107 rfl (lv_at hl 3 rfl) ?_
            refine ctI_V (wf := []) (As := [.int (nI s1), .int (nI xc), .int (nI xw)]) (rest := []) (n := 3) hx hb hml hown hts hK hA (ap_nil X) hl.1 (m_recv G X) (c_said hcl ht0 ht1 (σ := (sF (sF (sF σ 30 (σ.1 30 + σ.1 13)) 31 (σ.1 31 + 1)) 34 (znx (σ.1 34)))) s1 xc xw (hok) (c_77) (by omega) (hw) (hW)) (cwV 3 hts (mg_V mk_136 mk_137 mk_138 mk_139 mk_43) rfl rfl rfl (by decide +kernel) ⟨Nat.le_of_ble_eq_true rfl, Nat.le_of_ble_eq_true rfl⟩) rfl (Nat.le_of_ble_eq_true rfl) dX12_ask_108 ⟨Nat.le_refl _, Nat.le_refl _⟩ (fun H locs X => ?_)
            replace X := ap_nil' X
            refine gi_raw (y := (nI (zsaid σ s1 xc xw))) rfl ?_
            exact fin_of (rfl) (by unfold zans; rw [if_neg c_60, zfirst_at hno (decide_eq_true c_100) c_77, if_pos c_77]) X dX12_ask_111 fin
    refine cut_71 _ 0 (Nat.zero_le _) (fun j hj => absurd hj (Nat.not_lt_zero j)) (Nat.lt_succ_self _) _ _ _ (by exact X) (by exact lv_sub hl [3, 4, 5, 2, 1, 0] rfl)
  ·
    refine lv_iload_n hx hb dX12_ask_63 rfl (lv_at hl 3 rfl) ?_
    exact fin_of (rfl) (by unfold zans; rw [if_pos c_60]) X dX12_ask_64 fin
set_option maxHeartbeats 4000000 in
set_option maxRecDepth 100000 in
theorem c_doubts {l : Launch} {D : va_G} {cl : List vw_C} {tys : List (ClassId × FieldType)} {o : Nat} {q : Nat → Nat} {ci : Nat} {cI cJ : ClassId} (hcl : cl[ci]? = some (RX12, TX12, 48)) (ht0 : tys[0]? = some (cI, .int)) (ht1 : tys[1]? = some (cJ, .long)) {σ : MS} (xf : Nat) (hok : mOk σ) (hB : ∀ w, w < σ.1 4 → σ.2 29 w ≤ 100000000000) (hn : 0 < σ.1 4) (hf : xf < 100) : ctI l D cl tys yX12_doubts (Cond.code yX12_doubts cX12_doubts 5 (some .boolean) :: mW) { frames := 1, cells := 0, slots := 0, locals := 22 } [.ref o, .int (nI xf)] (mw o q ci cI cJ σ) (if zdb σ (σ.2 29) xf then 1 else 0) (mw o q ci cI cJ σ) := by
  refine ctZ_of (cc := cX12_doubts) (maxL := 5) (hnar := zb_ite) (by decide +kernel) rfl (Nat.le_of_ble_eq_true rfl) ?_
  intro p e s m args below meth c A Q ls hx hb hml hown hts hK hA X hl fin
  replace hown : s.vm.findClass RX12 = some m.cls := hown
  have hwd : ∀ w ∈ mW, w.before args s = true := fun w h => hts w (List.mem_cons_of_mem _ h)
  have G : mG p c cX12_doubts s m args D cl tys ci cI cJ := ⟨hx, hb, hown, hwd, hK, hcl, ht0, ht1⟩
  replace hl : lv_has ls 5 [(0, .ref o), (1, .int (nI xf))] := hl
  obtain ⟨kr, kw, ks, kroad, kworld, ksort, kmet, ksum, kst, kco⟩ := id hok
  have hM : ∀ w, w < σ.1 4 → σ.2 29 w < 9223372036854775808 := fun w hw => Nat.lt_of_le_of_lt (hB w hw) (by decide)
  refine lv_lconst (v := lN 0) hx hb dX12_doubts_0 (by decide) ?_
  refine lv_lstore_n (lv' := [(2, .long (lN 0)), (0, .ref o), (1, .int (nI xf))]) hx hb dX12_doubts_1 rfl hl (by decide) rfl (fun ls hl => ?_)
  refine lv_iconst (v := nI 0) hx hb dX12_doubts_2 (by decide) ?_
  refine lv_istore (lv' := [(4, .int (nI 0)), (2, .long (lN 0)), (0, .ref o), (1, .int (nI xf))]) hx hb dX12_doubts_3 hl (by decide) rfl (fun ls hl => ?_)
  have cut_5 : ∀ (NN : Nat) (w1 : Nat) (hwl : w1 ≤ σ.1 4), σ.1 4 - w1 < NN → ∀ (H : Heap) (locs : List Loc) (ls : Array Slot), wH D cl A s.heap H locs (mw o q ci cI cJ σ) → lv_has ls 5 [(0, .ref o), (1, .int (nI xf)), (2, .long (lN (zsum (σ.2 29) w1))), (4, .int (nI w1))] → W p l e { frames := 1, cells := 0, slots := 0, locals := 22 } s m args below meth c H locs 0 0 Q (F0 m 5 ls []) := by
    intro NN
    induction NN with
    | zero => intro w1 hwl hNN; exact absurd hNN (Nat.not_lt_zero _)
    | succ NN ih_5 =>
      intro w1 hwl hNN H locs ls X hl
      refine lv_iload hx hb dX12_doubts_5 (lv_at hl 3 rfl) ?_
      refine lv_aload_n hx hb dX12_doubts_7 rfl (lv_at hl 0 rfl) ?_
      refine m_geti G X 4 rfl (hwd _ mk_45) rfl dX12_doubts_8 ?_
      refine gn_icmp_ge (tgt := 30) hx hb dX12_doubts_11 (by decide) (by omega) (by omega) (fun c_11 => ?_) (fun c_11 => ?_)
      ·
        have hwe : w1 = σ.1 4 := by omega
        refine lv_aload_n hx hb dX12_doubts_30 rfl (lv_at hl 0 rfl) ?_
        refine m_geta G X 29 rfl (hwd _ mk_24) rfl dX12_doubts_31 ?_
        refine lv_aload_n hx hb dX12_doubts_34 rfl (lv_at hl 0 rfl) ?_
        refine ctI_V (wf := []) (As := []) (rest := [.ref (q 29)]) (n := 0) hx hb hml hown hts hK hA (ap_nil X) hl.1 (m_recv G X) (c_likeliest hcl ht0 ht1 (σ := σ)  (hok) (hM)) (cwV 0 hts (mg_V mk_157 mk_162 mk_163 mk_164 mk_43) rfl rfl rfl (by decide +kernel) ⟨Nat.le_of_ble_eq_true rfl, Nat.le_of_ble_eq_true rfl⟩) rfl (Nat.le_of_ble_eq_true rfl) dX12_doubts_35 ⟨Nat.le_refl _, Nat.le_refl _⟩ (fun H locs X => ?_)
        replace X := ap_nil' X
        have hz := zbest_lt (σ.2 29) (σ.1 4) hn
        have hbz := hB _ hz
        refine m_lald G X 29 rfl (i := (zbest ((σ.2 29)) ((σ.1 4)))) (by show _ < 5; omega) (by omega) dX12_doubts_38 ?_
        refine gn_ldc2 (v := 100) (k := 100) hx hb hown (hwd _ mk_78) (by decide) dX12_doubts_39 ?_
        refine gn_lmul hx hb dX12_doubts_42  ?_
        refine lv_iload_n hx hb dX12_doubts_43 rfl (lv_at hl 1 rfl) ?_
        refine gn_i2l hx hb dX12_doubts_44 (by omega) ?_
        refine lv_lload_n hx hb dX12_doubts_45 rfl (lv_at hl 2 rfl) ?_
        refine gn_lmul hx hb dX12_doubts_46  ?_
        have hsm := zsum_le (f := σ.2 29) (b := 100000000000) w1 (fun k hk => hB k (by omega))
        have hpm := Nat.mul_le_mul (show xf ≤ 100 by omega) (show zsum (σ.2 29) w1 ≤ 500000000000 by omega)
        refine gn_lc_ge (tgt := 55) hx hb dX12_doubts_47 dX12_doubts_48 (by decide) (by omega) (by omega) (fun c_47 => ?_) (fun c_47 => ?_)
        ·
          rw [show zsum (σ.2 29) w1 = zsum (σ.2 29) (σ.1 4) by rw [hwe]] at c_47
          refine lv_iconst (v := nI 0) hx hb dX12_doubts_55 (by decide) ?_
          exact fin_of (rfl) (by first | (rw [if_pos c_47]; rfl) | (rw [if_neg (Nat.not_lt.mpr c_47)]; rfl)) X dX12_doubts_56 fin
        ·
          rw [show zsum (σ.2 29) w1 = zsum (σ.2 29) (σ.1 4) by rw [hwe]] at c_47
          refine lv_iconst (v := nI 1) hx hb dX12_doubts_51 (by decide) ?_
          refine lv_goto (tgt := 56) hx hb dX12_doubts_52 (by decide) ?_
          exact fin_of (rfl) (by first | (rw [if_pos c_47]; rfl) | (rw [if_neg (Nat.not_lt.mpr c_47)]; rfl)) X dX12_doubts_56 fin
      ·
        refine lv_lload_n hx hb dX12_doubts_14 rfl (lv_at hl 2 rfl) ?_
        refine lv_aload_n hx hb dX12_doubts_15 rfl (lv_at hl 0 rfl) ?_
        refine m_geta G X 29 rfl (hwd _ mk_24) rfl dX12_doubts_16 ?_
        refine lv_iload hx hb dX12_doubts_19 (lv_at hl 3 rfl) ?_
        refine m_lald G X 29 rfl (i := w1) (by show _ < 5; omega) (by omega) dX12_doubts_21 ?_
        refine gn_ladd hx hb dX12_doubts_22  ?_
        refine lv_lstore_n (lv' := [(2, .long (lN ((zsum (σ.2 29) w1) + (σ.2 29 w1)))), (0, .ref o), (1, .int (nI xf)), (4, .int (nI w1))]) hx hb dX12_doubts_23 rfl hl (by decide) rfl (fun ls hl => ?_)
        refine lv_iinc (v := nI (w1 + 1)) (lv' := [(4, .int (nI (w1 + 1))), (2, .long (lN ((zsum (σ.2 29) w1) + (σ.2 29 w1)))), (0, .ref o), (1, .int (nI xf))]) hx hb dX12_doubts_24 hl (k := 3) rfl (zn_inc _) (by decide) rfl (fun ls hl => ?_)
        refine lv_goto (tgt := 5) hx hb dX12_doubts_27 (by decide) ?_
        refine ih_5 (w1 + 1) (by omega) (by omega) _ _ _ (by exact X) (by exact lv_sub hl [2, 3, 1, 0] rfl)
  refine cut_5 _ 0 (Nat.zero_le _) (Nat.lt_succ_self _) _ _ _ (by exact X) (by exact lv_sub hl [2, 3, 1, 0] rfl)
set_option maxHeartbeats 4000000 in
set_option maxRecDepth 100000 in
theorem c_hearOnWay {l : Launch} {D : va_G} {cl : List vw_C} {tys : List (ClassId × FieldType)} {o : Nat} {q : Nat → Nat} {ci : Nat} {cI cJ : ClassId} (hcl : cl[ci]? = some (RX12, TX12, 48)) (ht0 : tys[0]? = some (cI, .int)) (ht1 : tys[1]? = some (cJ, .long)) {σ : MS} (xc : Nat) (xa : Nat) (hok : mOk σ) (hB : ∀ w, w < σ.1 4 → σ.2 29 w ≤ 100000000000) (hc : xc < 8) (ha : xa < σ.1 4 ∨ xa = 4294967295) (hW : zWok (σ.2 27)) (hp : σ.1 28 < 8 ∨ σ.1 28 = 4294967295) : ctV l D cl tys yX12_hearOnWay (Cond.code yX12_hearOnWay cX12_hearOnWay 4 (none) :: mW) { frames := 3, cells := 0, slots := 0, locals := 73 } [.ref o, .int (nI xc), .int (nI xa)] (mw o q ci cI cJ σ) (mw o q ci cI cJ (sA (sA σ 36 (zcp (σ.2 29) (σ.2 36) (σ.1 4))) 29 (zhowM σ (σ.2 29) xc xa))) := by
  refine ctV_of (cc := cX12_hearOnWay) (maxL := 4) (by decide +kernel) rfl (Nat.le_of_ble_eq_true rfl) ?_
  intro p e s m args below meth c A Q ls hx hb hml hown hts hK hA X hl fin
  replace hown : s.vm.findClass RX12 = some m.cls := hown
  have hwd : ∀ w ∈ mW, w.before args s = true := fun w h => hts w (List.mem_cons_of_mem _ h)
  have G : mG p c cX12_hearOnWay s m args D cl tys ci cI cJ := ⟨hx, hb, hown, hwd, hK, hcl, ht0, ht1⟩
  replace hl : lv_has ls 4 [(0, .ref o), (1, .int (nI xc)), (2, .int (nI xa))] := hl
  obtain ⟨kr, kw, ks, kroad, kworld, ksort, kmet, ksum, kst, kco⟩ := id hok
  refine lv_iconst (v := nI 0) hx hb dX12_hearOnWay_0 (by decide) ?_
  refine lv_istore_n (lv' := [(3, .int (nI 0)), (0, .ref o), (1, .int (nI xc)), (2, .int (nI xa))]) hx hb dX12_hearOnWay_1 rfl hl (by decide) rfl (fun ls hl => ?_)
  have cut_2 : ∀ (NN : Nat) (w1 : Nat) (h1 : w1 ≤ σ.1 4), σ.1 4 - w1 < NN → ∀ (H : Heap) (locs : List Loc) (ls : Array Slot), wH D cl A s.heap H locs (mw o q ci cI cJ (sA σ 36 (zcp (σ.2 29) (σ.2 36) w1))) → lv_has ls 4 [(0, .ref o), (1, .int (nI xc)), (2, .int (nI xa)), (3, .int (nI w1))] → W p l e { frames := 3, cells := 0, slots := 0, locals := 73 } s m args below meth c H locs 0 0 Q (F0 m 2 ls []) := by
    intro NN
    induction NN with
    | zero => intro w1 h1 hNN; exact absurd hNN (Nat.not_lt_zero _)
    | succ NN ih_2 =>
      intro w1 h1 hNN H locs ls X hl
      refine lv_iload_n hx hb dX12_hearOnWay_2 rfl (lv_at hl 3 rfl) ?_
      refine lv_aload_n hx hb dX12_hearOnWay_3 rfl (lv_at hl 0 rfl) ?_
      refine m_geti G X 4 rfl (hwd _ mk_45) rfl dX12_hearOnWay_4 ?_
      refine gi_eq (a := (σ.1 4)) rfl ?_
      refine gn_icmp_ge (tgt := 28) hx hb dX12_hearOnWay_7 (by decide) (by omega) (by omega) (fun c_7 => ?_) (fun c_7 => ?_)
      ·
        replace X := wh_eq (show sA σ 36 (zcp (σ.2 29) (σ.2 36) w1) = sA σ 36 (zcp (σ.2 29) (σ.2 36) (σ.1 4)) by rw [show w1 = σ.1 4 by omega]) X
        refine lv_aload_n hx hb dX12_hearOnWay_28 rfl (lv_at hl 0 rfl) ?_
        refine lv_iload_n hx hb dX12_hearOnWay_29 rfl (lv_at hl 1 rfl) ?_
        refine lv_iload_n hx hb dX12_hearOnWay_30 rfl (lv_at hl 2 rfl) ?_
        refine ctV_V (wf := []) (As := [.int (nI xc), .int (nI xa)]) (rest := []) (n := 2) hx hb hml hown hts hK hA (ap_nil X) hl.1 (m_recv G X) (c_hear hcl ht0 ht1 (σ := (sA σ 36 (zcp (σ.2 29) (σ.2 36) (σ.1 4)))) xc xa (hok) (by omega) (ha) (hW) (hp)) (cwV 2 hts (mg_V mk_172 mk_173 mk_174 mk_175 mk_43) rfl rfl rfl (by decide +kernel) ⟨Nat.le_of_ble_eq_true rfl, Nat.le_of_ble_eq_true rfl⟩) rfl (Nat.le_of_ble_eq_true rfl) dX12_hearOnWay_31 ⟨Nat.le_refl _, Nat.le_refl _⟩ (fun H locs X => ?_)
        replace X := ap_nil' X
        refine lv_aload_n hx hb dX12_hearOnWay_34 rfl (lv_at hl 0 rfl) ?_
        refine ctI_V (wf := []) (As := []) (rest := []) (n := 0) hx hb hml hown hts hK hA (ap_nil X) hl.1 (m_recv G X) (c_settle hcl ht0 ht1 (σ := (sA (sA σ 36 (zcp (σ.2 29) (σ.2 36) (σ.1 4))) 29 (zcp (zhearM σ ((σ.2 29)) xc xa) (σ.2 29) ((σ.1 4)))))  (hok) (fun w hw => by
              show zcp (zhearM σ (σ.2 29) xc xa) (σ.2 29) (σ.1 4) w < _
              rw [zcp_in (show w < σ.1 4 from hw)]
              have h1 := hB w hw
              have h2 := zhund_le (a := xa) (w := w) hok hc
              have h3 := Nat.mul_le_mul h1 h2
              show σ.2 29 w * zhund σ xc xa w < _
              omega)) (cwV 0 hts (mg_V mk_152 mk_159 mk_160 mk_161 mk_43) rfl rfl rfl (by decide +kernel) ⟨Nat.le_of_ble_eq_true rfl, Nat.le_of_ble_eq_true rfl⟩) rfl (Nat.le_of_ble_eq_true rfl) dX12_hearOnWay_35 ⟨Nat.le_refl _, Nat.le_refl _⟩ (fun H locs X => ?_)
        replace X := ap_nil' X
        refine gi_raw (y := (if zgall ((zcp (zhearM σ ((σ.2 29)) xc xa) (σ.2 29) ((σ.1 4)))) ((σ.1 4)) ≠ 0 then 1 else 0)) rfl ?_
        refine gb_if_ne (tgt := 69) hx hb dX12_hearOnWay_38 (by decide) (fun c_38 => ?_) (fun c_38 => ?_)
        ·
          exact finV_of (mw_eq (by unfold zhowM; first | (rw [if_neg c_38, sA_sA]; rfl) | (rw [if_pos hz9]; exact congrArg (sA _ 29) (funext fun a => by rw [show w2 = σ.1 4 by omega]; unfold zcp; split <;> rfl)))) X dX12_hearOnWay_69 fin
        ·
          have hz9 : zgall (zcp (zhearM σ (σ.2 29) xc xa) (σ.2 29) (σ.1 4)) (σ.1 4) = 0 := Decidable.not_not.mp c_38
          refine lv_iconst (v := nI 0) hx hb dX12_hearOnWay_41 (by decide) ?_
          refine lv_istore_n (lv' := [(3, .int (nI 0)), (0, .ref o), (1, .int (nI xc)), (2, .int (nI xa))]) hx hb dX12_hearOnWay_42 rfl hl (by decide) rfl (fun ls hl => ?_)
          have cut_43 : ∀ (NN : Nat) (w2 : Nat) (hw2 : w2 ≤ σ.1 4), σ.1 4 - w2 < NN → ∀ (H : Heap) (locs : List Loc) (ls : Array Slot), wH D cl A s.heap H locs (mw o q ci cI cJ (sA (sA σ 36 (zcp (σ.2 29) (σ.2 36) (σ.1 4))) 29 (zcp (σ.2 29) (zcp (zhearM σ (σ.2 29) xc xa) (σ.2 29) (σ.1 4)) w2))) → lv_has ls 4 [(0, .ref o), (1, .int (nI xc)), (2, .int (nI xa)), (3, .int (nI w2))] → W p l e { frames := 3, cells := 0, slots := 0, locals := 73 } s m args below meth c H locs 0 0 Q (F0 m 43 ls []) := by
            intro NN
            induction NN with
            | zero => intro w2 hw2 hNN; exact absurd hNN (Nat.not_lt_zero _)
            | succ NN ih_43 =>
              intro w2 hw2 hNN H locs ls X hl
              refine lv_iload_n hx hb dX12_hearOnWay_43 rfl (lv_at hl 3 rfl) ?_
              refine lv_aload_n hx hb dX12_hearOnWay_44 rfl (lv_at hl 0 rfl) ?_
              refine m_geti G X 4 rfl (hwd _ mk_45) rfl dX12_hearOnWay_45 ?_
              refine gi_eq (a := (σ.1 4)) rfl ?_
              refine gn_icmp_ge (tgt := 69) hx hb dX12_hearOnWay_48 (by decide) (by omega) (by omega) (fun c_48 => ?_) (fun c_48 => ?_)
              ·
                exact finV_of (mw_eq (by unfold zhowM; first | (rw [if_neg c_38, sA_sA]; rfl) | (rw [if_pos hz9]; exact congrArg (sA _ 29) (funext fun a => by rw [show w2 = σ.1 4 by omega]; unfold zcp; split <;> rfl)))) X dX12_hearOnWay_69 fin
              ·
                refine lv_aload_n hx hb dX12_hearOnWay_51 rfl (lv_at hl 0 rfl) ?_
                refine m_geta G X 29 rfl (hwd _ mk_24) rfl dX12_hearOnWay_52 ?_
                refine lv_iload_n hx hb dX12_hearOnWay_55 rfl (lv_at hl 3 rfl) ?_
                refine lv_aload_n hx hb dX12_hearOnWay_56 rfl (lv_at hl 0 rfl) ?_
                refine m_geta G X 36 rfl (hwd _ mk_26) rfl dX12_hearOnWay_57 ?_
                refine lv_iload_n hx hb dX12_hearOnWay_60 rfl (lv_at hl 3 rfl) ?_
                refine m_lald G X 36 rfl (i := w2) (by show _ < 5; omega) (by omega) dX12_hearOnWay_61 ?_
                refine gl_eq (a := ((zcp (σ.2 29) (σ.2 36) (σ.1 4)) w2)) rfl ?_
                refine gl_eq (a := (σ.2 29 w2)) (zcp_in c_48) ?_
                refine m_last G X 29 rfl (i := w2) (v := (σ.2 29 w2)) (by show _ < 5; omega) (by omega) dX12_hearOnWay_62 (fun H locs X => ?_)
                refine lv_iinc (v := nI (w2 + 1)) (lv' := [(3, .int (nI (w2 + 1))), (0, .ref o), (1, .int (nI xc)), (2, .int (nI xa))]) hx hb dX12_hearOnWay_63 hl (k := 3) rfl (zn_inc _) (by decide) rfl (fun ls hl => ?_)
                refine lv_goto (tgt := 43) hx hb dX12_hearOnWay_66 (by decide) ?_
                refine ih_43 (w2 + 1) (by omega) (by omega) _ _ _ (by exact wh_eq ((sA_e1 (sA σ 36 (zcp (σ.2 29) (σ.2 36) (σ.1 4))) 29 _ _ _).trans (congrArg (sA (sA σ 36 (zcp (σ.2 29) (σ.2 36) (σ.1 4))) 29) (zcp_1 rfl))) X) (by exact lv_sub hl [1, 2, 3, 0] rfl)
          refine cut_43 _ 0 (Nat.zero_le _) (Nat.lt_succ_self _) _ _ _ (by exact wh_eq ((zhow_x σ (zcp (σ.2 29) (σ.2 36) (σ.1 4)) (zcp (zhearM σ (σ.2 29) xc xa) (σ.2 29) (σ.1 4)) (zset_zero hz9)).trans (zhow_y σ (zcp (σ.2 29) (σ.2 36) (σ.1 4)) (σ.2 29) (zcp (zhearM σ (σ.2 29) xc xa) (σ.2 29) (σ.1 4)))) X) (by exact lv_sub hl [1, 2, 3, 0] rfl)
      ·
        refine lv_aload_n hx hb dX12_hearOnWay_10 rfl (lv_at hl 0 rfl) ?_
        refine m_geta G X 36 rfl (hwd _ mk_26) rfl dX12_hearOnWay_11 ?_
        refine lv_iload_n hx hb dX12_hearOnWay_14 rfl (lv_at hl 3 rfl) ?_
        refine lv_aload_n hx hb dX12_hearOnWay_15 rfl (lv_at hl 0 rfl) ?_
        refine m_geta G X 29 rfl (hwd _ mk_24) rfl dX12_hearOnWay_16 ?_
        refine lv_iload_n hx hb dX12_hearOnWay_19 rfl (lv_at hl 3 rfl) ?_
        refine m_lald G X 29 rfl (i := w1) (by show _ < 5; omega) (by omega) dX12_hearOnWay_20 ?_
        refine gl_eq (a := (σ.2 29 w1)) rfl ?_
        refine m_last G X 36 rfl (i := w1) (v := (σ.2 29 w1)) (by show _ < 5; omega) (by omega) dX12_hearOnWay_21 (fun H locs X => ?_)
        refine lv_iinc (v := nI (w1 + 1)) (lv' := [(3, .int (nI (w1 + 1))), (0, .ref o), (1, .int (nI xc)), (2, .int (nI xa))]) hx hb dX12_hearOnWay_22 hl (k := 3) rfl (zn_inc _) (by decide) rfl (fun ls hl => ?_)
        refine lv_goto (tgt := 2) hx hb dX12_hearOnWay_25 (by decide) ?_
        refine ih_2 (w1 + 1) (by omega) (by omega) _ _ _ (by exact wh_eq (sA_f1 σ 36 (σ.2 29) w1 _ rfl) X) (by exact lv_sub hl [1, 2, 3, 0] rfl)
  refine cut_2 _ 0 (Nat.zero_le _) (Nat.lt_succ_self _) _ _ _ (by exact wh_eq (sA_f0 σ 36 (σ.2 29)) X) (by exact lv_sub hl [1, 2, 3, 0] rfl)
