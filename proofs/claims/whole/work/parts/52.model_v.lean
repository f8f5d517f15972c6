set_option maxHeartbeats 4000000 in
set_option maxRecDepth 100000 in
theorem c_worth {l : Launch} {D : va_G} {cl : List vw_C} {tys : List (ClassId × FieldType)} {o : Nat} {q : Nat → Nat} {ci : Nat} {cI cJ : ClassId} (hcl : cl[ci]? = some (RX12, TX12, 48)) (ht0 : tys[0]? = some (cI, .int)) (ht1 : tys[1]? = some (cJ, .long)) {σ : MS} {σ0 : MS} (h15 : σ = sF σ0 15 0) (x : Int32) (hok : mOk σ) (hsh : mSh σ) : ctLP l D cl tys yX12_worth (Cond.code yX12_worth cX12_worth 2 (some .long) :: mW) { frames := 6, cells := 0, slots := 0, locals := 158 } [.ref o, .int x] (mw o q ci cI cJ σ0) (mw o q ci cI cJ) (zworthS σ x) (fun u => mEq σ u) := by
  refine ctLP_of (cc := cX12_worth) (maxL := 2) (by decide +kernel) rfl (Nat.le_of_ble_eq_true rfl) ?_
  intro p e s m args below meth c A Q ls hx hb hml hown hts hK hA X hl fin
  replace hown : s.vm.findClass RX12 = some m.cls := hown
  have hwd : ∀ w ∈ mW, w.before args s = true := fun w h => hts w (List.mem_cons_of_mem _ h)
  have G : mG p c cX12_worth s m args D cl tys ci cI cJ := ⟨hx, hb, hown, hwd, hK, hcl, ht0, ht1⟩
  replace hl : lv_has ls 2 [(0, .ref o), (1, .int x)] := hl
  obtain ⟨kr, kw, ks, kroad, kworld, ksort, kmet, ksum, kst, kco⟩ := id hok
  obtain ⟨hh, hru, hro, htb, hW, hp28, hth⟩ := id hsh
  have hp : σ.1 28 < 8 ∨ σ.1 28 = 4294967295 := Or.inr hp28
  refine lv_aload_n hx hb dX12_worth_0 rfl (lv_at hl 0 rfl) ?_
  refine lv_iconst (v := nI 0) hx hb dX12_worth_1 (by decide) ?_
  refine m_puti G X 15 rfl (hwd _ mk_35) rfl (ty := .int) (by decide +kernel) rfl rfl dX12_worth_2 (fun H locs X => ?_)
  rw [← h15] at X
  refine lv_aload_n hx hb dX12_worth_5 rfl (lv_at hl 0 rfl) ?_
  refine lv_iload_n hx hb dX12_worth_6 rfl (lv_at hl 1 rfl) ?_
  refine ctI_V (wf := []) (As := [.int x]) (rest := []) (n := 1) hx hb hml hown hts hK hA (ap_nil X) hl.1 (m_recv G X) (c_isCrossing hcl ht0 ht1 (σ := σ) x ) (cwV 1 hts (mg_V mk_39 mk_108 mk_109 mk_110 mk_43) rfl rfl rfl (by decide +kernel) ⟨Nat.le_of_ble_eq_true rfl, Nat.le_of_ble_eq_true rfl⟩) rfl (Nat.le_of_ble_eq_true rfl) dX12_worth_7 ⟨Nat.le_refl _, Nat.le_refl _⟩ (fun H locs X => ?_)
  replace X := ap_nil' X
  refine gb_if_ne (tgt := 17) hx hb dX12_worth_10 (by decide) (fun c_10 => ?_) (fun c_10 => ?_)
  ·
    obtain ⟨xc, hxc, rfl⟩ := zi_in (n := 8) (by omega) c_10
    refine lv_aload_n hx hb dX12_worth_17 rfl (lv_at hl 0 rfl) ?_
    refine ctI_V (wf := []) (As := []) (rest := []) (n := 0) hx hb hml hown hts hK hA (ap_nil X) hl.1 (m_recv G X) (c_isReady hcl ht0 ht1 (σ := σ)  (kw) (fun w9 hw9 => (kworld w9 hw9).2.1)) (cwV 0 hts (mg_V mk_47 mk_165 mk_166 mk_167 mk_43) rfl rfl rfl (by decide +kernel) ⟨Nat.le_of_ble_eq_true rfl, Nat.le_of_ble_eq_true rfl⟩) rfl (Nat.le_of_ble_eq_true rfl) dX12_worth_18 ⟨Nat.le_refl _, Nat.le_refl _⟩ (fun H locs X => ?_)
    replace X := ap_nil' X
    refine gb_if_ne (tgt := 28) hx hb dX12_worth_21 (by decide) (fun c_21 => ?_) (fun c_21 => ?_)
    ·
      refine lv_aload_n hx hb dX12_worth_28 rfl (lv_at hl 0 rfl) ?_
      refine ctV_V (wf := []) (As := []) (rest := []) (n := 0) hx hb hml hown hts hK hA (ap_nil X) hl.1 (m_recv G X) (c_findWays hcl ht0 ht1 (σ := σ)  (hok) (hW)) (cwV 0 hts (mg_V mk_116 mk_128 mk_129 mk_130 mk_43) rfl rfl rfl (by decide +kernel) ⟨Nat.le_of_ble_eq_true rfl, Nat.le_of_ble_eq_true rfl⟩) rfl (Nat.le_of_ble_eq_true rfl) dX12_worth_29 ⟨Nat.le_refl _, Nat.le_refl _⟩ (fun H locs X => ?_)
      replace X := ap_nil' X
      replace X := wh_eq (show sA σ 27 (zws σ (σ.2 27) (σ.1 4)) = zf σ from rfl) X
      refine lv_aload_n hx hb dX12_worth_32 rfl (lv_at hl 0 rfl) ?_
      refine lv_iload_n hx hb dX12_worth_33 rfl (lv_at hl 1 rfl) ?_
      refine lv_aload_n hx hb dX12_worth_34 rfl (lv_at hl 0 rfl) ?_
      refine m_geti G X 13 rfl (hwd _ mk_13) rfl dX12_worth_35 ?_
      refine gi_eq (a := (σ.1 13)) rfl ?_
      refine ctLP_V (wf := []) (As := [.int (nI xc), .int (nI (σ.1 13))]) (rest := []) (n := 2) hx hb hml hown hts hK hA (ap_nil X) hl.1 (m_recv G X) (c_worthBy hcl ht0 ht1 (σ := (zf σ)) xc (σ.1 13) (hok) (by omega) (by omega) (zWok_ws hW _) (hp) (htb)) (cwV 2 hts (mg_V mk_231 mk_232 mk_233 mk_234 mk_43) rfl rfl rfl (by decide +kernel) ⟨Nat.le_of_ble_eq_true rfl, Nat.le_of_ble_eq_true rfl⟩) rfl (Nat.le_of_ble_eq_true rfl) dX12_worth_38 ⟨Nat.le_refl _, Nat.le_refl _⟩ (fun H locs u_38 hu_38 X => ?_)
      replace X := ap_nil' X
      obtain ⟨m_38, v_38, a_38, y1_38, y2_38, y3_38, y4_38, y5_38, rfl⟩ := hu_38
      refine gl_raw (y := (zwsum (zf σ) xc (σ.1 13) ((σ.1 4)))) rfl ?_
      exact finLP_of (by unfold zworthS; rw [if_neg (fun h9 => h9 c_10), if_neg (fun h9 => h9 c_21), ztoNat (show xc < 2147483648 by omega)]) (u := (zw (zf σ) m_38 v_38 a_38 y1_38 y2_38 y3_38 y4_38 y5_38)) (mEq_zw hW) X dX12_worth_41 fin
    ·
      refine lv_ldc2 (v := (-4000000000000000003)) hx hb hown (hwd _ mk_188) dX12_worth_24 ?_
      exact finLP_of (by unfold zworthS; rw [if_neg (fun h9 => h9 c_10), if_pos c_21]) (u := σ) (mEq_refl hW) X dX12_worth_27 fin
  ·
    refine lv_ldc2 (v := (-4000000000000000001)) hx hb hown (hwd _ mk_187) dX12_worth_13 ?_
    exact finLP_of (by unfold zworthS; rw [if_pos (show ¬ zir x 8 from c_10)]) (u := σ) (mEq_refl hW) X dX12_worth_16 fin
set_option maxHeartbeats 4000000 in
set_option maxRecDepth 100000 in
theorem c_never {l : Launch} {D : va_G} {cl : List vw_C} {tys : List (ClassId × FieldType)} {o : Nat} {q : Nat → Nat} {ci : Nat} {cI cJ : ClassId} (hcl : cl[ci]? = some (RX12, TX12, 48)) (ht0 : tys[0]? = some (cI, .int)) (ht1 : tys[1]? = some (cJ, .long)) {σ : MS} {σ0 : MS} (h15 : σ = sF σ0 15 0) (x : Int32) (hok : mOk σ) (hsh : mSh σ) : ctIP l D cl tys yX12_never (Cond.code yX12_never cX12_never 5 (some .int) :: mW) { frames := 6, cells := 0, slots := 0, locals := 158 } [.ref o, .int x] (mw o q ci cI cJ σ0) (mw o q ci cI cJ) (zneverS σ x) (fun u => mEq σ u) := by
  refine ctIP_of (cc := cX12_never) (maxL := 5) (by decide +kernel) rfl (Nat.le_of_ble_eq_true rfl) ?_
  intro p e s m args below meth c A Q ls hx hb hml hown hts hK hA X hl fin
  replace hown : s.vm.findClass RX12 = some m.cls := hown
  have hwd : ∀ w ∈ mW, w.before args s = true := fun w h => hts w (List.mem_cons_of_mem _ h)
  have G : mG p c cX12_never s m args D cl tys ci cI cJ := ⟨hx, hb, hown, hwd, hK, hcl, ht0, ht1⟩
  replace hl : lv_has ls 5 [(0, .ref o), (1, .int x)] := hl
  obtain ⟨kr, kw, ks, kroad, kworld, ksort, kmet, ksum, kst, kco⟩ := id hok
  obtain ⟨hh, hru, hro, htb, hW, hp28, hth⟩ := id hsh
  have hp : σ.1 28 < 8 ∨ σ.1 28 = 4294967295 := Or.inr hp28
  refine lv_aload_n hx hb dX12_never_0 rfl (lv_at hl 0 rfl) ?_
  refine lv_iconst (v := nI 0) hx hb dX12_never_1 (by decide) ?_
  refine m_puti G X 15 rfl (hwd _ mk_35) rfl (ty := .int) (by decide +kernel) rfl rfl dX12_never_2 (fun H locs X => ?_)
  rw [← h15] at X
  refine lv_aload_n hx hb dX12_never_5 rfl (lv_at hl 0 rfl) ?_
  refine lv_iload_n hx hb dX12_never_6 rfl (lv_at hl 1 rfl) ?_
  refine ctI_V (wf := []) (As := [.int x]) (rest := []) (n := 1) hx hb hml hown hts hK hA (ap_nil X) hl.1 (m_recv G X) (c_isCrossing hcl ht0 ht1 (σ := σ) x ) (cwV 1 hts (mg_V mk_39 mk_108 mk_109 mk_110 mk_43) rfl rfl rfl (by decide +kernel) ⟨Nat.le_of_ble_eq_true rfl, Nat.le_of_ble_eq_true rfl⟩) rfl (Nat.le_of_ble_eq_true rfl) dX12_never_7 ⟨Nat.le_refl _, Nat.le_refl _⟩ (fun H locs X => ?_)
  replace X := ap_nil' X
  refine gb_if_ne (tgt := 15) hx hb dX12_never_10 (by decide) (fun c_10 => ?_) (fun c_10 => ?_)
  ·
    obtain ⟨xc, hxc, rfl⟩ := zi_in (n := 8) (by omega) c_10
    refine lv_aload_n hx hb dX12_never_15 rfl (lv_at hl 0 rfl) ?_
    refine ctI_V (wf := []) (As := []) (rest := []) (n := 0) hx hb hml hown hts hK hA (ap_nil X) hl.1 (m_recv G X) (c_isReady hcl ht0 ht1 (σ := σ)  (kw) (fun w9 hw9 => (kworld w9 hw9).2.1)) (cwV 0 hts (mg_V mk_47 mk_165 mk_166 mk_167 mk_43) rfl rfl rfl (by decide +kernel) ⟨Nat.le_of_ble_eq_true rfl, Nat.le_of_ble_eq_true rfl⟩) rfl (Nat.le_of_ble_eq_true rfl) dX12_never_16 ⟨Nat.le_refl _, Nat.le_refl _⟩ (fun H locs X => ?_)
    replace X := ap_nil' X
    refine gb_if_ne (tgt := 25) hx hb dX12_never_19 (by decide) (fun c_19 => ?_) (fun c_19 => ?_)
    ·
      refine lv_aload_n hx hb dX12_never_25 rfl (lv_at hl 0 rfl) ?_
      refine ctV_V (wf := []) (As := []) (rest := []) (n := 0) hx hb hml hown hts hK hA (ap_nil X) hl.1 (m_recv G X) (c_findWays hcl ht0 ht1 (σ := σ)  (hok) (hW)) (cwV 0 hts (mg_V mk_116 mk_128 mk_129 mk_130 mk_43) rfl rfl rfl (by decide +kernel) ⟨Nat.le_of_ble_eq_true rfl, Nat.le_of_ble_eq_true rfl⟩) rfl (Nat.le_of_ble_eq_true rfl) dX12_never_26 ⟨Nat.le_refl _, Nat.le_refl _⟩ (fun H locs X => ?_)
      replace X := ap_nil' X
      replace X := wh_eq (show sA σ 27 (zws σ (σ.2 27) (σ.1 4)) = zf σ from rfl) X
      refine lv_aload_n hx hb dX12_never_29 rfl (lv_at hl 0 rfl) ?_
      refine lv_iload_n hx hb dX12_never_30 rfl (lv_at hl 1 rfl) ?_
      refine lv_iconst (v := nI 0) hx hb dX12_never_31 (by decide) ?_
      refine ctLP_V (wf := []) (As := [.int (nI xc), .int (nI 0)]) (rest := []) (n := 2) hx hb hml hown hts hK hA (ap_nil X) hl.1 (m_recv G X) (c_worthBy hcl ht0 ht1 (σ := (zf σ)) xc 0 (hok) (by omega) (by omega) (zWok_ws hW _) (hp) (htb)) (cwV 2 hts (mg_V mk_231 mk_232 mk_233 mk_234 mk_43) rfl rfl rfl (by decide +kernel) ⟨Nat.le_of_ble_eq_true rfl, Nat.le_of_ble_eq_true rfl⟩) rfl (Nat.le_of_ble_eq_true rfl) dX12_never_32 ⟨Nat.le_refl _, Nat.le_refl _⟩ (fun H locs u_32 hu_32 X => ?_)
      replace X := ap_nil' X
      obtain ⟨m_32, v_32, a_32, y1_32, y2_32, y3_32, y4_32, y5_32, rfl⟩ := hu_32
      refine gl_raw (y := (zwsum (zf σ) xc 0 ((σ.1 4)))) rfl ?_
      refine lv_lstore_n (lv' := [(2, .long (zwsum (zf σ) xc 0 ((σ.1 4)))), (0, .ref o), (1, .int (nI xc))]) hx hb dX12_never_35 rfl hl (by decide) rfl (fun ls hl => ?_)
      refine lv_iconst (v := nI 0) hx hb dX12_never_36 (by decide) ?_
      refine lv_istore (lv' := [(4, .int (nI 0)), (2, .long (zwsum (zf σ) xc 0 ((σ.1 4)))), (0, .ref o), (1, .int (nI xc))]) hx hb dX12_never_37 hl (by decide) rfl (fun ls hl => ?_)
      have cut_39 : ∀ (NN : Nat) (p1 : Nat) (h1 : p1 ≤ 31) (hno : ∀ j, j < p1 → znevP σ xc j = false), 31 - p1 < NN → ∀ (H : Heap) (locs : List Loc) (ls : Array Slot), wH D cl A s.heap H locs (mw o q ci cI cJ (zw (zf σ) m_32 v_32 a_32 y1_32 y2_32 y3_32 y4_32 y5_32)) → lv_has ls 5 [(0, .ref o), (1, .int (nI xc)), (2, .long (zwsum (zf σ) xc 0 (σ.1 4))), (4, .int (nI p1))] → W p l e { frames := 6, cells := 0, slots := 0, locals := 158 } s m args below meth c H locs 0 0 Q (F0 m 39 ls []) := by
        intro NN
        induction NN with
        | zero => intro p1 h1 hno hNN; exact absurd hNN (Nat.not_lt_zero _)
        | succ NN ih_39 =>
          intro p1 h1 hno hNN H locs ls X hl
          refine lv_iload hx hb dX12_never_39 (lv_at hl 3 rfl) ?_
          refine lv_bipush (v := nI 30) hx hb dX12_never_41 (by decide) ?_
          refine gn_icmp_gt (tgt := 74) hx hb dX12_never_43 (by decide) (by omega) (by omega) (fun c_43 => ?_) (fun c_43 => ?_)
          ·
            refine lv_bipush (v := (-4)) hx hb dX12_never_74 (by decide) ?_
            exact finIP_of (by unfold zneverS; rw [if_neg (fun h9 => h9 c_10), if_neg (fun h9 => h9 c_19), ztoNat (show xc < 2147483648 by omega), zfirst_none (fun j hj => hno j (by omega)), if_neg (by omega)]) (u := (zw (zf σ) m_32 v_32 a_32 y1_32 y2_32 y3_32 y4_32 y5_32)) (mEq_zw hW) X dX12_never_76 fin
          ·
            refine lv_lload_n hx hb dX12_never_46 rfl (lv_at hl 2 rfl) ?_
            refine gn_ldc2 (v := 100) (k := 100) hx hb hown (hwd _ mk_78) (by decide) dX12_never_47 ?_
            refine lv_iload hx hb dX12_never_50 (lv_at hl 3 rfl) ?_
            refine gn_i2l hx hb dX12_never_52 (by omega) ?_
            refine lv_lmul hx hb dX12_never_53 ?_
            refine lv_aload_n hx hb dX12_never_54 rfl (lv_at hl 0 rfl) ?_
            refine ctL_V (wf := []) (As := []) (rest := [.long (lN 100 * lN p1), .long (zwsum (zf σ) xc 0 (σ.1 4))]) (n := 0) hx hb hml hown hts hK hA (ap_nil X) hl.1 (m_recv G X) (c_allThought hcl ht0 ht1 (σ := (zw (zf σ) m_32 v_32 a_32 y1_32 y2_32 y3_32 y4_32 y5_32))  (hok)) (cwV 0 hts (mg_V mk_186 mk_189 mk_190 mk_191 mk_43) rfl rfl rfl (by decide +kernel) ⟨Nat.le_of_ble_eq_true rfl, Nat.le_of_ble_eq_true rfl⟩) rfl (Nat.le_of_ble_eq_true rfl) dX12_never_55 ⟨Nat.le_refl _, Nat.le_refl _⟩ (fun H locs X => ?_)
            replace X := ap_nil' X
            refine gl_raw (y := (lN (zsum ((σ.2 14)) ((σ.1 4))))) rfl ?_
            refine lv_lmul hx hb dX12_never_58 ?_
            refine lv_lsub hx hb dX12_never_59 ?_
            refine lv_lconst (v := lN 0) hx hb dX12_never_60 (by decide) ?_
            refine W.lcmp hx hb dX12_never_61 ?_
            refine lv_if_ge (tgt := 68) hx hb dX12_never_62 (by decide) (fun c_61 => ?_) (fun c_61 => ?_)
            · rw [zc_ge] at c_61
              refine lv_iinc (v := nI (p1 + 1)) (lv' := [(4, .int (nI (p1 + 1))), (0, .ref o), (1, .int (nI xc)), (2, .long (zwsum (zf σ) xc 0 (σ.1 4)))]) hx hb dX12_never_68 hl (k := 3) rfl (zn_inc _) (by decide) rfl (fun ls hl => ?_)
              refine lv_goto (tgt := 39) hx hb dX12_never_71 (by decide) ?_
              refine ih_39 (p1 + 1) (by omega) (fun j hj => by rcases Nat.lt_or_ge j p1 with h9 | h9; exact hno j h9; rw [show j = p1 by omega]; exact decide_eq_false (fun h8 => h8 c_61)) (by omega) _ _ _ (by exact X) (by exact lv_sub hl [1, 2, 3, 0] rfl)
            · rw [zc_ge] at c_61
              refine lv_iload hx hb dX12_never_65 (lv_at hl 3 rfl) ?_
              exact finIP_of (by unfold zneverS; rw [if_neg (fun h9 => h9 c_10), if_neg (fun h9 => h9 c_19), ztoNat (show xc < 2147483648 by omega), zfirst_at hno (decide_eq_true c_61) (by omega), if_pos (by omega)]) (u := (zw (zf σ) m_32 v_32 a_32 y1_32 y2_32 y3_32 y4_32 y5_32)) (mEq_zw hW) X dX12_never_67 fin
      refine cut_39 _ 0 (Nat.zero_le _) (fun j hj => absurd hj (Nat.not_lt_zero j)) (Nat.lt_succ_self _) _ _ _ (by exact X) (by exact lv_sub hl [2, 3, 1, 0] rfl)
    ·
      refine lv_bipush (v := (-3)) hx hb dX12_never_22 (by decide) ?_
      exact finIP_of (by unfold zneverS; rw [if_neg (fun h9 => h9 c_10), if_pos c_19]) (u := σ) (mEq_refl hW) X dX12_never_24 fin
  ·
    refine lv_iconst (v := (-1)) hx hb dX12_never_13 (by decide) ?_
    exact finIP_of (by unfold zneverS; rw [if_pos (show ¬ zir x 8 from c_10)]) (u := σ) (mEq_refl hW) X dX12_never_14 fin
