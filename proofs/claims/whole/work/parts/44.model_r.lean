set_option maxHeartbeats 4000000 in
set_option maxRecDepth 100000 in
theorem c_set {l : Launch} {D : va_G} {cl : List vw_C} {tys : List (ClassId × FieldType)} {o : Nat} {q : Nat → Nat} {ci : Nat} {cI cJ : ClassId} (hcl : cl[ci]? = some (RX12, TX12, 48)) (ht0 : tys[0]? = some (cI, .int)) (ht1 : tys[1]? = some (cJ, .long)) {σ : MS} {σ0 : MS} (h15 : σ = sF σ0 15 0) (k : Int32) (x : Int32) (hok : mOk σ) (hsh : mSh σ) : ctIP l D cl tys yX12_set (Cond.code yX12_set cX12_set 4 (some .int) :: mW) { frames := 1, cells := 0, slots := 0, locals := 25 } [.ref o, .int k, .int x] (mw o q ci cI cJ σ0) (mw o q ci cI cJ) (zsetS σ k x) (fun u => mEq (zsetT σ k x) u) := by
  refine ctIP_of (cc := cX12_set) (maxL := 4) (by decide +kernel) rfl (Nat.le_of_ble_eq_true rfl) ?_
  intro p e s m args below meth c A Q ls hx hb hml hown hts hK hA X hl fin
  replace hown : s.vm.findClass RX12 = some m.cls := hown
  have hwd : ∀ w ∈ mW, w.before args s = true := fun w h => hts w (List.mem_cons_of_mem _ h)
  have G : mG p c cX12_set s m args D cl tys ci cI cJ := ⟨hx, hb, hown, hwd, hK, hcl, ht0, ht1⟩
  replace hl : lv_has ls 4 [(0, .ref o), (1, .int k), (2, .int x)] := hl
  obtain ⟨kr, kw, ks, kroad, kworld, ksort, kmet, ksum, kst, kco⟩ := id hok
  obtain ⟨hh, hru, hro, htb, hW, hp28, hth⟩ := id hsh
  have hp : σ.1 28 < 8 ∨ σ.1 28 = 4294967295 := Or.inr hp28
  refine lv_aload_n hx hb dX12_set_0 rfl (lv_at hl 0 rfl) ?_
  refine lv_iconst (v := nI 0) hx hb dX12_set_1 (by decide) ?_
  refine m_puti G X 15 rfl (hwd _ mk_35) rfl (ty := .int) (by decide +kernel) rfl rfl dX12_set_2 (fun H locs X => ?_)
  rw [← h15] at X
  refine lv_iload_n hx hb dX12_set_5 rfl (lv_at hl 1 rfl) ?_
  refine lv_i2l (v := k.toInt64) hx hb dX12_set_6 rfl ?_
  refine lv_lconst (v := lN 0) hx hb dX12_set_7 (by decide) ?_
  refine lv_lconst (v := lN 1) hx hb dX12_set_8 (by decide) ?_
  refine ctI_S (w := []) (wf := mw o q ci cI cJ σ) (As := [.long k.toInt64, .long (lN 0), .long (lN 1)]) (rest := []) (n := 3) hx hb hml hown hts hK hA X hl.1 (c_in k.toInt64 (lN 0) (lN 1) ) (va_cwS 3 hts (mg_S mk_38 mk_41 mk_42 mk_43) rfl rfl rfl (by decide +kernel) ⟨Nat.le_of_ble_eq_true rfl, Nat.le_of_ble_eq_true rfl⟩) rfl (Nat.le_of_ble_eq_true rfl) dX12_set_9 ⟨Nat.le_refl _, Nat.le_refl _⟩ (fun H locs X => ?_)
  refine gb_if_eq (tgt := 37) hx hb dX12_set_12 (by decide) (fun c_12 => ?_) (fun c_12 => ?_)
  ·
    rw [zi_n k (n := 1) (by decide)] at c_12
    refine lv_iconst (v := (-1)) hx hb dX12_set_37 (by decide) ?_
    exact finIP_of (by unfold zsetS; rw [if_neg (fun h9 => c_12 (by rw [h9.1]; exact ⟨by decide, by decide⟩)), if_neg (fun h9 => c_12 (by rw [h9.1]; exact ⟨by decide, by decide⟩))]) (u := σ) (by unfold zsetT; rw [if_neg (fun h9 => c_12 (by rw [h9.1]; exact ⟨by decide, by decide⟩)), if_neg (fun h9 => c_12 (by rw [h9.1]; exact ⟨by decide, by decide⟩))]; exact mEq_refl hW) X dX12_set_38 fin
  ·
    rw [zi_n k (n := 1) (by decide)] at c_12
    obtain ⟨xk, hxk, rfl⟩ := zi_in (n := 2) (by omega) c_12
    by_cases e0 : xk = 0
    ·
      subst e0
      refine lv_iload_n hx hb dX12_set_15 rfl (lv_at hl 2 rfl) ?_
      refine lv_i2l (v := x.toInt64) hx hb dX12_set_16 rfl ?_
      refine lv_lconst (v := lN 0) hx hb dX12_set_17 (by decide) ?_
      refine lv_iload_n hx hb dX12_set_18 rfl (lv_at hl 1 rfl) ?_
      refine gn_if_ne (tgt := 28) hx hb dX12_set_19 (by decide) (by omega) (fun c_19 => ?_) (fun c_19 => ?_)
      · exact absurd c_19 (by decide)
      ·
        refine gn_ldc2 (v := 7) (k := 7) hx hb hown (hwd _ mk_40) (by decide) dX12_set_22 ?_
        refine lv_goto (tgt := 31) hx hb dX12_set_25 (by decide) ?_
        refine ctI_S (w := []) (wf := mw o q ci cI cJ σ) (As := [.long x.toInt64, .long (lN 0), .long (lN 7)]) (rest := []) (n := 3) hx hb hml hown hts hK hA X hl.1 (c_in x.toInt64 (lN 0) (lN 7) ) (va_cwS 3 hts (mg_S mk_38 mk_41 mk_42 mk_43) rfl rfl rfl (by decide +kernel) ⟨Nat.le_of_ble_eq_true rfl, Nat.le_of_ble_eq_true rfl⟩) rfl (Nat.le_of_ble_eq_true rfl) dX12_set_31 ⟨Nat.le_refl _, Nat.le_refl _⟩ (fun H locs X => ?_)
        refine gb_if_ne (tgt := 39) hx hb dX12_set_34 (by decide) (fun c_34 => ?_) (fun c_34 => ?_)
        ·
          rw [zi_n x (n := 7) (by decide)] at c_34
          obtain ⟨xn, hxn, rfl⟩ := zi_in (n := 8) (by decide) c_34
          refine lv_iload_n hx hb dX12_set_39 rfl (lv_at hl 1 rfl) ?_
          refine gn_if_ne (tgt := 50) hx hb dX12_set_40 (by decide) (by omega) (fun c_40 => ?_) (fun c_40 => ?_)
          · exact absurd c_40 (by decide)
          ·
            refine lv_aload_n hx hb dX12_set_43 rfl (lv_at hl 0 rfl) ?_
            refine m_geti G X 12 rfl (hwd _ mk_81) rfl dX12_set_44 ?_
            refine lv_goto (tgt := 54) hx hb dX12_set_47 (by decide) ?_
            refine lv_istore_n (lv' := [(3, .int (nI (σ.1 12))), (0, .ref o), (1, .int (nI 0)), (2, .int (nI xn))]) hx hb dX12_set_54 rfl hl (by decide) rfl (fun ls hl => ?_)
            refine lv_aload_n hx hb dX12_set_55 rfl (lv_at hl 1 rfl) ?_
            refine lv_iload_n hx hb dX12_set_56 rfl (lv_at hl 2 rfl) ?_
            refine gn_if_ne (tgt := 64) hx hb dX12_set_57 (by decide) (by omega) (fun c_57 => ?_) (fun c_57 => ?_)
            · exact absurd c_57 (by decide)
            ·
              refine lv_iload_n hx hb dX12_set_60 rfl (lv_at hl 3 rfl) ?_
              refine lv_goto (tgt := 68) hx hb dX12_set_61 (by decide) ?_
              refine m_puti G X 12 rfl (hwd _ mk_81) rfl (ty := .int) (by decide +kernel) rfl rfl dX12_set_68 (fun H locs X => ?_)
              refine lv_aload_n hx hb dX12_set_71 rfl (lv_at hl 1 rfl) ?_
              refine lv_iload_n hx hb dX12_set_72 rfl (lv_at hl 2 rfl) ?_
              refine lv_iconst (v := nI 1) hx hb dX12_set_73 (by decide) ?_
              refine gn_icmp_ne (tgt := 81) hx hb dX12_set_74 (by decide) (by decide) (by decide) (fun c_74 => ?_) (fun c_74 => absurd c_74 (by decide))
              refine lv_aload_n hx hb dX12_set_81 rfl (lv_at hl 1 rfl) ?_
              refine m_geti G X 13 rfl (hwd _ mk_13) rfl dX12_set_82 ?_
              refine gi_eq (a := (σ.1 13)) rfl ?_
              refine m_puti G X 13 rfl (hwd _ mk_13) rfl (ty := .int) (by decide +kernel) rfl rfl dX12_set_85 (fun H locs X => ?_)
              refine lv_iload_n hx hb dX12_set_88 rfl (lv_at hl 0 rfl) ?_
              exact finIP_of (by unfold zsetS; rw [if_pos ⟨rfl, c_34⟩]) (u := (sF (sF σ 12 xn) 13 (σ.1 13))) (by unfold zsetT; rw [if_pos ⟨rfl, c_34⟩, ztoNat (show xn < 2147483648 by omega)]; exact mEq_refl hW) X dX12_set_89 fin
        ·
          rw [zi_n x (n := 7) (by decide)] at c_34
          refine lv_iconst (v := (-1)) hx hb dX12_set_37 (by decide) ?_
          exact finIP_of (by unfold zsetS; rw [if_neg (fun h9 => c_34 h9.2), if_neg (fun h9 => absurd h9.1 (by decide))]) (u := σ) (by unfold zsetT; rw [if_neg (fun h9 => c_34 h9.2), if_neg (fun h9 => absurd h9.1 (by decide))]; exact mEq_refl hW) X dX12_set_38 fin
    have e1 : xk = 1 := by omega
    subst e1
    refine lv_iload_n hx hb dX12_set_15 rfl (lv_at hl 2 rfl) ?_
    refine lv_i2l (v := x.toInt64) hx hb dX12_set_16 rfl ?_
    refine lv_lconst (v := lN 0) hx hb dX12_set_17 (by decide) ?_
    refine lv_iload_n hx hb dX12_set_18 rfl (lv_at hl 1 rfl) ?_
    refine gn_if_ne (tgt := 28) hx hb dX12_set_19 (by decide) (by omega) (fun c_19 => ?_) (fun c_19 => ?_)
    ·
      refine gn_ldc2 (v := 30) (k := 30) hx hb hown (hwd _ mk_112) (by decide) dX12_set_28 ?_
      refine ctI_S (w := []) (wf := mw o q ci cI cJ σ) (As := [.long x.toInt64, .long (lN 0), .long (lN 30)]) (rest := []) (n := 3) hx hb hml hown hts hK hA X hl.1 (c_in x.toInt64 (lN 0) (lN 30) ) (va_cwS 3 hts (mg_S mk_38 mk_41 mk_42 mk_43) rfl rfl rfl (by decide +kernel) ⟨Nat.le_of_ble_eq_true rfl, Nat.le_of_ble_eq_true rfl⟩) rfl (Nat.le_of_ble_eq_true rfl) dX12_set_31 ⟨Nat.le_refl _, Nat.le_refl _⟩ (fun H locs X => ?_)
      refine gb_if_ne (tgt := 39) hx hb dX12_set_34 (by decide) (fun c_34 => ?_) (fun c_34 => ?_)
      ·
        rw [zi_n x (n := 30) (by decide)] at c_34
        obtain ⟨xn, hxn, rfl⟩ := zi_in (n := 31) (by decide) c_34
        refine lv_iload_n hx hb dX12_set_39 rfl (lv_at hl 1 rfl) ?_
        refine gn_if_ne (tgt := 50) hx hb dX12_set_40 (by decide) (by omega) (fun c_40 => ?_) (fun c_40 => ?_)
        ·
          refine lv_aload_n hx hb dX12_set_50 rfl (lv_at hl 0 rfl) ?_
          refine m_geti G X 13 rfl (hwd _ mk_13) rfl dX12_set_51 ?_
          refine lv_istore_n (lv' := [(3, .int (nI (σ.1 13))), (0, .ref o), (1, .int (nI 1)), (2, .int (nI xn))]) hx hb dX12_set_54 rfl hl (by decide) rfl (fun ls hl => ?_)
          refine lv_aload_n hx hb dX12_set_55 rfl (lv_at hl 1 rfl) ?_
          refine lv_iload_n hx hb dX12_set_56 rfl (lv_at hl 2 rfl) ?_
          refine gn_if_ne (tgt := 64) hx hb dX12_set_57 (by decide) (by omega) (fun c_57 => ?_) (fun c_57 => ?_)
          ·
            refine lv_aload_n hx hb dX12_set_64 rfl (lv_at hl 1 rfl) ?_
            refine m_geti G X 12 rfl (hwd _ mk_81) rfl dX12_set_65 ?_
            refine m_puti G X 12 rfl (hwd _ mk_81) rfl (ty := .int) (by decide +kernel) rfl rfl dX12_set_68 (fun H locs X => ?_)
            refine lv_aload_n hx hb dX12_set_71 rfl (lv_at hl 1 rfl) ?_
            refine lv_iload_n hx hb dX12_set_72 rfl (lv_at hl 2 rfl) ?_
            refine lv_iconst (v := nI 1) hx hb dX12_set_73 (by decide) ?_
            refine gn_icmp_ne (tgt := 81) hx hb dX12_set_74 (by decide) (by decide) (by decide) (fun c_74 => absurd c_74 (by decide)) (fun c_74 => ?_)
            refine lv_iload_n hx hb dX12_set_77 rfl (lv_at hl 3 rfl) ?_
            refine lv_goto (tgt := 85) hx hb dX12_set_78 (by decide) ?_
            refine m_puti G X 13 rfl (hwd _ mk_13) rfl (ty := .int) (by decide +kernel) rfl rfl dX12_set_85 (fun H locs X => ?_)
            refine lv_iload_n hx hb dX12_set_88 rfl (lv_at hl 0 rfl) ?_
            exact finIP_of (by unfold zsetS; rw [if_neg (fun h9 => absurd h9.1 (by decide)), if_pos ⟨rfl, c_34⟩]) (u := (sF (sF σ 12 (σ.1 12)) 13 xn)) (by unfold zsetT; rw [if_neg (fun h9 => absurd h9.1 (by decide)), if_pos ⟨rfl, c_34⟩, ztoNat (show xn < 2147483648 by omega)]; exact mEq_refl hW) X dX12_set_89 fin
          · exact absurd c_57 (by decide)
        · exact absurd c_40 (by decide)
      ·
        rw [zi_n x (n := 30) (by decide)] at c_34
        refine lv_iconst (v := (-1)) hx hb dX12_set_37 (by decide) ?_
        exact finIP_of (by unfold zsetS; rw [if_neg (fun h9 => absurd h9.1 (by decide)), if_neg (fun h9 => c_34 h9.2)]) (u := σ) (by unfold zsetT; rw [if_neg (fun h9 => absurd h9.1 (by decide)), if_neg (fun h9 => c_34 h9.2)]; exact mEq_refl hW) X dX12_set_38 fin
    · exact absurd c_19 (by decide)
set_option maxHeartbeats 4000000 in
set_option maxRecDepth 100000 in
theorem c_judge {l : Launch} {D : va_G} {cl : List vw_C} {tys : List (ClassId × FieldType)} {o : Nat} {q : Nat → Nat} {ci : Nat} {cI cJ : ClassId} (hcl : cl[ci]? = some (RX12, TX12, 48)) (ht0 : tys[0]? = some (cI, .int)) (ht1 : tys[1]? = some (cJ, .long)) {σ : MS} {σ0 : MS} (h15 : σ = sF σ0 15 0) (d : Int32) (hok : mOk σ) (hsh : mSh σ) : ctIP l D cl tys yX12_judge (Cond.code yX12_judge cX12_judge 7 (some .int) :: mW) { frames := 2, cells := 0, slots := 0, locals := 46 } [.ref o, .int d] (mw o q ci cI cJ σ0) (mw o q ci cI cJ) (zjudgeS σ d) (fun u => mEq σ u) := by
  refine ctIP_of (cc := cX12_judge) (maxL := 7) (by decide +kernel) rfl (Nat.le_of_ble_eq_true rfl) ?_
  intro p e s m args below meth c A Q ls hx hb hml hown hts hK hA X hl fin
  replace hown : s.vm.findClass RX12 = some m.cls := hown
  have hwd : ∀ w ∈ mW, w.before args s = true := fun w h => hts w (List.mem_cons_of_mem _ h)
  have G : mG p c cX12_judge s m args D cl tys ci cI cJ := ⟨hx, hb, hown, hwd, hK, hcl, ht0, ht1⟩
  replace hl : lv_has ls 7 [(0, .ref o), (1, .int d)] := hl
  obtain ⟨kr, kw, ks, kroad, kworld, ksort, kmet, ksum, kst, kco⟩ := id hok
  obtain ⟨hh, hru, hro, htb, hW, hp28, hth⟩ := id hsh
  have hp : σ.1 28 < 8 ∨ σ.1 28 = 4294967295 := Or.inr hp28
  refine lv_aload_n hx hb dX12_judge_0 rfl (lv_at hl 0 rfl) ?_
  refine lv_iconst (v := nI 0) hx hb dX12_judge_1 (by decide) ?_
  refine m_puti G X 15 rfl (hwd _ mk_35) rfl (ty := .int) (by decide +kernel) rfl rfl dX12_judge_2 (fun H locs X => ?_)
  rw [← h15] at X
  refine lv_iload_n hx hb dX12_judge_5 rfl (lv_at hl 1 rfl) ?_
  refine lv_i2l (v := d.toInt64) hx hb dX12_judge_6 rfl ?_
  refine lv_lconst (v := lN 0) hx hb dX12_judge_7 (by decide) ?_
  refine gn_ldc2 (v := 7) (k := 7) hx hb hown (hwd _ mk_40) (by decide) dX12_judge_8 ?_
  refine ctI_S (w := []) (wf := mw o q ci cI cJ σ) (As := [.long d.toInt64, .long (lN 0), .long (lN 7)]) (rest := []) (n := 3) hx hb hml hown hts hK hA X hl.1 (c_in d.toInt64 (lN 0) (lN 7) ) (va_cwS 3 hts (mg_S mk_38 mk_41 mk_42 mk_43) rfl rfl rfl (by decide +kernel) ⟨Nat.le_of_ble_eq_true rfl, Nat.le_of_ble_eq_true rfl⟩) rfl (Nat.le_of_ble_eq_true rfl) dX12_judge_11 ⟨Nat.le_refl _, Nat.le_refl _⟩ (fun H locs X => ?_)
  refine gb_if_ne (tgt := 19) hx hb dX12_judge_14 (by decide) (fun c_14 => ?_) (fun c_14 => ?_)
  ·
    rw [zi8] at c_14
    obtain ⟨xd, hxd, rfl⟩ := zi_in (n := 8) (by decide) c_14
    refine lv_aload_n hx hb dX12_judge_19 rfl (lv_at hl 0 rfl) ?_
    refine ctI_V (wf := []) (As := []) (rest := []) (n := 0) hx hb hml hown hts hK hA (ap_nil X) hl.1 (m_recv G X) (c_isReady hcl ht0 ht1 (σ := σ)  (kw) (fun w9 hw9 => (kworld w9 hw9).2.1)) (cwV 0 hts (mg_V mk_47 mk_165 mk_166 mk_167 mk_43) rfl rfl rfl (by decide +kernel) ⟨Nat.le_of_ble_eq_true rfl, Nat.le_of_ble_eq_true rfl⟩) rfl (Nat.le_of_ble_eq_true rfl) dX12_judge_20 ⟨Nat.le_refl _, Nat.le_refl _⟩ (fun H locs X => ?_)
    replace X := ap_nil' X
    refine gb_if_ne (tgt := 29) hx hb dX12_judge_23 (by decide) (fun c_23 => ?_) (fun c_23 => ?_)
    ·
      refine lv_aload_n hx hb dX12_judge_29 rfl (lv_at hl 0 rfl) ?_
      refine lv_iload_n hx hb dX12_judge_30 rfl (lv_at hl 1 rfl) ?_
      refine ctI_V (wf := []) (As := [.int (nI xd)]) (rest := []) (n := 1) hx hb hml hown hts hK hA (ap_nil X) hl.1 (m_recv G X) (c_wrongRow hcl ht0 ht1 (σ := σ) (nI xd) (hok) (hh)) (cwV 1 hts (mg_V mk_86 mk_88 mk_89 mk_90 mk_43) rfl rfl rfl (by decide +kernel) ⟨Nat.le_of_ble_eq_true rfl, Nat.le_of_ble_eq_true rfl⟩) rfl (Nat.le_of_ble_eq_true rfl) dX12_judge_31 ⟨Nat.le_refl _, Nat.le_refl _⟩ (fun H locs X => ?_)
      replace X := ap_nil' X
      refine lv_if_ge (tgt := 43) hx hb dX12_judge_34 (by decide) (fun c_34 => ?_) (fun c_34 => ?_)
      ·
        have g2 := (zrowK_in hh c_34).2
        rw [ztoNat (show xd < 2147483648 by omega)] at g2
        obtain ⟨hs3, hm100⟩ := hro xd hxd g2
        have cut_78 : ∀ (sk : Int64) (hsk : sk = zskip (σ.2 44 xd)), ∀ (H : Heap) (locs : List Loc) (ls : Array Slot), wH D cl A s.heap H locs (mw o q ci cI cJ σ) → lv_has ls 7 [(0, .ref o), (1, .int (nI xd)), (2, .long sk)] → W p l e { frames := 2, cells := 0, slots := 0, locals := 46 } s m args below meth c H locs 0 0 Q (F0 m 78 ls []) := by
          intro sk hsk H locs ls X hl
          refine lv_iconst (v := nI 0) hx hb dX12_judge_78 (by decide) ?_
          refine lv_istore (lv' := [(4, .int (nI 0)), (0, .ref o), (1, .int (nI xd)), (2, .long sk)]) hx hb dX12_judge_79 hl (by decide) rfl (fun ls hl => ?_)
          have cut_81 : ∀ (NN : Nat) (w1 : Nat) (h1 : w1 ≤ σ.1 4) (hno : ∀ j, j < w1 → zjuP σ xd j = false), σ.1 4 - w1 < NN → ∀ (H : Heap) (locs : List Loc) (ls : Array Slot), wH D cl A s.heap H locs (mw o q ci cI cJ σ) → lv_has ls 7 [(0, .ref o), (1, .int (nI xd)), (2, .long sk), (4, .int (nI w1))] → W p l e { frames := 2, cells := 0, slots := 0, locals := 46 } s m args below meth c H locs 0 0 Q (F0 m 81 ls []) := by
            intro NN
            induction NN with
            | zero => intro w1 h1 hno hNN; exact absurd hNN (Nat.not_lt_zero _)
            | succ NN ih_81 =>
              intro w1 h1 hno hNN H locs ls X hl
              refine lv_iload hx hb dX12_judge_81 (lv_at hl 3 rfl) ?_
              refine lv_aload_n hx hb dX12_judge_83 rfl (lv_at hl 0 rfl) ?_
              refine m_geti G X 4 rfl (hwd _ mk_45) rfl dX12_judge_84 ?_
              refine gn_icmp_ge (tgt := 156) hx hb dX12_judge_87 (by decide) (by omega) (by omega) (fun c_87 => ?_) (fun c_87 => ?_)
              ·
                refine lv_aload_n hx hb dX12_judge_156 rfl (lv_at hl 0 rfl) ?_
                refine m_geta G X 45 rfl (hwd _ mk_32) rfl dX12_judge_157 ?_
                refine lv_iload_n hx hb dX12_judge_160 rfl (lv_at hl 1 rfl) ?_
                refine m_iald G X 45 rfl (i := xd) (by show _ < 8; omega) (by omega) dX12_judge_161 ?_
                refine lv_aload_n hx hb dX12_judge_162 rfl (lv_at hl 0 rfl) ?_
                refine m_geti G X 4 rfl (hwd _ mk_45) rfl dX12_judge_163 ?_
                refine gn_icmp_le (tgt := 176) hx hb dX12_judge_166 (by decide) (by omega) (by omega) (fun c_166 => ?_) (fun c_166 => ?_)
                ·
                  refine lv_bipush (v := (-4)) hx hb dX12_judge_176 (by decide) ?_
                  exact finIP_of (by unfold zjudgeS; rw [if_neg (fun h9 => h9 c_14), if_neg (fun h9 => h9 c_23), if_neg (Int32.not_lt.mpr c_34), ztoNat (show xd < 2147483648 by omega), zfirst_none (fun j hj => hno j (by omega)), if_neg (Nat.lt_irrefl _)]; first | (rw [if_pos c_166]; done) | (rw [if_neg (by omega)]; done)) (u := σ) (mEq_refl hW) X dX12_judge_178 fin
                ·
                  refine lv_aload_n hx hb dX12_judge_169 rfl (lv_at hl 0 rfl) ?_
                  refine m_geti G X 4 rfl (hwd _ mk_45) rfl dX12_judge_170 ?_
                  refine lv_goto (tgt := 178) hx hb dX12_judge_173 (by decide) ?_
                  exact finIP_of (by unfold zjudgeS; rw [if_neg (fun h9 => h9 c_14), if_neg (fun h9 => h9 c_23), if_neg (Int32.not_lt.mpr c_34), ztoNat (show xd < 2147483648 by omega), zfirst_none (fun j hj => hno j (by omega)), if_neg (Nat.lt_irrefl _)]; first | (rw [if_pos c_166]; done) | (rw [if_neg (by omega)]; done)) (u := σ) (mEq_refl hW) X dX12_judge_178 fin
              ·
                refine lv_iload hx hb dX12_judge_90 (lv_at hl 3 rfl) ?_
                refine lv_aload_n hx hb dX12_judge_92 rfl (lv_at hl 0 rfl) ?_
                refine m_geta G X 45 rfl (hwd _ mk_32) rfl dX12_judge_93 ?_
                refine lv_iload_n hx hb dX12_judge_96 rfl (lv_at hl 1 rfl) ?_
                refine m_iald G X 45 rfl (i := xd) (by show _ < 8; omega) (by omega) dX12_judge_97 ?_
                refine gn_icmp_lt (tgt := 104) hx hb dX12_judge_98 (by decide) (by omega) (by omega) (fun c_98 => ?_) (fun c_98 => ?_)
                ·
                  refine lv_aload_n hx hb dX12_judge_104 rfl (lv_at hl 0 rfl) ?_
                  refine m_geta G X 46 rfl (hwd _ mk_33) rfl dX12_judge_105 ?_
                  refine lv_bipush (v := nI 100) hx hb dX12_judge_108 (by decide) ?_
                  refine lv_iload_n hx hb dX12_judge_110 rfl (lv_at hl 1 rfl) ?_
                  refine gn_imul hx hb dX12_judge_111  ?_
                  refine lv_iload hx hb dX12_judge_112 (lv_at hl 3 rfl) ?_
                  refine gn_iadd hx hb dX12_judge_114  ?_
                  refine m_lald G X 46 rfl (i := ((100 * xd) + w1)) (by show _ < 800; omega) (by omega) dX12_judge_115 ?_
                  refine lv_lstore (lv' := [(5, .long (lN (σ.2 46 ((100 * xd) + w1)))), (0, .ref o), (1, .int (nI xd)), (2, .long sk), (4, .int (nI w1))]) hx hb dX12_judge_116 hl (by decide) rfl (fun ls hl => ?_)
                  refine lv_lload hx hb dX12_judge_118 (lv_at hl 0 rfl) ?_
                  refine lv_lload_n hx hb dX12_judge_120 rfl (lv_at hl 3 rfl) ?_
                  refine W.lcmp hx hb dX12_judge_121 ?_
                  refine lv_if_eq (tgt := 150) hx hb dX12_judge_122 (by decide) (fun c_121 => ?_) (fun c_121 => ?_)
                  · rw [zc_eq] at c_121
                    refine lv_iinc (v := nI (w1 + 1)) (lv' := [(4, .int (nI (w1 + 1))), (5, .long (lN (σ.2 46 ((100 * xd) + w1)))), (0, .ref o), (1, .int (nI xd)), (2, .long sk)]) hx hb dX12_judge_150 hl (k := 4) rfl (zn_inc _) (by decide) rfl (fun ls hl => ?_)
                    refine lv_goto (tgt := 81) hx hb dX12_judge_153 (by decide) ?_
                    refine ih_81 (w1 + 1) (by omega) (fun j hj => by rcases Nat.lt_or_ge j w1 with h9 | h9; exact hno j h9; rw [show j = w1 by omega]; exact decide_eq_false (fun h8 => by rcases h8 with h8 | h8; omega; first | exact h8.1 (by rw [← hsk]; exact c_121) | exact h8.2 c_143)) (by omega) _ _ _ (by exact X) (by exact lv_sub hl [2, 3, 4, 0] rfl)
                  · rw [zc_eq] at c_121
                    refine lv_lload hx hb dX12_judge_125 (lv_at hl 0 rfl) ?_
                    refine lv_aload_n hx hb dX12_judge_127 rfl (lv_at hl 1 rfl) ?_
                    refine m_geta G X 14 rfl (hwd _ mk_15) rfl dX12_judge_128 ?_
                    refine lv_iload hx hb dX12_judge_131 (lv_at hl 4 rfl) ?_
                    have hta := htb w1 c_87
                    refine m_lald G X 14 rfl (i := w1) (by show _ < 5; omega) (by omega) dX12_judge_133 ?_
                    refine gn_ldc2 (v := 100) (k := 100) hx hb hown (hwd _ mk_78) (by decide) dX12_judge_134 ?_
                    refine gn_lmul hx hb dX12_judge_137  ?_
                    refine lv_aload_n hx hb dX12_judge_138 rfl (lv_at hl 1 rfl) ?_
                    refine ctL_V (wf := []) (As := []) (rest := [.long (lN ((σ.2 14 w1) * 100)), .long (lN (σ.2 46 ((100 * xd) + w1)))]) (n := 0) hx hb hml hown hts hK hA (ap_nil X) hl.1 (m_recv G X) (c_allThought hcl ht0 ht1 (σ := σ)  (hok)) (cwV 0 hts (mg_V mk_186 mk_189 mk_190 mk_191 mk_43) rfl rfl rfl (by decide +kernel) ⟨Nat.le_of_ble_eq_true rfl, Nat.le_of_ble_eq_true rfl⟩) rfl (Nat.le_of_ble_eq_true rfl) dX12_judge_139 ⟨Nat.le_refl _, Nat.le_refl _⟩ (fun H locs X => ?_)
                    replace X := ap_nil' X
                    have htp := hth c_23
                    have hts9 := zsum_le (f := σ.2 14) (b := 100000000000) (σ.1 4) htb
                    refine gn_ldiv hx hb dX12_judge_142 (by omega) (htp) (by omega) ?_
                    refine W.lcmp hx hb dX12_judge_143 ?_
                    refine lv_if_eq (tgt := 150) hx hb dX12_judge_144 (by decide) (fun c_143 => ?_) (fun c_143 => ?_)
                    · rw [zc_eq] at c_143
                      refine lv_iinc (v := nI (w1 + 1)) (lv' := [(4, .int (nI (w1 + 1))), (5, .long (lN (σ.2 46 ((100 * xd) + w1)))), (0, .ref o), (1, .int (nI xd)), (2, .long sk)]) hx hb dX12_judge_150 hl (k := 4) rfl (zn_inc _) (by decide) rfl (fun ls hl => ?_)
                      refine lv_goto (tgt := 81) hx hb dX12_judge_153 (by decide) ?_
                      refine ih_81 (w1 + 1) (by omega) (fun j hj => by rcases Nat.lt_or_ge j w1 with h9 | h9; exact hno j h9; rw [show j = w1 by omega]; exact decide_eq_false (fun h8 => by rcases h8 with h8 | h8; omega; first | exact h8.1 (by rw [← hsk]; exact c_121) | exact h8.2 c_143)) (by omega) _ _ _ (by exact X) (by exact lv_sub hl [2, 3, 4, 0] rfl)
                    · rw [zc_eq] at c_143
                      refine lv_iload hx hb dX12_judge_147 (lv_at hl 4 rfl) ?_
                      exact finIP_of (by unfold zjudgeS; rw [if_neg (fun h9 => h9 c_14), if_neg (fun h9 => h9 c_23), if_neg (Int32.not_lt.mpr c_34), ztoNat (show xd < 2147483648 by omega), zfirst_at hno (decide_eq_true (Or.inr ⟨by rw [← hsk]; exact c_121, c_143⟩)) c_87, if_pos c_87]) (u := σ) (mEq_refl hW) X dX12_judge_149 fin
                ·
                  refine lv_iload hx hb dX12_judge_101 (lv_at hl 3 rfl) ?_
                  exact finIP_of (by unfold zjudgeS; rw [if_neg (fun h9 => h9 c_14), if_neg (fun h9 => h9 c_23), if_neg (Int32.not_lt.mpr c_34), ztoNat (show xd < 2147483648 by omega), zfirst_at hno (decide_eq_true (Or.inl c_98)) c_87, if_pos c_87]) (u := σ) (mEq_refl hW) X dX12_judge_103 fin
          refine cut_81 _ 0 (Nat.zero_le _) (fun j hj => absurd hj (Nat.not_lt_zero j)) (Nat.lt_succ_self _) _ _ _ (by exact X) (by exact lv_sub hl [1, 2, 3, 0] rfl)
        refine lv_aload_n hx hb dX12_judge_43 rfl (lv_at hl 0 rfl) ?_
        refine m_geta G X 44 rfl (hwd _ mk_31) rfl dX12_judge_44 ?_
        refine lv_iload_n hx hb dX12_judge_47 rfl (lv_at hl 1 rfl) ?_
        refine m_iald G X 44 rfl (i := xd) (by show _ < 8; omega) (by omega) dX12_judge_48 ?_
        refine gn_if_ne (tgt := 58) hx hb dX12_judge_49 (by decide) (by omega) (fun c_49 => ?_) (fun c_49 => ?_)
        ·
          refine lv_aload_n hx hb dX12_judge_58 rfl (lv_at hl 0 rfl) ?_
          refine m_geta G X 44 rfl (hwd _ mk_31) rfl dX12_judge_59 ?_
          refine lv_iload_n hx hb dX12_judge_62 rfl (lv_at hl 1 rfl) ?_
          refine m_iald G X 44 rfl (i := xd) (by show _ < 8; omega) (by omega) dX12_judge_63 ?_
          refine lv_iconst (v := nI 1) hx hb dX12_judge_64 (by decide) ?_
          refine gn_icmp_ne (tgt := 74) hx hb dX12_judge_65 (by decide) (by omega) (by omega) (fun c_65 => ?_) (fun c_65 => ?_)
          ·
            refine lv_ldc2 (v := (-2147483648)) hx hb hown (hwd _ mk_195) dX12_judge_74 ?_
            refine lv_lstore_n (lv' := [(2, .long (-2147483648)), (0, .ref o), (1, .int (nI xd))]) hx hb dX12_judge_77 rfl hl (by decide) rfl (fun ls hl => ?_)
            refine cut_78 (-2147483648) (by unfold zskip; repeat first | rw [if_pos (by omega)] | rw [if_neg (by omega)]) _ _ _ (by exact X) (by exact lv_sub hl [1, 2, 0] rfl)
          ·
            refine lv_ldc2 (v := (-32768)) hx hb hown (hwd _ mk_194) dX12_judge_68 ?_
            refine lv_goto (tgt := 77) hx hb dX12_judge_71 (by decide) ?_
            refine lv_lstore_n (lv' := [(2, .long (-32768)), (0, .ref o), (1, .int (nI xd))]) hx hb dX12_judge_77 rfl hl (by decide) rfl (fun ls hl => ?_)
            refine cut_78 (-32768) (by unfold zskip; repeat first | rw [if_pos (by omega)] | rw [if_neg (by omega)]) _ _ _ (by exact X) (by exact lv_sub hl [1, 2, 0] rfl)
        ·
          refine lv_ldc2 (v := (-128)) hx hb hown (hwd _ mk_193) dX12_judge_52 ?_
          refine lv_goto (tgt := 77) hx hb dX12_judge_55 (by decide) ?_
          refine lv_lstore_n (lv' := [(2, .long (-128)), (0, .ref o), (1, .int (nI xd))]) hx hb dX12_judge_77 rfl hl (by decide) rfl (fun ls hl => ?_)
          refine cut_78 (-128) (by unfold zskip; repeat first | rw [if_pos (by omega)] | rw [if_neg (by omega)]) _ _ _ (by exact X) (by exact lv_sub hl [1, 2, 0] rfl)
      ·
        refine lv_aload_n hx hb dX12_judge_37 rfl (lv_at hl 0 rfl) ?_
        refine lv_iload_n hx hb dX12_judge_38 rfl (lv_at hl 1 rfl) ?_
        refine ctI_V (wf := []) (As := [.int (nI xd)]) (rest := []) (n := 1) hx hb hml hown hts hK hA (ap_nil X) hl.1 (m_recv G X) (c_wrongRow hcl ht0 ht1 (σ := σ) (nI xd) (hok) (hh)) (cwV 1 hts (mg_V mk_86 mk_88 mk_89 mk_90 mk_43) rfl rfl rfl (by decide +kernel) ⟨Nat.le_of_ble_eq_true rfl, Nat.le_of_ble_eq_true rfl⟩) rfl (Nat.le_of_ble_eq_true rfl) dX12_judge_39 ⟨Nat.le_refl _, Nat.le_refl _⟩ (fun H locs X => ?_)
        replace X := ap_nil' X
        exact finIP_of (by unfold zjudgeS; rw [if_neg (fun h9 => h9 c_14), if_neg (fun h9 => h9 c_23), if_pos (Int32.not_le.mp c_34)]) (u := σ) (mEq_refl hW) X dX12_judge_42 fin
    ·
      refine lv_bipush (v := (-3)) hx hb dX12_judge_26 (by decide) ?_
      exact finIP_of (by unfold zjudgeS; rw [if_neg (fun h9 => h9 c_14), if_pos c_23]) (u := σ) (mEq_refl hW) X dX12_judge_28 fin
  ·
    rw [zi8] at c_14
    refine lv_iconst (v := (-1)) hx hb dX12_judge_17 (by decide) ?_
    exact finIP_of (by unfold zjudgeS; rw [if_pos c_14]) (u := σ) (mEq_refl hW) X dX12_judge_18 fin
