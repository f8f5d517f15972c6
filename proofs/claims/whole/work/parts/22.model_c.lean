set_option maxHeartbeats 4000000 in
set_option maxRecDepth 100000 in
theorem c_likeliest {l : Launch} {D : va_G} {cl : List vw_C} {tys : List (ClassId × FieldType)} {o : Nat} {q : Nat → Nat} {ci : Nat} {cI cJ : ClassId} (hcl : cl[ci]? = some (RX12, TX12, 48)) (ht0 : tys[0]? = some (cI, .int)) (ht1 : tys[1]? = some (cJ, .long)) {σ : MS} (hok : mOk σ) (hM : ∀ w, w < σ.1 4 → σ.2 29 w < 9223372036854775808) : ctI l D cl tys yX12_likeliest (Cond.code yX12_likeliest cX12_likeliest 3 (some .int) :: mW) { frames := 0, cells := 0, slots := 0, locals := 0 } [.ref o] (mw o q ci cI cJ σ) (nI (zbest (σ.2 29) (σ.1 4))) (mw o q ci cI cJ σ) := by
  refine ctI_of (cc := cX12_likeliest) (maxL := 3) (by decide +kernel) rfl (Nat.le_of_ble_eq_true rfl) ?_
  intro p e s m args below meth c A Q ls hx hb hml hown hts hK hA X hl fin
  replace hown : s.vm.findClass RX12 = some m.cls := hown
  have hwd : ∀ w ∈ mW, w.before args s = true := fun w h => hts w (List.mem_cons_of_mem _ h)
  have G : mG p c cX12_likeliest s m args D cl tys ci cI cJ := ⟨hx, hb, hown, hwd, hK, hcl, ht0, ht1⟩
  replace hl : lv_has ls 3 [(0, .ref o)] := hl
  obtain ⟨kr, kw, ks, kroad, kworld, ksort, kmet, ksum, kst, kco⟩ := id hok
  refine lv_iconst (v := nI 0) hx hb dX12_likeliest_0 (by decide) ?_
  refine lv_istore_n (lv' := [(1, .int (nI 0)), (0, .ref o)]) hx hb dX12_likeliest_1 rfl hl (by decide) rfl (fun ls hl => ?_)
  refine lv_iconst (v := nI 1) hx hb dX12_likeliest_2 (by decide) ?_
  refine lv_istore_n (lv' := [(2, .int (nI 1)), (1, .int (nI 0)), (0, .ref o)]) hx hb dX12_likeliest_3 rfl hl (by decide) rfl (fun ls hl => ?_)
  have cut_4 : ∀ (NN : Nat) (w1 : Nat) (h1 : 1 ≤ w1) (h2 : w1 ≤ σ.1 4 ∨ w1 = 1), σ.1 4 + 1 - w1 < NN → ∀ (H : Heap) (locs : List Loc) (ls : Array Slot), wH D cl A s.heap H locs (mw o q ci cI cJ σ) → lv_has ls 3 [(0, .ref o), (1, .int (nI (zbest (σ.2 29) w1))), (2, .int (nI w1))] → W p l e { frames := 0, cells := 0, slots := 0, locals := 0 } s m args below meth c H locs 0 0 Q (F0 m 4 ls []) := by
    intro NN
    induction NN with
    | zero => intro w1 h1 h2 hNN; exact absurd hNN (Nat.not_lt_zero _)
    | succ NN ih_4 =>
      intro w1 h1 h2 hNN H locs ls X hl
      have hbz := zbest_lt (σ.2 29) w1 (by omega)
      refine lv_iload_n hx hb dX12_likeliest_4 rfl (lv_at hl 2 rfl) ?_
      refine lv_aload_n hx hb dX12_likeliest_5 rfl (lv_at hl 0 rfl) ?_
      refine m_geti G X 4 rfl (hwd _ mk_45) rfl dX12_likeliest_6 ?_
      refine gn_icmp_ge (tgt := 40) hx hb dX12_likeliest_9 (by decide) (by omega) (by omega) (fun c_9 => ?_) (fun c_9 => ?_)
      ·
        have hm0 := zbest_1 (σ.2 29)
        refine lv_iload_n hx hb dX12_likeliest_40 rfl (lv_at hl 1 rfl) ?_
        exact fin_of (rfl) (by rcases (show w1 = σ.1 4 ∨ (w1 = 1 ∧ σ.1 4 = 0) by omega) with h | h; exact (by rw [h]); rw [h.1, h.2, hm0]; rfl) X dX12_likeliest_41 fin
      ·
        refine lv_aload_n hx hb dX12_likeliest_12 rfl (lv_at hl 0 rfl) ?_
        refine m_geta G X 29 rfl (hwd _ mk_24) rfl dX12_likeliest_13 ?_
        refine lv_iload_n hx hb dX12_likeliest_16 rfl (lv_at hl 2 rfl) ?_
        refine m_lald G X 29 rfl (i := w1) (by show _ < 5; omega) (by omega) dX12_likeliest_17 ?_
        refine lv_aload_n hx hb dX12_likeliest_18 rfl (lv_at hl 0 rfl) ?_
        refine m_geta G X 29 rfl (hwd _ mk_24) rfl dX12_likeliest_19 ?_
        refine lv_iload_n hx hb dX12_likeliest_22 rfl (lv_at hl 1 rfl) ?_
        refine m_lald G X 29 rfl (i := (zbest (σ.2 29) w1)) (by show _ < 5; omega) (by omega) dX12_likeliest_23 ?_
        have hM1 := hM w1 (by omega)
        have hM2 := hM (zbest (σ.2 29) w1) (by omega)
        refine gn_lc_le (tgt := 32) hx hb dX12_likeliest_24 dX12_likeliest_25 (by decide) (by omega) (by omega) (fun c_24 => ?_) (fun c_24 => ?_)
        ·
          refine lv_iload_n hx hb dX12_likeliest_32 rfl (lv_at hl 1 rfl) ?_
          refine lv_istore_n (lv' := [(1, .int (nI (zbest (σ.2 29) w1))), (0, .ref o), (2, .int (nI w1))]) hx hb dX12_likeliest_33 rfl hl (by decide) rfl (fun ls hl => ?_)
          refine lv_iinc (v := nI (w1 + 1)) (lv' := [(2, .int (nI (w1 + 1))), (1, .int (nI (zbest (σ.2 29) w1))), (0, .ref o)]) hx hb dX12_likeliest_34 hl (k := 2) rfl (zn_inc _) (by decide) rfl (fun ls hl => ?_)
          refine lv_goto (tgt := 4) hx hb dX12_likeliest_37 (by decide) ?_
          refine ih_4 (w1 + 1) (by omega) (by omega) (by omega) _ _ _ (by exact X) (by rw [show zbest (σ.2 29) (w1 + 1) = zbest (σ.2 29) w1 from if_neg (Nat.not_lt.mpr c_24)]; exact lv_sub hl [2, 1, 0] rfl)
        ·
          refine lv_iload_n hx hb dX12_likeliest_28 rfl (lv_at hl 2 rfl) ?_
          refine lv_goto (tgt := 33) hx hb dX12_likeliest_29 (by decide) ?_
          refine lv_istore_n (lv' := [(1, .int (nI w1)), (0, .ref o), (2, .int (nI w1))]) hx hb dX12_likeliest_33 rfl hl (by decide) rfl (fun ls hl => ?_)
          refine lv_iinc (v := nI (w1 + 1)) (lv' := [(2, .int (nI (w1 + 1))), (1, .int (nI w1)), (0, .ref o)]) hx hb dX12_likeliest_34 hl (k := 2) rfl (zn_inc _) (by decide) rfl (fun ls hl => ?_)
          refine lv_goto (tgt := 4) hx hb dX12_likeliest_37 (by decide) ?_
          refine ih_4 (w1 + 1) (by omega) (by omega) (by omega) _ _ _ (by exact X) (by rw [show zbest (σ.2 29) (w1 + 1) = w1 from if_pos c_24]; exact lv_sub hl [2, 1, 0] rfl)
  refine cut_4 _ 1 (by omega) (Or.inr rfl) (Nat.lt_succ_self _) _ _ _ (by exact X) (by rw [zbest_1]; exact lv_sub hl [2, 1, 0] rfl)
set_option maxHeartbeats 4000000 in
set_option maxRecDepth 100000 in
theorem c_setMind {l : Launch} {D : va_G} {cl : List vw_C} {tys : List (ClassId × FieldType)} {o : Nat} {q : Nat → Nat} {ci : Nat} {cI cJ : ClassId} (hcl : cl[ci]? = some (RX12, TX12, 48)) (ht0 : tys[0]? = some (cI, .int)) (ht1 : tys[1]? = some (cJ, .long)) {σ : MS} (hok : mOk σ) : ctV l D cl tys yX12_setMind (Cond.code yX12_setMind cX12_setMind 2 (none) :: mW) { frames := 0, cells := 0, slots := 0, locals := 0 } [.ref o] (mw o q ci cI cJ σ) (mw o q ci cI cJ (sA σ 29 (zcp (σ.2 14) (σ.2 29) (σ.1 4)))) := by
  refine ctV_of (cc := cX12_setMind) (maxL := 2) (by decide +kernel) rfl (Nat.le_of_ble_eq_true rfl) ?_
  intro p e s m args below meth c A Q ls hx hb hml hown hts hK hA X hl fin
  replace hown : s.vm.findClass RX12 = some m.cls := hown
  have hwd : ∀ w ∈ mW, w.before args s = true := fun w h => hts w (List.mem_cons_of_mem _ h)
  have G : mG p c cX12_setMind s m args D cl tys ci cI cJ := ⟨hx, hb, hown, hwd, hK, hcl, ht0, ht1⟩
  replace hl : lv_has ls 2 [(0, .ref o)] := hl
  obtain ⟨kr, kw, ks, kroad, kworld, ksort, kmet, ksum, kst, kco⟩ := id hok
  refine lv_iconst (v := nI 0) hx hb dX12_setMind_0 (by decide) ?_
  refine lv_istore_n (lv' := [(1, .int (nI 0)), (0, .ref o)]) hx hb dX12_setMind_1 rfl hl (by decide) rfl (fun ls hl => ?_)
  have cut_2 : ∀ (NN : Nat) (w1 : Nat) (h1 : w1 ≤ σ.1 4), σ.1 4 - w1 < NN → ∀ (H : Heap) (locs : List Loc) (ls : Array Slot), wH D cl A s.heap H locs (mw o q ci cI cJ (sA σ 29 (zcp (σ.2 14) (σ.2 29) w1))) → lv_has ls 2 [(0, .ref o), (1, .int (nI w1))] → W p l e { frames := 0, cells := 0, slots := 0, locals := 0 } s m args below meth c H locs 0 0 Q (F0 m 2 ls []) := by
    intro NN
    induction NN with
    | zero => intro w1 h1 hNN; exact absurd hNN (Nat.not_lt_zero _)
    | succ NN ih_2 =>
      intro w1 h1 hNN H locs ls X hl
      refine lv_iload_n hx hb dX12_setMind_2 rfl (lv_at hl 1 rfl) ?_
      refine lv_aload_n hx hb dX12_setMind_3 rfl (lv_at hl 0 rfl) ?_
      refine m_geti G X 4 rfl (hwd _ mk_45) rfl dX12_setMind_4 ?_
      refine gi_eq (a := (σ.1 4)) rfl ?_
      refine gn_icmp_ge (tgt := 28) hx hb dX12_setMind_7 (by decide) (by omega) (by omega) (fun c_7 => ?_) (fun c_7 => ?_)
      ·
        have hwe : w1 = σ.1 4 := by omega
        exact finV_of (by rw [hwe]) X dX12_setMind_28 fin
      ·
        refine lv_aload_n hx hb dX12_setMind_10 rfl (lv_at hl 0 rfl) ?_
        refine m_geta G X 29 rfl (hwd _ mk_24) rfl dX12_setMind_11 ?_
        refine lv_iload_n hx hb dX12_setMind_14 rfl (lv_at hl 1 rfl) ?_
        refine lv_aload_n hx hb dX12_setMind_15 rfl (lv_at hl 0 rfl) ?_
        refine m_geta G X 14 rfl (hwd _ mk_15) rfl dX12_setMind_16 ?_
        refine lv_iload_n hx hb dX12_setMind_19 rfl (lv_at hl 1 rfl) ?_
        refine m_lald G X 14 rfl (i := w1) (by show _ < 5; omega) (by omega) dX12_setMind_20 ?_
        refine gl_eq (a := (σ.2 14 w1)) rfl ?_
        refine m_last G X 29 rfl (i := w1) (v := (σ.2 14 w1)) (by show _ < 5; omega) (by omega) dX12_setMind_21 (fun H locs X => ?_)
        refine lv_iinc (v := nI (w1 + 1)) (lv' := [(1, .int (nI (w1 + 1))), (0, .ref o)]) hx hb dX12_setMind_22 hl (k := 1) rfl (zn_inc _) (by decide) rfl (fun ls hl => ?_)
        refine lv_goto (tgt := 2) hx hb dX12_setMind_25 (by decide) ?_
        refine ih_2 (w1 + 1) (by omega) (by omega) _ _ _ (by exact wh_eq (sA_f1 σ 29 (σ.2 14) w1 _ (rfl)) X) (by exact lv_sub hl [1, 0] rfl)
  refine cut_2 _ 0 (Nat.zero_le _) (Nat.lt_succ_self _) _ _ _ (by exact wh_eq (sA_f0 σ 29 (σ.2 14)) X) (by exact lv_sub hl [1, 0] rfl)
set_option maxHeartbeats 4000000 in
set_option maxRecDepth 100000 in
theorem c_thinkAnew {l : Launch} {D : va_G} {cl : List vw_C} {tys : List (ClassId × FieldType)} {o : Nat} {q : Nat → Nat} {ci : Nat} {cI cJ : ClassId} (hcl : cl[ci]? = some (RX12, TX12, 48)) (ht0 : tys[0]? = some (cI, .int)) (ht1 : tys[1]? = some (cJ, .long)) {σ : MS} (hok : mOk σ) : ctV l D cl tys yX12_thinkAnew (Cond.code yX12_thinkAnew cX12_thinkAnew 2 (none) :: mW) { frames := 0, cells := 0, slots := 0, locals := 0 } [.ref o] (mw o q ci cI cJ σ) (mw o q ci cI cJ (sA σ 14 (zcp (σ.2 5) (σ.2 14) (σ.1 4)))) := by
  refine ctV_of (cc := cX12_thinkAnew) (maxL := 2) (by decide +kernel) rfl (Nat.le_of_ble_eq_true rfl) ?_
  intro p e s m args below meth c A Q ls hx hb hml hown hts hK hA X hl fin
  replace hown : s.vm.findClass RX12 = some m.cls := hown
  have hwd : ∀ w ∈ mW, w.before args s = true := fun w h => hts w (List.mem_cons_of_mem _ h)
  have G : mG p c cX12_thinkAnew s m args D cl tys ci cI cJ := ⟨hx, hb, hown, hwd, hK, hcl, ht0, ht1⟩
  replace hl : lv_has ls 2 [(0, .ref o)] := hl
  obtain ⟨kr, kw, ks, kroad, kworld, ksort, kmet, ksum, kst, kco⟩ := id hok
  refine lv_iconst (v := nI 0) hx hb dX12_thinkAnew_0 (by decide) ?_
  refine lv_istore_n (lv' := [(1, .int (nI 0)), (0, .ref o)]) hx hb dX12_thinkAnew_1 rfl hl (by decide) rfl (fun ls hl => ?_)
  have cut_2 : ∀ (NN : Nat) (w1 : Nat) (h1 : w1 ≤ σ.1 4), σ.1 4 - w1 < NN → ∀ (H : Heap) (locs : List Loc) (ls : Array Slot), wH D cl A s.heap H locs (mw o q ci cI cJ (sA σ 14 (zcp (σ.2 5) (σ.2 14) w1))) → lv_has ls 2 [(0, .ref o), (1, .int (nI w1))] → W p l e { frames := 0, cells := 0, slots := 0, locals := 0 } s m args below meth c H locs 0 0 Q (F0 m 2 ls []) := by
    intro NN
    induction NN with
    | zero => intro w1 h1 hNN; exact absurd hNN (Nat.not_lt_zero _)
    | succ NN ih_2 =>
      intro w1 h1 hNN H locs ls X hl
      refine lv_iload_n hx hb dX12_thinkAnew_2 rfl (lv_at hl 1 rfl) ?_
      refine lv_aload_n hx hb dX12_thinkAnew_3 rfl (lv_at hl 0 rfl) ?_
      refine m_geti G X 4 rfl (hwd _ mk_45) rfl dX12_thinkAnew_4 ?_
      refine gi_eq (a := (σ.1 4)) rfl ?_
      refine gn_icmp_ge (tgt := 29) hx hb dX12_thinkAnew_7 (by decide) (by omega) (by omega) (fun c_7 => ?_) (fun c_7 => ?_)
      ·
        have hwe : w1 = σ.1 4 := by omega
        exact finV_of (by rw [hwe]) X dX12_thinkAnew_29 fin
      ·
        refine lv_aload_n hx hb dX12_thinkAnew_10 rfl (lv_at hl 0 rfl) ?_
        refine m_geta G X 14 rfl (hwd _ mk_15) rfl dX12_thinkAnew_11 ?_
        refine lv_iload_n hx hb dX12_thinkAnew_14 rfl (lv_at hl 1 rfl) ?_
        refine lv_aload_n hx hb dX12_thinkAnew_15 rfl (lv_at hl 0 rfl) ?_
        have hcb := kworld w1 (by omega)
        refine m_geta G X 5 rfl (hwd _ mk_7) rfl dX12_thinkAnew_16 ?_
        refine lv_iload_n hx hb dX12_thinkAnew_19 rfl (lv_at hl 1 rfl) ?_
        refine m_iald G X 5 rfl (i := w1) (by show _ < 5; omega) (by omega) dX12_thinkAnew_20 ?_
        refine gi_eq (a := (σ.2 5 w1)) rfl ?_
        refine gn_i2l hx hb dX12_thinkAnew_21 (by omega) ?_
        refine m_last G X 14 rfl (i := w1) (v := (σ.2 5 w1)) (by show _ < 5; omega) (by omega) dX12_thinkAnew_22 (fun H locs X => ?_)
        refine lv_iinc (v := nI (w1 + 1)) (lv' := [(1, .int (nI (w1 + 1))), (0, .ref o)]) hx hb dX12_thinkAnew_23 hl (k := 1) rfl (zn_inc _) (by decide) rfl (fun ls hl => ?_)
        refine lv_goto (tgt := 2) hx hb dX12_thinkAnew_26 (by decide) ?_
        refine ih_2 (w1 + 1) (by omega) (by omega) _ _ _ (by exact wh_eq (sA_f1 σ 14 (σ.2 5) w1 _ (rfl)) X) (by exact lv_sub hl [1, 0] rfl)
  refine cut_2 _ 0 (Nat.zero_le _) (Nat.lt_succ_self _) _ _ _ (by exact wh_eq (sA_f0 σ 14 (σ.2 5)) X) (by exact lv_sub hl [1, 0] rfl)
set_option maxHeartbeats 4000000 in
set_option maxRecDepth 100000 in
theorem c_allThought {l : Launch} {D : va_G} {cl : List vw_C} {tys : List (ClassId × FieldType)} {o : Nat} {q : Nat → Nat} {ci : Nat} {cI cJ : ClassId} (hcl : cl[ci]? = some (RX12, TX12, 48)) (ht0 : tys[0]? = some (cI, .int)) (ht1 : tys[1]? = some (cJ, .long)) {σ : MS} (hok : mOk σ) : ctL l D cl tys yX12_allThought (Cond.code yX12_allThought cX12_allThought 4 (some .long) :: mW) { frames := 0, cells := 0, slots := 0, locals := 0 } [.ref o] (mw o q ci cI cJ σ) (lN (zsum (σ.2 14) (σ.1 4))) (mw o q ci cI cJ σ) := by
  refine ctL_of (cc := cX12_allThought) (maxL := 4) (by decide +kernel) rfl (Nat.le_of_ble_eq_true rfl) ?_
  intro p e s m args below meth c A Q ls hx hb hml hown hts hK hA X hl fin
  replace hown : s.vm.findClass RX12 = some m.cls := hown
  have hwd : ∀ w ∈ mW, w.before args s = true := fun w h => hts w (List.mem_cons_of_mem _ h)
  have G : mG p c cX12_allThought s m args D cl tys ci cI cJ := ⟨hx, hb, hown, hwd, hK, hcl, ht0, ht1⟩
  replace hl : lv_has ls 4 [(0, .ref o)] := hl
  obtain ⟨kr, kw, ks, kroad, kworld, ksort, kmet, ksum, kst, kco⟩ := id hok
  refine lv_lconst (v := lN 0) hx hb dX12_allThought_0 (by decide) ?_
  refine lv_lstore_n (lv' := [(1, .long (lN 0)), (0, .ref o)]) hx hb dX12_allThought_1 rfl hl (by decide) rfl (fun ls hl => ?_)
  refine lv_iconst (v := nI 0) hx hb dX12_allThought_2 (by decide) ?_
  refine lv_istore_n (lv' := [(3, .int (nI 0)), (1, .long (lN 0)), (0, .ref o)]) hx hb dX12_allThought_3 rfl hl (by decide) rfl (fun ls hl => ?_)
  have cut_4 : ∀ (NN : Nat) (w1 : Nat) (hwl : w1 ≤ σ.1 4), σ.1 4 - w1 < NN → ∀ (H : Heap) (locs : List Loc) (ls : Array Slot), wH D cl A s.heap H locs (mw o q ci cI cJ σ) → lv_has ls 4 [(0, .ref o), (1, .long (lN (zsum (σ.2 14) w1))), (3, .int (nI w1))] → W p l e { frames := 0, cells := 0, slots := 0, locals := 0 } s m args below meth c H locs 0 0 Q (F0 m 4 ls []) := by
    intro NN
    induction NN with
    | zero => intro w1 hwl hNN; exact absurd hNN (Nat.not_lt_zero _)
    | succ NN ih_4 =>
      intro w1 hwl hNN H locs ls X hl
      refine lv_iload_n hx hb dX12_allThought_4 rfl (lv_at hl 2 rfl) ?_
      refine lv_aload_n hx hb dX12_allThought_5 rfl (lv_at hl 0 rfl) ?_
      refine m_geti G X 4 rfl (hwd _ mk_45) rfl dX12_allThought_6 ?_
      refine gn_icmp_ge (tgt := 27) hx hb dX12_allThought_9 (by decide) (by omega) (by omega) (fun c_9 => ?_) (fun c_9 => ?_)
      ·
        have hwe : w1 = σ.1 4 := by omega
        refine lv_lload_n hx hb dX12_allThought_27 rfl (lv_at hl 1 rfl) ?_
        exact finL_of (rfl) (by rw [hwe]) X dX12_allThought_28 fin
      ·
        refine lv_lload_n hx hb dX12_allThought_12 rfl (lv_at hl 1 rfl) ?_
        refine lv_aload_n hx hb dX12_allThought_13 rfl (lv_at hl 0 rfl) ?_
        refine m_geta G X 14 rfl (hwd _ mk_15) rfl dX12_allThought_14 ?_
        refine lv_iload_n hx hb dX12_allThought_17 rfl (lv_at hl 2 rfl) ?_
        refine m_lald G X 14 rfl (i := w1) (by show _ < 5; omega) (by omega) dX12_allThought_18 ?_
        refine gn_ladd hx hb dX12_allThought_19  ?_
        refine lv_lstore_n (lv' := [(1, .long (lN ((zsum (σ.2 14) w1) + (σ.2 14 w1)))), (0, .ref o), (3, .int (nI w1))]) hx hb dX12_allThought_20 rfl hl (by decide) rfl (fun ls hl => ?_)
        refine lv_iinc (v := nI (w1 + 1)) (lv' := [(3, .int (nI (w1 + 1))), (1, .long (lN ((zsum (σ.2 14) w1) + (σ.2 14 w1)))), (0, .ref o)]) hx hb dX12_allThought_21 hl (k := 2) rfl (zn_inc _) (by decide) rfl (fun ls hl => ?_)
        refine lv_goto (tgt := 4) hx hb dX12_allThought_24 (by decide) ?_
        refine ih_4 (w1 + 1) (by omega) (by omega) _ _ _ (by exact X) (by exact lv_sub hl [2, 1, 0] rfl)
  refine cut_4 _ 0 (Nat.zero_le _) (Nat.lt_succ_self _) _ _ _ (by exact X) (by exact lv_sub hl [2, 1, 0] rfl)
set_option maxHeartbeats 4000000 in
set_option maxRecDepth 100000 in
theorem c_see {l : Launch} {D : va_G} {cl : List vw_C} {tys : List (ClassId × FieldType)} {o : Nat} {q : Nat → Nat} {ci : Nat} {cI cJ : ClassId} (hcl : cl[ci]? = some (RX12, TX12, 48)) (ht0 : tys[0]? = some (cI, .int)) (ht1 : tys[1]? = some (cJ, .long)) {σ : MS} (xr : Nat) (xo : Nat) (hok : mOk σ) (hr : xr < 16) (ho : xo < 2) : ctV l D cl tys yX12_see (Cond.code yX12_see cX12_see 4 (none) :: mW) { frames := 1, cells := 0, slots := 0, locals := 22 } [.ref o, .int (nI xr), .int (nI xo)] (mw o q ci cI cJ σ) (mw o q ci cI cJ (sA σ 29 (zcp (zseeM σ (σ.2 29) xr xo) (σ.2 29) (σ.1 4)))) := by
  refine ctV_of (cc := cX12_see) (maxL := 4) (by decide +kernel) rfl (Nat.le_of_ble_eq_true rfl) ?_
  intro p e s m args below meth c A Q ls hx hb hml hown hts hK hA X hl fin
  replace hown : s.vm.findClass RX12 = some m.cls := hown
  have hwd : ∀ w ∈ mW, w.before args s = true := fun w h => hts w (List.mem_cons_of_mem _ h)
  have G : mG p c cX12_see s m args D cl tys ci cI cJ := ⟨hx, hb, hown, hwd, hK, hcl, ht0, ht1⟩
  replace hl : lv_has ls 4 [(0, .ref o), (1, .int (nI xr)), (2, .int (nI xo))] := hl
  obtain ⟨kr, kw, ks, kroad, kworld, ksort, kmet, ksum, kst, kco⟩ := id hok
  refine lv_iconst (v := nI 0) hx hb dX12_see_0 (by decide) ?_
  refine lv_istore_n (lv' := [(3, .int (nI 0)), (0, .ref o), (1, .int (nI xr)), (2, .int (nI xo))]) hx hb dX12_see_1 rfl hl (by decide) rfl (fun ls hl => ?_)
  have cut_2 : ∀ (NN : Nat) (w1 : Nat) (h1 : w1 ≤ σ.1 4), σ.1 4 - w1 < NN → ∀ (H : Heap) (locs : List Loc) (ls : Array Slot), wH D cl A s.heap H locs (mw o q ci cI cJ (sA σ 29 (zcp (zseeM σ (σ.2 29) xr xo) (σ.2 29) w1))) → lv_has ls 4 [(0, .ref o), (1, .int (nI xr)), (2, .int (nI xo)), (3, .int (nI w1))] → W p l e { frames := 1, cells := 0, slots := 0, locals := 22 } s m args below meth c H locs 0 0 Q (F0 m 2 ls []) := by
    intro NN
    induction NN with
    | zero => intro w1 h1 hNN; exact absurd hNN (Nat.not_lt_zero _)
    | succ NN ih_2 =>
      intro w1 h1 hNN H locs ls X hl
      refine lv_iload_n hx hb dX12_see_2 rfl (lv_at hl 3 rfl) ?_
      refine lv_aload_n hx hb dX12_see_3 rfl (lv_at hl 0 rfl) ?_
      refine m_geti G X 4 rfl (hwd _ mk_45) rfl dX12_see_4 ?_
      refine gi_eq (a := (σ.1 4)) rfl ?_
      refine gn_icmp_ge (tgt := 42) hx hb dX12_see_7 (by decide) (by omega) (by omega) (fun c_7 => ?_) (fun c_7 => ?_)
      ·
        have hwe : w1 = σ.1 4 := by omega
        exact finV_of (by rw [hwe]) X dX12_see_42 fin
      ·
        refine lv_aload_n hx hb dX12_see_10 rfl (lv_at hl 0 rfl) ?_
        refine m_geta G X 29 rfl (hwd _ mk_24) rfl dX12_see_11 ?_
        refine lv_iload_n hx hb dX12_see_14 rfl (lv_at hl 3 rfl) ?_
        refine lv_aload_n hx hb dX12_see_15 rfl (lv_at hl 0 rfl) ?_
        refine lv_iload_n hx hb dX12_see_16 rfl (lv_at hl 3 rfl) ?_
        refine lv_iload_n hx hb dX12_see_17 rfl (lv_at hl 1 rfl) ?_
        refine ctI_V (wf := []) (As := [.int (nI w1), .int (nI xr)]) (rest := [.int (nI w1), .ref (q 29)]) (n := 2) hx hb hml hown hts hK hA (ap_nil X) hl.1 (m_recv G X) (c_isShut hcl ht0 ht1 (σ := (sA σ 29 (zcp (zseeM σ (σ.2 29) xr xo) (σ.2 29) w1))) w1 xr (hok) (c_7) (by omega)) (cwV 2 hts (mg_V mk_113 mk_117 mk_118 mk_119 mk_43) rfl rfl rfl (by decide +kernel) ⟨Nat.le_of_ble_eq_true rfl, Nat.le_of_ble_eq_true rfl⟩) rfl (Nat.le_of_ble_eq_true rfl) dX12_see_18 ⟨Nat.le_refl _, Nat.le_refl _⟩ (fun H locs X => ?_)
        replace X := ap_nil' X
        refine gi_raw (y := (if zshut σ w1 xr then 1 else 0)) rfl ?_
        refine gb_asN ?_
        refine lv_iload_n hx hb dX12_see_21 rfl (lv_at hl 2 rfl) ?_
        refine gn_icmp_ne (tgt := 29) hx hb dX12_see_22 (by decide) (by split <;> omega) (by omega) (fun c_22 => ?_) (fun c_22 => ?_)
        ·
          refine lv_aload_n hx hb dX12_see_29 rfl (lv_at hl 0 rfl) ?_
          refine m_geta G X 29 rfl (hwd _ mk_24) rfl dX12_see_30 ?_
          refine lv_iload_n hx hb dX12_see_33 rfl (lv_at hl 3 rfl) ?_
          refine m_lald G X 29 rfl (i := w1) (by show _ < 5; omega) (by omega) dX12_see_34 ?_
          refine gl_eq (a := ((zcp (zseeM σ (σ.2 29) xr xo) (σ.2 29) w1) w1)) rfl ?_
          refine gl_eq (a := (σ.2 29 w1)) (zcp_out (Nat.le_refl _)) ?_
          refine m_last G X 29 rfl (i := w1) (v := (σ.2 29 w1)) (by show _ < 5; omega) (by omega) dX12_see_35 (fun H locs X => ?_)
          refine lv_iinc (v := nI (w1 + 1)) (lv' := [(3, .int (nI (w1 + 1))), (0, .ref o), (1, .int (nI xr)), (2, .int (nI xo))]) hx hb dX12_see_36 hl (k := 3) rfl (zn_inc _) (by decide) rfl (fun ls hl => ?_)
          refine lv_goto (tgt := 2) hx hb dX12_see_39 (by decide) ?_
          refine ih_2 (w1 + 1) (by omega) (by omega) _ _ _ (by exact wh_eq (sA_f1 σ 29 (zseeM σ (σ.2 29) xr xo) w1 _ (by first | exact (if_pos c_22).symm | exact (if_neg c_22).symm)) X) (by exact lv_sub hl [1, 2, 3, 0] rfl)
        ·
          refine lv_lconst (v := lN 0) hx hb dX12_see_25 (by decide) ?_
          refine lv_goto (tgt := 35) hx hb dX12_see_26 (by decide) ?_
          refine m_last G X 29 rfl (i := w1) (v := 0) (by show _ < 5; omega) (by omega) dX12_see_35 (fun H locs X => ?_)
          refine lv_iinc (v := nI (w1 + 1)) (lv' := [(3, .int (nI (w1 + 1))), (0, .ref o), (1, .int (nI xr)), (2, .int (nI xo))]) hx hb dX12_see_36 hl (k := 3) rfl (zn_inc _) (by decide) rfl (fun ls hl => ?_)
          refine lv_goto (tgt := 2) hx hb dX12_see_39 (by decide) ?_
          refine ih_2 (w1 + 1) (by omega) (by omega) _ _ _ (by exact wh_eq (sA_f1 σ 29 (zseeM σ (σ.2 29) xr xo) w1 _ (by first | exact (if_pos c_22).symm | exact (if_neg c_22).symm)) X) (by exact lv_sub hl [1, 2, 3, 0] rfl)
  refine cut_2 _ 0 (Nat.zero_le _) (Nat.lt_succ_self _) _ _ _ (by exact wh_eq (sA_f0 σ 29 (zseeM σ (σ.2 29) xr xo)) X) (by exact lv_sub hl [1, 2, 3, 0] rfl)
set_option maxHeartbeats 4000000 in
set_option maxRecDepth 100000 in
theorem c_believe {l : Launch} {D : va_G} {cl : List vw_C} {tys : List (ClassId × FieldType)} {o : Nat} {q : Nat → Nat} {ci : Nat} {cI cJ : ClassId} (hcl : cl[ci]? = some (RX12, TX12, 48)) (ht0 : tys[0]? = some (cI, .int)) (ht1 : tys[1]? = some (cJ, .long)) {σ : MS} (xt : Nat) (hok : mOk σ) (ht : xt < 5) : ctV l D cl tys yX12_believe (Cond.code yX12_believe cX12_believe 3 (none) :: mW) { frames := 0, cells := 0, slots := 0, locals := 0 } [.ref o, .int (nI xt)] (mw o q ci cI cJ σ) (mw o q ci cI cJ (sA σ 29 (zcp (zbelM (σ.2 29) xt) (σ.2 29) (σ.1 4)))) := by
  refine ctV_of (cc := cX12_believe) (maxL := 3) (by decide +kernel) rfl (Nat.le_of_ble_eq_true rfl) ?_
  intro p e s m args below meth c A Q ls hx hb hml hown hts hK hA X hl fin
  replace hown : s.vm.findClass RX12 = some m.cls := hown
  have hwd : ∀ w ∈ mW, w.before args s = true := fun w h => hts w (List.mem_cons_of_mem _ h)
  have G : mG p c cX12_believe s m args D cl tys ci cI cJ := ⟨hx, hb, hown, hwd, hK, hcl, ht0, ht1⟩
  replace hl : lv_has ls 3 [(0, .ref o), (1, .int (nI xt))] := hl
  obtain ⟨kr, kw, ks, kroad, kworld, ksort, kmet, ksum, kst, kco⟩ := id hok
  refine lv_iconst (v := nI 0) hx hb dX12_believe_0 (by decide) ?_
  refine lv_istore_n (lv' := [(2, .int (nI 0)), (0, .ref o), (1, .int (nI xt))]) hx hb dX12_believe_1 rfl hl (by decide) rfl (fun ls hl => ?_)
  have cut_2 : ∀ (NN : Nat) (w1 : Nat) (h1 : w1 ≤ σ.1 4), σ.1 4 - w1 < NN → ∀ (H : Heap) (locs : List Loc) (ls : Array Slot), wH D cl A s.heap H locs (mw o q ci cI cJ (sA σ 29 (zcp (zbelM (σ.2 29) xt) (σ.2 29) w1))) → lv_has ls 3 [(0, .ref o), (1, .int (nI xt)), (2, .int (nI w1))] → W p l e { frames := 0, cells := 0, slots := 0, locals := 0 } s m args below meth c H locs 0 0 Q (F0 m 2 ls []) := by
    intro NN
    induction NN with
    | zero => intro w1 h1 hNN; exact absurd hNN (Nat.not_lt_zero _)
    | succ NN ih_2 =>
      intro w1 h1 hNN H locs ls X hl
      refine lv_iload_n hx hb dX12_believe_2 rfl (lv_at hl 2 rfl) ?_
      refine lv_aload_n hx hb dX12_believe_3 rfl (lv_at hl 0 rfl) ?_
      refine m_geti G X 4 rfl (hwd _ mk_45) rfl dX12_believe_4 ?_
      refine gi_eq (a := (σ.1 4)) rfl ?_
      refine gn_icmp_ge (tgt := 37) hx hb dX12_believe_7 (by decide) (by omega) (by omega) (fun c_7 => ?_) (fun c_7 => ?_)
      ·
        have hwe : w1 = σ.1 4 := by omega
        exact finV_of (by rw [hwe]) X dX12_believe_37 fin
      ·
        refine lv_aload_n hx hb dX12_believe_10 rfl (lv_at hl 0 rfl) ?_
        refine m_geta G X 29 rfl (hwd _ mk_24) rfl dX12_believe_11 ?_
        refine lv_iload_n hx hb dX12_believe_14 rfl (lv_at hl 2 rfl) ?_
        refine lv_iload_n hx hb dX12_believe_15 rfl (lv_at hl 2 rfl) ?_
        refine lv_iload_n hx hb dX12_believe_16 rfl (lv_at hl 1 rfl) ?_
        refine gn_icmp_ne (tgt := 29) hx hb dX12_believe_17 (by decide) (by omega) (by omega) (fun c_17 => ?_) (fun c_17 => ?_)
        ·
          refine lv_lconst (v := lN 0) hx hb dX12_believe_29 (by decide) ?_
          refine m_last G X 29 rfl (i := w1) (v := 0) (by show _ < 5; omega) (by omega) dX12_believe_30 (fun H locs X => ?_)
          refine lv_iinc (v := nI (w1 + 1)) (lv' := [(2, .int (nI (w1 + 1))), (0, .ref o), (1, .int (nI xt))]) hx hb dX12_believe_31 hl (k := 2) rfl (zn_inc _) (by decide) rfl (fun ls hl => ?_)
          refine lv_goto (tgt := 2) hx hb dX12_believe_34 (by decide) ?_
          refine ih_2 (w1 + 1) (by omega) (by omega) _ _ _ (by exact wh_eq (sA_f1 σ 29 (zbelM (σ.2 29) xt) w1 _ (by first | exact (if_pos c_17).symm | exact (if_neg c_17).symm)) X) (by exact lv_sub hl [1, 2, 0] rfl)
        ·
          refine lv_aload_n hx hb dX12_believe_20 rfl (lv_at hl 0 rfl) ?_
          refine m_geta G X 29 rfl (hwd _ mk_24) rfl dX12_believe_21 ?_
          refine lv_iload_n hx hb dX12_believe_24 rfl (lv_at hl 2 rfl) ?_
          refine m_lald G X 29 rfl (i := w1) (by show _ < 5; omega) (by omega) dX12_believe_25 ?_
          refine gl_eq (a := ((zcp (zbelM (σ.2 29) xt) (σ.2 29) w1) w1)) rfl ?_
          refine gl_eq (a := (σ.2 29 w1)) (zcp_out (Nat.le_refl _)) ?_
          refine lv_goto (tgt := 30) hx hb dX12_believe_26 (by decide) ?_
          refine m_last G X 29 rfl (i := w1) (v := (σ.2 29 w1)) (by show _ < 5; omega) (by omega) dX12_believe_30 (fun H locs X => ?_)
          refine lv_iinc (v := nI (w1 + 1)) (lv' := [(2, .int (nI (w1 + 1))), (0, .ref o), (1, .int (nI xt))]) hx hb dX12_believe_31 hl (k := 2) rfl (zn_inc _) (by decide) rfl (fun ls hl => ?_)
          refine lv_goto (tgt := 2) hx hb dX12_believe_34 (by decide) ?_
          refine ih_2 (w1 + 1) (by omega) (by omega) _ _ _ (by exact wh_eq (sA_f1 σ 29 (zbelM (σ.2 29) xt) w1 _ (by first | exact (if_pos c_17).symm | exact (if_neg c_17).symm)) X) (by exact lv_sub hl [1, 2, 0] rfl)
  refine cut_2 _ 0 (Nat.zero_le _) (Nat.lt_succ_self _) _ _ _ (by exact wh_eq (sA_f0 σ 29 (zbelM (σ.2 29) xt)) X) (by exact lv_sub hl [1, 2, 0] rfl)
set_option maxHeartbeats 4000000 in
set_option maxRecDepth 100000 in
theorem c_wrongRow {l : Launch} {D : va_G} {cl : List vw_C} {tys : List (ClassId × FieldType)} {o : Nat} {q : Nat → Nat} {ci : Nat} {cI cJ : ClassId} (hcl : cl[ci]? = some (RX12, TX12, 48)) (ht0 : tys[0]? = some (cI, .int)) (ht1 : tys[1]? = some (cJ, .long)) {σ : MS} (x : Int32) (hok : mOk σ) (hh : ∀ d, d < 8 → σ.2 41 d < 3) : ctI l D cl tys yX12_wrongRow (Cond.code yX12_wrongRow cX12_wrongRow 2 (some .int) :: mW) { frames := 1, cells := 0, slots := 0, locals := 25 } [.ref o, .int x] (mw o q ci cI cJ σ) (zrowK σ x) (mw o q ci cI cJ σ) := by
  refine ctI_of (cc := cX12_wrongRow) (maxL := 2) (by decide +kernel) rfl (Nat.le_of_ble_eq_true rfl) ?_
  intro p e s m args below meth c A Q ls hx hb hml hown hts hK hA X hl fin
  replace hown : s.vm.findClass RX12 = some m.cls := hown
  have hwd : ∀ w ∈ mW, w.before args s = true := fun w h => hts w (List.mem_cons_of_mem _ h)
  have G : mG p c cX12_wrongRow s m args D cl tys ci cI cJ := ⟨hx, hb, hown, hwd, hK, hcl, ht0, ht1⟩
  replace hl : lv_has ls 2 [(0, .ref o), (1, .int x)] := hl
  obtain ⟨kr, kw, ks, kroad, kworld, ksort, kmet, ksum, kst, kco⟩ := id hok
  refine lv_iload_n hx hb dX12_wrongRow_0 rfl (lv_at hl 1 rfl) ?_
  refine lv_i2l (v := x.toInt64) hx hb dX12_wrongRow_1 rfl ?_
  refine lv_lconst (v := lN 0) hx hb dX12_wrongRow_2 (by decide) ?_
  refine gn_ldc2 (v := 7) (k := 7) hx hb hown (hwd _ mk_40) (by decide) dX12_wrongRow_3 ?_
  refine ctI_S (w := []) (wf := mw o q ci cI cJ σ) (As := [.long x.toInt64, .long (lN 0), .long (lN 7)]) (rest := []) (n := 3) hx hb hml hown hts hK hA X hl.1 (c_in x.toInt64 (lN 0) (lN 7) ) (va_cwS 3 hts (mg_S mk_38 mk_41 mk_42 mk_43) rfl rfl rfl (by decide +kernel) ⟨Nat.le_of_ble_eq_true rfl, Nat.le_of_ble_eq_true rfl⟩) rfl (Nat.le_of_ble_eq_true rfl) dX12_wrongRow_6 ⟨Nat.le_refl _, Nat.le_refl _⟩ (fun H locs X => ?_)
  refine gb_if_ne (tgt := 16) hx hb dX12_wrongRow_9 (by decide) (fun c_9 => ?_) (fun c_9 => ?_)
  ·
    simp only [z64_le, zi_l, zl_toInt (show 0 < 9223372036854775808 by decide), zl_toInt (show 7 < 9223372036854775808 by decide)] at c_9
    replace c_9 : 0 ≤ x.toInt ∧ x.toInt < ((8 : Nat) : Int) := ⟨by omega, by omega⟩
    obtain ⟨xd, hxd, rfl⟩ := zi_in (n := 8) (by decide) c_9
    have hhd := hh xd hxd
    refine lv_aload_n hx hb dX12_wrongRow_16 rfl (lv_at hl 0 rfl) ?_
    refine m_geta G X 41 rfl (hwd _ mk_28) rfl dX12_wrongRow_17 ?_
    refine lv_iload_n hx hb dX12_wrongRow_20 rfl (lv_at hl 1 rfl) ?_
    refine m_iald G X 41 rfl (i := xd) (by show _ < 8; omega) (by omega) dX12_wrongRow_21 ?_
    refine gn_if_ne (tgt := 30) hx hb dX12_wrongRow_22 (by decide) (by omega) (fun c_22 => ?_) (fun c_22 => ?_)
    ·
      refine lv_aload_n hx hb dX12_wrongRow_30 rfl (lv_at hl 0 rfl) ?_
      refine m_geta G X 41 rfl (hwd _ mk_28) rfl dX12_wrongRow_31 ?_
      refine lv_iload_n hx hb dX12_wrongRow_34 rfl (lv_at hl 1 rfl) ?_
      refine m_iald G X 41 rfl (i := xd) (by show _ < 8; omega) (by omega) dX12_wrongRow_35 ?_
      refine lv_iconst (v := nI 2) hx hb dX12_wrongRow_36 (by decide) ?_
      refine gn_icmp_eq (tgt := 45) hx hb dX12_wrongRow_37 (by decide) (by omega) (by omega) (fun c_37 => ?_) (fun c_37 => ?_)
      ·
        refine lv_iconst (v := nI 0) hx hb dX12_wrongRow_45 (by decide) ?_
        exact fin_of (rfl) (by unfold zrowK; rw [if_pos (by rw [zi_of (by omega)]; omega), ztoNat (by omega)]; first | rw [if_pos (by omega)] | (rw [if_neg (by omega), if_pos (by omega)]; rfl) | rw [if_neg (by omega), if_neg (by omega)]) X dX12_wrongRow_46 fin
      ·
        refine lv_bipush (v := (-12)) hx hb dX12_wrongRow_40 (by decide) ?_
        refine lv_goto (tgt := 46) hx hb dX12_wrongRow_42 (by decide) ?_
        exact fin_of (rfl) (by unfold zrowK; rw [if_pos (by rw [zi_of (by omega)]; omega), ztoNat (by omega)]; first | rw [if_pos (by omega)] | (rw [if_neg (by omega), if_pos (by omega)]; rfl) | rw [if_neg (by omega), if_neg (by omega)]) X dX12_wrongRow_46 fin
    ·
      refine lv_bipush (v := (-11)) hx hb dX12_wrongRow_25 (by decide) ?_
      refine lv_goto (tgt := 46) hx hb dX12_wrongRow_27 (by decide) ?_
      exact fin_of (rfl) (by unfold zrowK; rw [if_pos (by rw [zi_of (by omega)]; omega), ztoNat (by omega)]; first | rw [if_pos (by omega)] | (rw [if_neg (by omega), if_pos (by omega)]; rfl) | rw [if_neg (by omega), if_neg (by omega)]) X dX12_wrongRow_46 fin
  ·
    simp only [z64_le, zi_l, zl_toInt (show 0 < 9223372036854775808 by decide), zl_toInt (show 7 < 9223372036854775808 by decide)] at c_9
    refine lv_iconst (v := (-1)) hx hb dX12_wrongRow_12 (by decide) ?_
    refine lv_goto (tgt := 46) hx hb dX12_wrongRow_13 (by decide) ?_
    exact fin_of (rfl) (by unfold zrowK; rw [if_neg (by omega)]) X dX12_wrongRow_46 fin
set_option maxHeartbeats 4000000 in
set_option maxRecDepth 100000 in
theorem c_wrongRule {l : Launch} {D : va_G} {cl : List vw_C} {tys : List (ClassId × FieldType)} {o : Nat} {q : Nat → Nat} {ci : Nat} {cI cJ : ClassId} (hcl : cl[ci]? = some (RX12, TX12, 48)) (ht0 : tys[0]? = some (cI, .int)) (ht1 : tys[1]? = some (cJ, .long)) {σ : MS} (xd : Nat) (hok : mOk σ) (hd : xd < 8) (hh : ∀ d, d < 8 → σ.2 41 d < 3) : ctI l D cl tys yX12_wrongRule (Cond.code yX12_wrongRule cX12_wrongRule 2 (some .int) :: mW) { frames := 0, cells := 0, slots := 0, locals := 0 } [.ref o, .int (nI xd)] (mw o q ci cI cJ σ) (zrulK σ xd) (mw o q ci cI cJ σ) := by
  refine ctI_of (cc := cX12_wrongRule) (maxL := 2) (by decide +kernel) rfl (Nat.le_of_ble_eq_true rfl) ?_
  intro p e s m args below meth c A Q ls hx hb hml hown hts hK hA X hl fin
  replace hown : s.vm.findClass RX12 = some m.cls := hown
  have hwd : ∀ w ∈ mW, w.before args s = true := fun w h => hts w (List.mem_cons_of_mem _ h)
  have G : mG p c cX12_wrongRule s m args D cl tys ci cI cJ := ⟨hx, hb, hown, hwd, hK, hcl, ht0, ht1⟩
  replace hl : lv_has ls 2 [(0, .ref o), (1, .int (nI xd))] := hl
  obtain ⟨kr, kw, ks, kroad, kworld, ksort, kmet, ksum, kst, kco⟩ := id hok
  have hhd := hh xd hd
  refine lv_aload_n hx hb dX12_wrongRule_0 rfl (lv_at hl 0 rfl) ?_
  refine m_geta G X 41 rfl (hwd _ mk_28) rfl dX12_wrongRule_1 ?_
  refine lv_iload_n hx hb dX12_wrongRule_4 rfl (lv_at hl 1 rfl) ?_
  refine m_iald G X 41 rfl (i := xd) (by show _ < 8; omega) (by omega) dX12_wrongRule_5 ?_
  refine gn_if_ne (tgt := 14) hx hb dX12_wrongRule_6 (by decide) (by omega) (fun c_6 => ?_) (fun c_6 => ?_)
  ·
    refine lv_aload_n hx hb dX12_wrongRule_14 rfl (lv_at hl 0 rfl) ?_
    refine m_geta G X 41 rfl (hwd _ mk_28) rfl dX12_wrongRule_15 ?_
    refine lv_iload_n hx hb dX12_wrongRule_18 rfl (lv_at hl 1 rfl) ?_
    refine m_iald G X 41 rfl (i := xd) (by show _ < 8; omega) (by omega) dX12_wrongRule_19 ?_
    refine lv_iconst (v := nI 1) hx hb dX12_wrongRule_20 (by decide) ?_
    refine gn_icmp_eq (tgt := 29) hx hb dX12_wrongRule_21 (by decide) (by omega) (by omega) (fun c_21 => ?_) (fun c_21 => ?_)
    ·
      refine lv_iconst (v := nI 0) hx hb dX12_wrongRule_29 (by decide) ?_
      exact fin_of (rfl) (by unfold zrulK; first | rw [if_pos (by omega)] | (rw [if_neg (by omega), if_pos (by omega)]; rfl) | rw [if_neg (by omega), if_neg (by omega)]) X dX12_wrongRule_30 fin
    ·
      refine lv_bipush (v := (-12)) hx hb dX12_wrongRule_24 (by decide) ?_
      refine lv_goto (tgt := 30) hx hb dX12_wrongRule_26 (by decide) ?_
      exact fin_of (rfl) (by unfold zrulK; first | rw [if_pos (by omega)] | (rw [if_neg (by omega), if_pos (by omega)]; rfl) | rw [if_neg (by omega), if_neg (by omega)]) X dX12_wrongRule_30 fin
  ·
    refine lv_bipush (v := (-11)) hx hb dX12_wrongRule_9 (by decide) ?_
    refine lv_goto (tgt := 30) hx hb dX12_wrongRule_11 (by decide) ?_
    exact fin_of (rfl) (by unfold zrulK; first | rw [if_pos (by omega)] | (rw [if_neg (by omega), if_pos (by omega)]; rfl) | rw [if_neg (by omega), if_neg (by omega)]) X dX12_wrongRule_30 fin
set_option maxHeartbeats 4000000 in
set_option maxRecDepth 100000 in
theorem c_wrongShelf {l : Launch} {D : va_G} {cl : List vw_C} {tys : List (ClassId × FieldType)} {o : Nat} {q : Nat → Nat} {ci : Nat} {cI cJ : ClassId} (hcl : cl[ci]? = some (RX12, TX12, 48)) (ht0 : tys[0]? = some (cI, .int)) (ht1 : tys[1]? = some (cJ, .long)) {σ : MS} (x : Int32) (hok : mOk σ) (hh : ∀ d, d < 8 → σ.2 41 d < 3) : ctI l D cl tys yX12_wrongShelf (Cond.code yX12_wrongShelf cX12_wrongShelf 2 (some .int) :: mW) { frames := 1, cells := 0, slots := 0, locals := 25 } [.ref o, .int x] (mw o q ci cI cJ σ) (zshK σ x) (mw o q ci cI cJ σ) := by
  refine ctI_of (cc := cX12_wrongShelf) (maxL := 2) (by decide +kernel) rfl (Nat.le_of_ble_eq_true rfl) ?_
  intro p e s m args below meth c A Q ls hx hb hml hown hts hK hA X hl fin
  replace hown : s.vm.findClass RX12 = some m.cls := hown
  have hwd : ∀ w ∈ mW, w.before args s = true := fun w h => hts w (List.mem_cons_of_mem _ h)
  have G : mG p c cX12_wrongShelf s m args D cl tys ci cI cJ := ⟨hx, hb, hown, hwd, hK, hcl, ht0, ht1⟩
  replace hl : lv_has ls 2 [(0, .ref o), (1, .int x)] := hl
  obtain ⟨kr, kw, ks, kroad, kworld, ksort, kmet, ksum, kst, kco⟩ := id hok
  refine lv_iload_n hx hb dX12_wrongShelf_0 rfl (lv_at hl 1 rfl) ?_
  refine lv_i2l (v := x.toInt64) hx hb dX12_wrongShelf_1 rfl ?_
  refine lv_lconst (v := lN 0) hx hb dX12_wrongShelf_2 (by decide) ?_
  refine gn_ldc2 (v := 7) (k := 7) hx hb hown (hwd _ mk_40) (by decide) dX12_wrongShelf_3 ?_
  refine ctI_S (w := []) (wf := mw o q ci cI cJ σ) (As := [.long x.toInt64, .long (lN 0), .long (lN 7)]) (rest := []) (n := 3) hx hb hml hown hts hK hA X hl.1 (c_in x.toInt64 (lN 0) (lN 7) ) (va_cwS 3 hts (mg_S mk_38 mk_41 mk_42 mk_43) rfl rfl rfl (by decide +kernel) ⟨Nat.le_of_ble_eq_true rfl, Nat.le_of_ble_eq_true rfl⟩) rfl (Nat.le_of_ble_eq_true rfl) dX12_wrongShelf_6 ⟨Nat.le_refl _, Nat.le_refl _⟩ (fun H locs X => ?_)
  refine gb_if_ne (tgt := 16) hx hb dX12_wrongShelf_9 (by decide) (fun c_9 => ?_) (fun c_9 => ?_)
  ·
    simp only [z64_le, zi_l, zl_toInt (show 0 < 9223372036854775808 by decide), zl_toInt (show 7 < 9223372036854775808 by decide)] at c_9
    replace c_9 : 0 ≤ x.toInt ∧ x.toInt < ((8 : Nat) : Int) := ⟨by omega, by omega⟩
    obtain ⟨xd, hxd, rfl⟩ := zi_in (n := 8) (by decide) c_9
    refine lv_aload_n hx hb dX12_wrongShelf_16 rfl (lv_at hl 0 rfl) ?_
    refine lv_iload_n hx hb dX12_wrongShelf_17 rfl (lv_at hl 1 rfl) ?_
    refine ctI_V (wf := []) (As := [.int (nI xd)]) (rest := []) (n := 1) hx hb hml hown hts hK hA (ap_nil X) hl.1 (m_recv G X) (c_wrongRule hcl ht0 ht1 (σ := σ) xd (hok) (by omega) (hh)) (cwV 1 hts (mg_V mk_237 mk_239 mk_240 mk_241 mk_43) rfl rfl rfl (by decide +kernel) ⟨Nat.le_of_ble_eq_true rfl, Nat.le_of_ble_eq_true rfl⟩) rfl (Nat.le_of_ble_eq_true rfl) dX12_wrongShelf_18 ⟨Nat.le_refl _, Nat.le_refl _⟩ (fun H locs X => ?_)
    replace X := ap_nil' X
    exact fin_of (rfl) (by unfold zshK; rw [if_pos (by rw [zi_of (by omega)]; omega), ztoNat (by omega)]) X dX12_wrongShelf_21 fin
  ·
    simp only [z64_le, zi_l, zl_toInt (show 0 < 9223372036854775808 by decide), zl_toInt (show 7 < 9223372036854775808 by decide)] at c_9
    refine lv_iconst (v := (-1)) hx hb dX12_wrongShelf_12 (by decide) ?_
    refine lv_goto (tgt := 21) hx hb dX12_wrongShelf_13 (by decide) ?_
    exact fin_of (rfl) (by unfold zshK; rw [if_neg (by omega)]) X dX12_wrongShelf_21 fin
set_option maxHeartbeats 4000000 in
set_option maxRecDepth 100000 in
theorem c_weightOf {l : Launch} {D : va_G} {cl : List vw_C} {tys : List (ClassId × FieldType)} {o : Nat} {q : Nat → Nat} {ci : Nat} {cI cJ : ClassId} (hcl : cl[ci]? = some (RX12, TX12, 48)) (ht0 : tys[0]? = some (cI, .int)) (ht1 : tys[1]? = some (cJ, .long)) {σ : MS} (xd : Nat) (hok : mOk σ) (hd : xd < 8) (hk : σ.2 42 xd < 6) (hf : σ.2 43 xd < 100) : ctI l D cl tys yX12_weightOf (Cond.code yX12_weightOf cX12_weightOf 3 (some .int) :: mW) { frames := 0, cells := 0, slots := 0, locals := 0 } [.ref o, .int (nI xd)] (mw o q ci cI cJ σ) (nI (zweigh (σ.2 42 xd) (σ.2 43 xd))) (mw o q ci cI cJ σ) := by
  refine ctI_of (cc := cX12_weightOf) (maxL := 3) (by decide +kernel) rfl (Nat.le_of_ble_eq_true rfl) ?_
  intro p e s m args below meth c A Q ls hx hb hml hown hts hK hA X hl fin
  replace hown : s.vm.findClass RX12 = some m.cls := hown
  have hwd : ∀ w ∈ mW, w.before args s = true := fun w h => hts w (List.mem_cons_of_mem _ h)
  have G : mG p c cX12_weightOf s m args D cl tys ci cI cJ := ⟨hx, hb, hown, hwd, hK, hcl, ht0, ht1⟩
  replace hl : lv_has ls 3 [(0, .ref o), (1, .int (nI xd))] := hl
  obtain ⟨kr, kw, ks, kroad, kworld, ksort, kmet, ksum, kst, kco⟩ := id hok
  refine lv_aload_n hx hb dX12_weightOf_0 rfl (lv_at hl 0 rfl) ?_
  refine m_geta G X 43 rfl (hwd _ mk_30) rfl dX12_weightOf_1 ?_
  refine lv_iload_n hx hb dX12_weightOf_4 rfl (lv_at hl 1 rfl) ?_
  refine m_iald G X 43 rfl (i := xd) (by show _ < 8; omega) (by omega) dX12_weightOf_5 ?_
  refine lv_istore_n (lv' := [(2, .int (nI (σ.2 43 xd))), (0, .ref o), (1, .int (nI xd))]) hx hb dX12_weightOf_6 rfl hl (by decide) rfl (fun ls hl => ?_)
  refine lv_aload_n hx hb dX12_weightOf_7 rfl (lv_at hl 1 rfl) ?_
  refine m_geta G X 42 rfl (hwd _ mk_29) rfl dX12_weightOf_8 ?_
  refine lv_iload_n hx hb dX12_weightOf_11 rfl (lv_at hl 2 rfl) ?_
  refine m_iald G X 42 rfl (i := xd) (by show _ < 8; omega) (by omega) dX12_weightOf_12 ?_
  by_cases t_13_0 : (σ.2 42 xd) = 0
  · refine gi_eq t_13_0 ?_
    refine gn_tableIn (a := 0) (tgt := 48) hx hb dX12_weightOf_13 (by decide) (by decide) (by decide) rfl (by decide) ?_
    refine lv_iconst (v := nI 3) hx hb dX12_weightOf_48 (by decide) ?_
    exact fin_of (rfl) (by unfold zweigh; simp [*]) X dX12_weightOf_49 fin
  by_cases t_13_1 : (σ.2 42 xd) = 1
  · refine gi_eq t_13_1 ?_
    refine gn_tableIn (a := 1) (tgt := 50) hx hb dX12_weightOf_13 (by decide) (by decide) (by decide) rfl (by decide) ?_
    refine lv_iconst (v := nI 4) hx hb dX12_weightOf_50 (by decide) ?_
    exact fin_of (rfl) (by unfold zweigh; simp [*]) X dX12_weightOf_51 fin
  by_cases t_13_2 : (σ.2 42 xd) = 2
  · refine gi_eq t_13_2 ?_
    refine gn_tableIn (a := 2) (tgt := 52) hx hb dX12_weightOf_13 (by decide) (by decide) (by decide) rfl (by decide) ?_
    refine lv_iconst (v := nI 4) hx hb dX12_weightOf_52 (by decide) ?_
    refine lv_iload_n hx hb dX12_weightOf_53 rfl (lv_at hl 0 rfl) ?_
    refine gn_iadd hx hb dX12_weightOf_54  ?_
    exact fin_of (rfl) (by unfold zweigh; simp [*]) X dX12_weightOf_55 fin
  by_cases t_13_3 : (σ.2 42 xd) = 3
  · refine gi_eq t_13_3 ?_
    refine gn_tableIn (a := 3) (tgt := 56) hx hb dX12_weightOf_13 (by decide) (by decide) (by decide) rfl (by decide) ?_
    refine lv_bipush (v := nI 6) hx hb dX12_weightOf_56 (by decide) ?_
    exact fin_of (rfl) (by unfold zweigh; simp [*]) X dX12_weightOf_58 fin
  by_cases t_13_4 : (σ.2 42 xd) = 4
  · refine gi_eq t_13_4 ?_
    refine gn_tableIn (a := 4) (tgt := 59) hx hb dX12_weightOf_13 (by decide) (by decide) (by decide) rfl (by decide) ?_
    refine lv_bipush (v := nI 6) hx hb dX12_weightOf_59 (by decide) ?_
    refine lv_iload_n hx hb dX12_weightOf_61 rfl (lv_at hl 0 rfl) ?_
    refine gn_iadd hx hb dX12_weightOf_62  ?_
    exact fin_of (rfl) (by unfold zweigh; simp [*]) X dX12_weightOf_63 fin
  refine gn_tableOut (a := (σ.2 42 xd)) (tgt := 64) hx hb dX12_weightOf_13 (by omega) (by omega) (by decide) ?_
  refine lv_iconst (v := nI 3) hx hb dX12_weightOf_64 (by decide) ?_
  refine lv_bipush (v := nI 10) hx hb dX12_weightOf_65 (by decide) ?_
  refine lv_iload_n hx hb dX12_weightOf_67 rfl (lv_at hl 0 rfl) ?_
  refine gn_imul hx hb dX12_weightOf_68  ?_
  refine gn_iadd hx hb dX12_weightOf_69  ?_
  exact fin_of (rfl) (by unfold zweigh; simp [*]) X dX12_weightOf_70 fin
set_option maxHeartbeats 4000000 in
set_option maxRecDepth 100000 in
theorem c_narrowed {l : Launch} {D : va_G} {cl : List vw_C} {tys : List (ClassId × FieldType)} (v : Int32) (xs : Nat) (hs : xs < 3) : ctL l D cl tys yX12_narrowed (Cond.code yX12_narrowed cX12_narrowed 2 (some .long) :: mW) { frames := 0, cells := 0, slots := 0, locals := 0 } [.int v, .int (nI xs)] ([]) (znar v xs) ([]) := by
  refine ctL_of (cc := cX12_narrowed) (maxL := 2) (by decide +kernel) rfl (Nat.le_of_ble_eq_true rfl) ?_
  intro p e s m args below meth c A Q ls hx hb hml hown hts hK hA X hl fin
  replace hown : s.vm.findClass RX12 = some m.cls := hown
  have hwd : ∀ w ∈ mW, w.before args s = true := fun w h => hts w (List.mem_cons_of_mem _ h)
  replace hl : lv_has ls 2 [(0, .int v), (1, .int (nI xs))] := hl
  refine lv_iload_n hx hb dX12_narrowed_0 rfl (lv_at hl 1 rfl) ?_
  refine gn_if_ne (tgt := 10) hx hb dX12_narrowed_1 (by decide) (by omega) (fun c_1 => ?_) (fun c_1 => ?_)
  ·
    refine lv_iload_n hx hb dX12_narrowed_10 rfl (lv_at hl 1 rfl) ?_
    refine lv_iconst (v := nI 1) hx hb dX12_narrowed_11 (by decide) ?_
    refine gn_icmp_ne (tgt := 21) hx hb dX12_narrowed_12 (by decide) (by omega) (by omega) (fun c_12 => ?_) (fun c_12 => ?_)
    ·
      refine lv_iload_n hx hb dX12_narrowed_21 rfl (lv_at hl 0 rfl) ?_
      refine lv_i2l (v := v.toInt64) hx hb dX12_narrowed_22 rfl ?_
      exact finL_of (rfl) (by unfold znar; repeat first | rw [if_pos (by omega)] | rw [if_neg (by omega)]) X dX12_narrowed_23 fin
    ·
      refine lv_iload_n hx hb dX12_narrowed_15 rfl (lv_at hl 0 rfl) ?_
      refine lv_i2s (v := v.toInt16.toInt32) hx hb dX12_narrowed_16 rfl ?_
      refine lv_i2l (v := v.toInt16.toInt32.toInt64) hx hb dX12_narrowed_17 rfl ?_
      refine lv_goto (tgt := 23) hx hb dX12_narrowed_18 (by decide) ?_
      exact finL_of (rfl) (by unfold znar; repeat first | rw [if_pos (by omega)] | rw [if_neg (by omega)]) X dX12_narrowed_23 fin
  ·
    refine lv_iload_n hx hb dX12_narrowed_4 rfl (lv_at hl 0 rfl) ?_
    refine lv_i2b (v := v.toInt8.toInt32) hx hb dX12_narrowed_5 rfl ?_
    refine lv_i2l (v := v.toInt8.toInt32.toInt64) hx hb dX12_narrowed_6 rfl ?_
    refine lv_goto (tgt := 23) hx hb dX12_narrowed_7 (by decide) ?_
    exact finL_of (rfl) (by unfold znar; repeat first | rw [if_pos (by omega)] | rw [if_neg (by omega)]) X dX12_narrowed_23 fin
