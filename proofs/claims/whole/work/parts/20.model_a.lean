set_option maxHeartbeats 4000000 in
set_option maxRecDepth 100000 in
theorem c_thrown {l : Launch} {D : va_G} {cl : List vw_C} {tys : List (ClassId × FieldType)} {o : Nat} {q : Nat → Nat} {ci : Nat} {cI cJ : ClassId} (hcl : cl[ci]? = some (RX12, TX12, 48)) (ht0 : tys[0]? = some (cI, .int)) (ht1 : tys[1]? = some (cJ, .long)) {σ : MS}  : ctI l D cl tys yX12_thrown (Cond.code yX12_thrown cX12_thrown 1 (some .int) :: mW) { frames := 0, cells := 0, slots := 0, locals := 0 } [.ref o] (mw o q ci cI cJ σ) (nI (σ.1 15)) (mw o q ci cI cJ σ) := by
  refine ctI_of (cc := cX12_thrown) (maxL := 1) (by decide +kernel) rfl (Nat.le_of_ble_eq_true rfl) ?_
  intro p e s m args below meth c A Q ls hx hb hml hown hts hK hA X hl fin
  replace hown : s.vm.findClass RX12 = some m.cls := hown
  have hwd : ∀ w ∈ mW, w.before args s = true := fun w h => hts w (List.mem_cons_of_mem _ h)
  have G : mG p c cX12_thrown s m args D cl tys ci cI cJ := ⟨hx, hb, hown, hwd, hK, hcl, ht0, ht1⟩
  replace hl : lv_has ls 1 [(0, .ref o)] := hl
  refine lv_aload_n hx hb dX12_thrown_0 rfl (lv_at hl 0 rfl) ?_
  refine m_geti G X 15 rfl (hwd _ mk_35) rfl dX12_thrown_1 ?_
  exact fin_of (rfl) (rfl) X dX12_thrown_4 fin
set_option maxHeartbeats 4000000 in
set_option maxRecDepth 100000 in
theorem c_in {l : Launch} {D : va_G} {cl : List vw_C} {tys : List (ClassId × FieldType)} (v : Int64) (lo : Int64) (hi : Int64)  : ctI l D cl tys yX12_in (Cond.code yX12_in cX12_in 6 (some .boolean) :: mW) { frames := 0, cells := 0, slots := 0, locals := 0 } [.long v, .long lo, .long hi] ([]) (if lo ≤ v ∧ v ≤ hi then 1 else 0) ([]) := by
  refine ctZ_of (cc := cX12_in) (maxL := 6) (hnar := zb_ite) (by decide +kernel) rfl (Nat.le_of_ble_eq_true rfl) ?_
  intro p e s m args below meth c A Q ls hx hb hml hown hts hK hA X hl fin
  replace hown : s.vm.findClass RX12 = some m.cls := hown
  have hwd : ∀ w ∈ mW, w.before args s = true := fun w h => hts w (List.mem_cons_of_mem _ h)
  replace hl : lv_has ls 6 [(0, .long v), (2, .long lo), (4, .long hi)] := hl
  refine lv_lload_n hx hb dX12_in_0 rfl (lv_at hl 0 rfl) ?_
  refine lv_lload_n hx hb dX12_in_1 rfl (lv_at hl 1 rfl) ?_
  refine W.lcmp hx hb dX12_in_2 ?_
  refine lv_if_lt (tgt := 17) hx hb dX12_in_3 (by decide) (fun c_2 => ?_) (fun c_2 => ?_)
  · rw [zc_lt] at c_2
    refine lv_iconst (v := nI 0) hx hb dX12_in_17 (by decide) ?_
    exact fin_of (rfl) (by split <;> first | rfl | (exfalso; simp only [z64_lt, z64_le, z32_lt, z32_le, zi_l, zl_toInt (show 0 < 9223372036854775808 by decide), Int.not_lt, Int.not_le] at *; omega)) X dX12_in_18 fin
  · rw [zc_lt] at c_2
    refine lv_lload_n hx hb dX12_in_6 rfl (lv_at hl 0 rfl) ?_
    refine lv_lload hx hb dX12_in_7 (lv_at hl 2 rfl) ?_
    refine W.lcmp hx hb dX12_in_9 ?_
    refine lv_if_gt (tgt := 17) hx hb dX12_in_10 (by decide) (fun c_9 => ?_) (fun c_9 => ?_)
    · rw [zc_gt] at c_9
      refine lv_iconst (v := nI 0) hx hb dX12_in_17 (by decide) ?_
      exact fin_of (rfl) (by split <;> first | rfl | (exfalso; simp only [z64_lt, z64_le, z32_lt, z32_le, zi_l, zl_toInt (show 0 < 9223372036854775808 by decide), Int.not_lt, Int.not_le] at *; omega)) X dX12_in_18 fin
    · rw [zc_gt] at c_9
      refine lv_iconst (v := nI 1) hx hb dX12_in_13 (by decide) ?_
      refine lv_goto (tgt := 18) hx hb dX12_in_14 (by decide) ?_
      exact fin_of (rfl) (by split <;> first | rfl | (exfalso; simp only [z64_lt, z64_le, z32_lt, z32_le, zi_l, zl_toInt (show 0 < 9223372036854775808 by decide), Int.not_lt, Int.not_le] at *; omega)) X dX12_in_18 fin
set_option maxHeartbeats 4000000 in
set_option maxRecDepth 100000 in
theorem c_isCrossing {l : Launch} {D : va_G} {cl : List vw_C} {tys : List (ClassId × FieldType)} {o : Nat} {q : Nat → Nat} {ci : Nat} {cI cJ : ClassId} (hcl : cl[ci]? = some (RX12, TX12, 48)) (ht0 : tys[0]? = some (cI, .int)) (ht1 : tys[1]? = some (cJ, .long)) {σ : MS} (x : Int32)  : ctI l D cl tys yX12_isCrossing (Cond.code yX12_isCrossing cX12_isCrossing 2 (some .boolean) :: mW) { frames := 1, cells := 0, slots := 0, locals := 25 } [.ref o, .int x] (mw o q ci cI cJ σ) (if 0 ≤ x.toInt ∧ x.toInt < 8 then 1 else 0) (mw o q ci cI cJ σ) := by
  refine ctZ_of (cc := cX12_isCrossing) (maxL := 2) (hnar := zb_ite) (by decide +kernel) rfl (Nat.le_of_ble_eq_true rfl) ?_
  intro p e s m args below meth c A Q ls hx hb hml hown hts hK hA X hl fin
  replace hown : s.vm.findClass RX12 = some m.cls := hown
  have hwd : ∀ w ∈ mW, w.before args s = true := fun w h => hts w (List.mem_cons_of_mem _ h)
  have G : mG p c cX12_isCrossing s m args D cl tys ci cI cJ := ⟨hx, hb, hown, hwd, hK, hcl, ht0, ht1⟩
  replace hl : lv_has ls 2 [(0, .ref o), (1, .int x)] := hl
  refine lv_iload_n hx hb dX12_isCrossing_0 rfl (lv_at hl 1 rfl) ?_
  refine lv_i2l (v := x.toInt64) hx hb dX12_isCrossing_1 rfl ?_
  refine lv_lconst (v := lN 0) hx hb dX12_isCrossing_2 (by decide) ?_
  refine gn_ldc2 (v := 7) (k := 7) hx hb hown (hwd _ mk_40) (by decide) dX12_isCrossing_3 ?_
  refine ctI_S (w := []) (wf := mw o q ci cI cJ σ) (As := [.long x.toInt64, .long (lN 0), .long (lN 7)]) (rest := []) (n := 3) hx hb hml hown hts hK hA X hl.1 (c_in x.toInt64 (lN 0) (lN 7) ) (va_cwS 3 hts (mg_S mk_38 mk_41 mk_42 mk_43) rfl rfl rfl (by decide +kernel) ⟨Nat.le_of_ble_eq_true rfl, Nat.le_of_ble_eq_true rfl⟩) rfl (Nat.le_of_ble_eq_true rfl) dX12_isCrossing_6 ⟨Nat.le_refl _, Nat.le_refl _⟩ (fun H locs X => ?_)
  exact fin_of (rfl) (by simp only [z64_le, zi_l, zl_toInt (show 0 < 9223372036854775808 by decide), zl_toInt (show 7 < 9223372036854775808 by decide)]; congr 1; exact propext ⟨fun h => ⟨by omega, by omega⟩, fun h => ⟨by omega, by omega⟩⟩) X dX12_isCrossing_9 fin
set_option maxHeartbeats 4000000 in
set_option maxRecDepth 100000 in
theorem c_chancesTogether {l : Launch} {D : va_G} {cl : List vw_C} {tys : List (ClassId × FieldType)} {o : Nat} {q : Nat → Nat} {ci : Nat} {cI cJ : ClassId} (hcl : cl[ci]? = some (RX12, TX12, 48)) (ht0 : tys[0]? = some (cI, .int)) (ht1 : tys[1]? = some (cJ, .long)) {σ : MS} (hw5 : σ.1 4 ≤ 5) (hch : ∀ w, w < σ.1 4 → σ.2 5 w ≤ 100) : ctI l D cl tys yX12_chancesTogether (Cond.code yX12_chancesTogether cX12_chancesTogether 3 (some .int) :: mW) { frames := 0, cells := 0, slots := 0, locals := 0 } [.ref o] (mw o q ci cI cJ σ) (nI (zsum (σ.2 5) (σ.1 4))) (mw o q ci cI cJ σ) := by
  refine ctI_of (cc := cX12_chancesTogether) (maxL := 3) (by decide +kernel) rfl (Nat.le_of_ble_eq_true rfl) ?_
  intro p e s m args below meth c A Q ls hx hb hml hown hts hK hA X hl fin
  replace hown : s.vm.findClass RX12 = some m.cls := hown
  have hwd : ∀ w ∈ mW, w.before args s = true := fun w h => hts w (List.mem_cons_of_mem _ h)
  have G : mG p c cX12_chancesTogether s m args D cl tys ci cI cJ := ⟨hx, hb, hown, hwd, hK, hcl, ht0, ht1⟩
  replace hl : lv_has ls 3 [(0, .ref o)] := hl
  refine lv_iconst (v := nI 0) hx hb dX12_chancesTogether_0 (by decide) ?_
  refine lv_istore_n (lv' := [(1, .int (nI 0)), (0, .ref o)]) hx hb dX12_chancesTogether_1 rfl hl (by decide) rfl (fun ls hl => ?_)
  refine lv_iconst (v := nI 0) hx hb dX12_chancesTogether_2 (by decide) ?_
  refine lv_istore_n (lv' := [(2, .int (nI 0)), (1, .int (nI 0)), (0, .ref o)]) hx hb dX12_chancesTogether_3 rfl hl (by decide) rfl (fun ls hl => ?_)
  have cut_4 : ∀ (NN : Nat) (w : Nat) (hwl : w ≤ σ.1 4), σ.1 4 - w < NN → ∀ (H : Heap) (locs : List Loc) (ls : Array Slot), wH D cl A s.heap H locs (mw o q ci cI cJ σ) → lv_has ls 3 [(0, .ref o), (1, .int (nI (zsum (σ.2 5) w))), (2, .int (nI w))] → W p l e { frames := 0, cells := 0, slots := 0, locals := 0 } s m args below meth c H locs 0 0 Q (F0 m 4 ls []) := by
    intro NN
    induction NN with
    | zero => intro w hwl hNN; exact absurd hNN (Nat.not_lt_zero _)
    | succ NN ih_4 =>
      intro w hwl hNN H locs ls X hl
      refine lv_iload_n hx hb dX12_chancesTogether_4 rfl (lv_at hl 2 rfl) ?_
      refine lv_aload_n hx hb dX12_chancesTogether_5 rfl (lv_at hl 0 rfl) ?_
      refine m_geti G X 4 rfl (hwd _ mk_45) rfl dX12_chancesTogether_6 ?_
      refine gn_icmp_ge (tgt := 27) hx hb dX12_chancesTogether_9 (by decide) (by omega) (by omega) (fun c_9 => ?_) (fun c_9 => ?_)
      ·
        have hwe : w = σ.1 4 := by omega
        refine lv_iload_n hx hb dX12_chancesTogether_27 rfl (lv_at hl 1 rfl) ?_
        exact fin_of (rfl) (by rw [hwe]) X dX12_chancesTogether_28 fin
      ·
        refine lv_iload_n hx hb dX12_chancesTogether_12 rfl (lv_at hl 1 rfl) ?_
        refine lv_aload_n hx hb dX12_chancesTogether_13 rfl (lv_at hl 0 rfl) ?_
        refine m_geta G X 5 rfl (hwd _ mk_7) rfl dX12_chancesTogether_14 ?_
        refine lv_iload_n hx hb dX12_chancesTogether_17 rfl (lv_at hl 2 rfl) ?_
        refine m_iald G X 5 rfl (i := w) (by show _ < 5; omega) (by omega) dX12_chancesTogether_18 ?_
        refine gn_iadd hx hb dX12_chancesTogether_19  ?_
        refine lv_istore_n (lv' := [(1, .int (nI ((zsum (σ.2 5) w) + (σ.2 5 w)))), (0, .ref o), (2, .int (nI w))]) hx hb dX12_chancesTogether_20 rfl hl (by decide) rfl (fun ls hl => ?_)
        refine lv_iinc (v := nI (w + 1)) (lv' := [(2, .int (nI (w + 1))), (1, .int (nI ((zsum (σ.2 5) w) + (σ.2 5 w)))), (0, .ref o)]) hx hb dX12_chancesTogether_21 hl (k := 2) rfl (zn_inc _) (by decide) rfl (fun ls hl => ?_)
        refine lv_goto (tgt := 4) hx hb dX12_chancesTogether_24 (by decide) ?_
        refine ih_4 (w + 1) (by omega) (by omega) _ _ _ (by exact X) (by exact lv_sub hl [2, 1, 0] rfl)
  refine cut_4 _ 0 (Nat.zero_le _) (Nat.lt_succ_self _) _ _ _ (by exact X) (by exact lv_sub hl [2, 1, 0] rfl)
set_option maxHeartbeats 4000000 in
set_option maxRecDepth 100000 in
theorem c_isReady {l : Launch} {D : va_G} {cl : List vw_C} {tys : List (ClassId × FieldType)} {o : Nat} {q : Nat → Nat} {ci : Nat} {cI cJ : ClassId} (hcl : cl[ci]? = some (RX12, TX12, 48)) (ht0 : tys[0]? = some (cI, .int)) (ht1 : tys[1]? = some (cJ, .long)) {σ : MS} (hw5 : σ.1 4 ≤ 5) (hch : ∀ w, w < σ.1 4 → σ.2 5 w ≤ 100) : ctI l D cl tys yX12_isReady (Cond.code yX12_isReady cX12_isReady 1 (some .boolean) :: mW) { frames := 1, cells := 0, slots := 0, locals := 22 } [.ref o] (mw o q ci cI cJ σ) (if zsum (σ.2 5) (σ.1 4) = 100 then 1 else 0) (mw o q ci cI cJ σ) := by
  refine ctZ_of (cc := cX12_isReady) (maxL := 1) (hnar := zb_ite) (by decide +kernel) rfl (Nat.le_of_ble_eq_true rfl) ?_
  intro p e s m args below meth c A Q ls hx hb hml hown hts hK hA X hl fin
  replace hown : s.vm.findClass RX12 = some m.cls := hown
  have hwd : ∀ w ∈ mW, w.before args s = true := fun w h => hts w (List.mem_cons_of_mem _ h)
  have G : mG p c cX12_isReady s m args D cl tys ci cI cJ := ⟨hx, hb, hown, hwd, hK, hcl, ht0, ht1⟩
  replace hl : lv_has ls 1 [(0, .ref o)] := hl
  have hsum := zsum_le (f := σ.2 5) (b := 100) (σ.1 4) hch
  refine lv_aload_n hx hb dX12_isReady_0 rfl (lv_at hl 0 rfl) ?_
  refine ctI_V (wf := []) (As := []) (rest := []) (n := 0) hx hb hml hown hts hK hA (ap_nil X) hl.1 (m_recv G X) (c_chancesTogether hcl ht0 ht1 (σ := σ)  (hw5) (hch)) (cwV 0 hts (mg_V mk_46 mk_48 mk_49 mk_50 mk_43) rfl rfl rfl (by decide +kernel) ⟨Nat.le_of_ble_eq_true rfl, Nat.le_of_ble_eq_true rfl⟩) rfl (Nat.le_of_ble_eq_true rfl) dX12_isReady_1 ⟨Nat.le_refl _, Nat.le_refl _⟩ (fun H locs X => ?_)
  replace X := ap_nil' X
  refine lv_bipush (v := nI 100) hx hb dX12_isReady_4 (by decide) ?_
  refine gn_icmp_ne (tgt := 13) hx hb dX12_isReady_6 (by decide) (by omega) (by omega) (fun c_6 => ?_) (fun c_6 => ?_)
  ·
    refine lv_iconst (v := nI 0) hx hb dX12_isReady_13 (by decide) ?_
    exact fin_of (rfl) (by split <;> first | rfl | (exfalso; omega)) X dX12_isReady_14 fin
  ·
    refine lv_iconst (v := nI 1) hx hb dX12_isReady_9 (by decide) ?_
    refine lv_goto (tgt := 14) hx hb dX12_isReady_10 (by decide) ?_
    exact fin_of (rfl) (by split <;> first | rfl | (exfalso; omega)) X dX12_isReady_14 fin
set_option maxHeartbeats 4000000 in
set_option maxRecDepth 100000 in
theorem c_divisor {l : Launch} {D : va_G} {cl : List vw_C} {tys : List (ClassId × FieldType)} (a : Nat) (b : Nat) (ha : a < 9223372036854775808) (hb0 : b < 9223372036854775808) : ctL l D cl tys yX12_divisor (Cond.code yX12_divisor cX12_divisor 10 (some .long) :: mW) { frames := 0, cells := 0, slots := 0, locals := 0 } [.long (lN a), .long (lN b)] ([]) (lN (Nat.gcd a b)) ([]) := by
  refine ctL_of (cc := cX12_divisor) (maxL := 10) (by decide +kernel) rfl (Nat.le_of_ble_eq_true rfl) ?_
  intro p e s m args below meth c A Q ls hx hb hml hown hts hK hA X hl fin
  replace hown : s.vm.findClass RX12 = some m.cls := hown
  have hwd : ∀ w ∈ mW, w.before args s = true := fun w h => hts w (List.mem_cons_of_mem _ h)
  replace hl : lv_has ls 10 [(0, .long (lN a)), (2, .long (lN b))] := hl
  refine lv_lload_n hx hb dX12_divisor_0 rfl (lv_at hl 0 rfl) ?_
  refine lv_lstore (lv' := [(4, .long (lN a)), (0, .long (lN a)), (2, .long (lN b))]) hx hb dX12_divisor_1 hl (by decide) rfl (fun ls hl => ?_)
  refine lv_lload_n hx hb dX12_divisor_3 rfl (lv_at hl 2 rfl) ?_
  refine lv_lstore (lv' := [(6, .long (lN b)), (4, .long (lN a)), (0, .long (lN a)), (2, .long (lN b))]) hx hb dX12_divisor_4 hl (by decide) rfl (fun ls hl => ?_)
  have cut_6 : ∀ (NN : Nat) (x : Nat) (y : Nat) (hxx : x < 9223372036854775808) (hy : y < 9223372036854775808) (hg : Nat.gcd x y = Nat.gcd a b), y < NN → ∀ (H : Heap) (locs : List Loc) (ls : Array Slot), wH D cl A s.heap H locs [] → lv_has ls 10 [(4, .long (lN x)), (6, .long (lN y))] → W p l e { frames := 0, cells := 0, slots := 0, locals := 0 } s m args below meth c H locs 0 0 Q (F0 m 6 ls []) := by
    intro NN
    induction NN with
    | zero => intro x y hxx hy hg hNN; exact absurd hNN (Nat.not_lt_zero _)
    | succ NN ih_6 =>
      intro x y hxx hy hg hNN H locs ls X hl
      refine lv_lload hx hb dX12_divisor_6 (lv_at hl 1 rfl) ?_
      refine lv_lconst (v := lN 0) hx hb dX12_divisor_8 (by decide) ?_
      refine gn_lc_eq (tgt := 31) hx hb dX12_divisor_9 dX12_divisor_10 (by decide) (by omega) (by omega) (fun c_9 => ?_) (fun c_9 => ?_)
      ·
        refine lv_lload hx hb dX12_divisor_31 (lv_at hl 0 rfl) ?_
        exact finL_of (rfl) (by rw [← hg, c_9, Nat.gcd_zero_right]) X dX12_divisor_33 fin
      ·
        refine lv_lload hx hb dX12_divisor_13 (lv_at hl 0 rfl) ?_
        refine lv_lload hx hb dX12_divisor_15 (lv_at hl 1 rfl) ?_
        refine gn_lrem hx hb dX12_divisor_17 (by omega) (by omega) (by omega) ?_
        refine lv_lstore (lv' := [(8, .long (lN (x % y))), (4, .long (lN x)), (6, .long (lN y))]) hx hb dX12_divisor_18 hl (by decide) rfl (fun ls hl => ?_)
        refine lv_lload hx hb dX12_divisor_20 (lv_at hl 2 rfl) ?_
        refine lv_lstore (lv' := [(4, .long (lN y)), (8, .long (lN (x % y))), (6, .long (lN y))]) hx hb dX12_divisor_22 hl (by decide) rfl (fun ls hl => ?_)
        refine lv_lload hx hb dX12_divisor_24 (lv_at hl 1 rfl) ?_
        refine lv_lstore (lv' := [(6, .long (lN (x % y))), (4, .long (lN y)), (8, .long (lN (x % y)))]) hx hb dX12_divisor_26 hl (by decide) rfl (fun ls hl => ?_)
        refine lv_goto (tgt := 6) hx hb dX12_divisor_28 (by decide) ?_
        refine ih_6 y (x % y) (hy) (Nat.lt_of_le_of_lt (Nat.mod_le _ _) hxx) (by rw [zgcd]; exact hg) (by have := Nat.mod_lt x (show 0 < y by omega); omega) _ _ _ (by exact X) (by exact lv_sub hl [1, 0] rfl)
  refine cut_6 _ a b (ha) (hb0) (rfl) (Nat.lt_succ_self _) _ _ _ (by exact X) (by exact lv_sub hl [1, 0] rfl)
