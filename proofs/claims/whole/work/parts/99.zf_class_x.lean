set_option maxHeartbeats 4000000 in
set_option maxRecDepth 100000 in
theorem k4_tellTo {E : (Nat → Prop) → State → Heap → Prop} (hE : cEok E) {l : Launch} {D : va_G} {Z : Nat → ClassId} {ad av : Nat → Nat} {rd ro : Nat × Nat} {t n : Nat} {g : Nat → Int32} {q : Nat → Nat} {La : LA} {τ : MS} (xm : Nat) (hS : cStr E ad av) (hn : n ≤ 100) (htl : ztl q) (hL : lOk τ) (ho : zoks (zbA g n) xm 0) (hm : xm ≤ 100) : dtI E l D Z yX4_tellTo (Cond.code yX4_tellTo cX4_tellTo 6 (some .int) :: cW) { frames := 5, cells := 0, slots := 0, locals := 112 } [.ref rd.1, .ref La.1, .int (nI xm)] (wcat [rdP Z rd ro.2 q, roP Z ro t n g, landP Z La τ]) (S := (Nat → Nat)) (fun u => wcat [rdP Z rd ro.2 u, roP Z ro t n g, landP Z La ((zte (zbA g n) xm 0 q τ).2)]) (fun u => zteR xm (zte (zbA g n) xm 0 q τ).1) (fun u => ztl u) := by
  refine dtI_of hE (cc := cX4_tellTo) (maxL := 6) (by decide +kernel) (fun w h => List.mem_cons_of_mem _ h) (Nat.le_of_ble_eq_true rfl) ?_
  intro p e s m args below meth c A Q ls hx hb hml hown hts G X hl fin
  replace hl : lv_has ls 6 [(0, .ref rd.1), (1, .ref La.1), (2, .int (nI xm))] := hl
  refine lv_iconst (v := nI 0) hx hb dX4_tellTo_0 (by decide) ?_
  refine lv_istore_n (lv' := [(3, .int (nI 0)), (0, .ref rd.1), (1, .ref La.1), (2, .int (nI xm))]) hx hb dX4_tellTo_1 rfl hl (by decide) rfl (fun ls hl => ?_)
  refine lv_iconst (v := nI 0) hx hb dX4_tellTo_2 (by decide) ?_
  refine lv_istore (lv' := [(4, .int (nI 0)), (3, .int (nI 0)), (0, .ref rd.1), (1, .ref La.1), (2, .int (nI xm))]) hx hb dX4_tellTo_3 hl (by decide) rfl (fun ls hl => ?_)
  have cut_5 : ∀ (NN : Nat) (i1 : Nat) (a1 : Nat) (t1 : Nat → Nat) (τ1 : MS) (h1 : i1 ≤ xm) (hz : (zte (zbA g n) xm 0 q τ) = zte (zbA g n) (xm - i1) a1 t1 τ1) (hks : zoks (zbA g n) (xm - i1) a1) (ht1 : ztl t1) (hL1 : lOk τ1), xm - i1 < NN → ∀ (H : Heap) (locs : List Loc) (ls : Array Slot), wH D vwCl A s.heap H locs (wcat [rdP Z rd ro.2 t1, roP Z ro t n g, landP Z La τ1]) → lv_has ls 6 [(0, .ref rd.1), (1, .ref La.1), (2, .int (nI xm)), (3, .int (nI a1)), (4, .int (nI i1))] → W p l e { frames := 5, cells := 0, slots := 0, locals := 112 } s m args below meth c H locs 0 0 Q (F0 m 5 ls []) := by
    intro NN
    induction NN with
    | zero => intro i1 a1 t1 τ1 h1 hz hks ht1 hL1 hNN; exact absurd hNN (Nat.not_lt_zero _)
    | succ NN ih_5 =>
      intro i1 a1 t1 τ1 h1 hz hks ht1 hL1 hNN H locs ls X hl
      refine lv_iload hx hb dX4_tellTo_5 (lv_at hl 4 rfl) ?_
      refine lv_iload_n hx hb dX4_tellTo_7 rfl (lv_at hl 2 rfl) ?_
      refine gn_icmp_ge (tgt := 46) hx hb dX4_tellTo_8 (by decide) (by omega) (by omega) (fun c_8 => ?_) (fun c_8 => ?_)
      ·
        refine lv_iload_n hx hb dX4_tellTo_46 rfl (lv_at hl 2 rfl) ?_
        exact cfin_I (t1) (ht1) (congrArg (fun z => wcat [rdP Z rd ro.2 t1, roP Z ro t n g, landP Z La z]) (by rw [hz, show xm - i1 = 0 by omega]; rfl)) (by rw [hz, show xm - i1 = 0 by omega]; rfl) X dX4_tellTo_47 fin
      ·
        have hk9 : xm - i1 = (xm - (i1 + 1)) + 1 := by omega
        obtain ⟨o1, o2, o3⟩ : zoks (zbA g n) ((xm - (i1 + 1)) + 1) a1 := hk9 ▸ hks
        refine lv_aload_n hx hb dX4_tellTo_11 rfl (lv_at hl 0 rfl) ?_
        refine lv_iload_n hx hb dX4_tellTo_12 rfl (lv_at hl 3 rfl) ?_
        refine dtI_go (w := wcat [rdP Z rd ro.2 t1, roP Z ro t n g]) (wf := wcat [landP Z La τ1]) (W1 := fun _ => wcat [rdP Z rd ro.2 (zpt (zbA g n) a1 t1), roP Z ro t n g, landP Z La τ1]) G X (wsel [0, 1, 2] rfl rfl) (run_V (As := [.int (nI a1)]) (rest := []) (n := 1) G hml hts hl.1 (p_recv G X 0 0 rfl rfl rfl) (k4_placeBehind hE (rd := rd) (ro := ro) (t := t) (q := t1) a1 hS hn (by omega) _) (cwV 1 hts (cg_V ck_237 ck_238 ck_239 ck_240 ck_212) rfl rfl rfl (by decide +kernel) ⟨Nat.le_of_ble_eq_true rfl, Nat.le_of_ble_eq_true rfl⟩) rfl (Nat.le_of_ble_eq_true rfl) dX4_tellTo_13 ⟨Nat.le_refl _, Nat.le_refl _⟩) (fun _ => wback [0, 1, 2] rfl rfl) (fun H locs _ _ X => ?_)
        refine gi_to (a := zen (zbA g n) a1) (zpl_ok o1) ?_
        refine lv_istore (lv' := [(5, .int (nI (zen (zbA g n) a1))), (0, .ref rd.1), (1, .ref La.1), (2, .int (nI xm)), (3, .int (nI a1)), (4, .int (nI i1))]) hx hb dX4_tellTo_16 hl (by decide) rfl (fun ls hl => ?_)
        refine lv_aload_n hx hb dX4_tellTo_18 rfl (lv_at hl 1 rfl) ?_
        refine lv_aload_n hx hb dX4_tellTo_19 rfl (lv_at hl 1 rfl) ?_
        refine lv_iload_n hx hb dX4_tellTo_20 rfl (lv_at hl 4 rfl) ?_
        refine dtI_go (w := wcat [rdP Z rd ro.2 (zpt (zbA g n) a1 t1), roP Z ro t n g]) (wf := wcat [landP Z La τ1]) (W1 := fun _ => wcat [rdP Z rd ro.2 (zpt (zbA g n) a1 t1), roP Z ro t n g, landP Z La τ1]) G X (wsel [0, 1, 2] rfl rfl) (run_V (As := [.int (nI a1)]) (rest := [.ref rd.1]) (n := 1) G hml hts hl.1 (p_recv G X 0 0 rfl rfl rfl) (k4_byteAt hE (rd := rd) (ro := ro) (t := t) (q := zpt (zbA g n) a1 t1) a1 hn (by omega) _) (cwV 1 hts (cg_V ck_161 ck_209 ck_210 ck_211 ck_212) rfl rfl rfl (by decide +kernel) ⟨Nat.le_of_ble_eq_true rfl, Nat.le_of_ble_eq_true rfl⟩) rfl (Nat.le_of_ble_eq_true rfl) dX4_tellTo_21 ⟨Nat.le_refl _, Nat.le_refl _⟩) (fun _ => wback [0, 1, 2] rfl rfl) (fun H locs _ _ X => ?_)
        refine lv_aload_n hx hb dX4_tellTo_24 rfl (lv_at hl 2 rfl) ?_
        refine dtI_go (w := wcat [rdP Z rd ro.2 (zpt (zbA g n) a1 t1), roP Z ro t n g, landP Z La τ1]) (wf := wcat []) (W1 := fun _ => wcat [rdP Z rd ro.2 (zpt (zbA g n) a1 t1), roP Z ro t n g, landP Z La (zitT τ1 (zbA g n a1) (zpt (zbA g n) a1 t1))]) G X (wsel [0, 1, 2] rfl rfl) (run_V (As := [.int (zbA g n a1), .ref La.1]) (rest := []) (n := 2) G hml hts hl.1 (p_recv G X 0 0 rfl rfl rfl) (k4_isTold hE (τ := τ1) (rd := rd) (ro := ro) (t := t) (n := n) (g := g) (zbA g n a1) hL1.1 hL1.2.1 (zpt_lt ht1) _) (cwV 2 hts (cg_V ck_260 ck_261 ck_262 ck_263 ck_212) rfl rfl rfl (by decide +kernel) ⟨Nat.le_of_ble_eq_true rfl, Nat.le_of_ble_eq_true rfl⟩) rfl (Nat.le_of_ble_eq_true rfl) dX4_tellTo_25 ⟨Nat.le_refl _, Nat.le_refl _⟩) (fun _ => wback [0, 1, 2] rfl rfl) (fun H locs _ _ X => ?_)
        refine gb_if_ne (tgt := 37) hx hb dX4_tellTo_28 (by decide) (fun c_28 => ?_) (fun c_28 => ?_)
        ·
          refine lv_iload hx hb dX4_tellTo_37 (lv_at hl 0 rfl) ?_
          refine lv_istore_n (lv' := [(3, .int (nI (zen (zbA g n) a1))), (5, .int (nI (zen (zbA g n) a1))), (0, .ref rd.1), (1, .ref La.1), (2, .int (nI xm)), (4, .int (nI i1))]) hx hb dX4_tellTo_39 rfl hl (by decide) rfl (fun ls hl => ?_)
          refine lv_iinc (v := nI (i1 + 1)) (lv' := [(4, .int (nI (i1 + 1))), (3, .int (nI (zen (zbA g n) a1))), (5, .int (nI (zen (zbA g n) a1))), (0, .ref rd.1), (1, .ref La.1), (2, .int (nI xm))]) hx hb dX4_tellTo_40 hl (k := 5) rfl (zn_inc _) (by decide) rfl (fun ls hl => ?_)
          refine lv_goto (tgt := 5) hx hb dX4_tellTo_43 (by decide) ?_
          refine ih_5 (i1 + 1) (zen (zbA g n) a1) (zpt (zbA g n) a1 t1) (zitT τ1 (zbA g n a1) (zpt (zbA g n) a1 t1)) (by omega) (hz.trans (by rw [hk9]; exact zte_go c_28)) (o3) (zpt_lt ht1) (lOk_it hL1) (by omega) _ _ _ (by exact X) (by exact lv_sub hl [3, 4, 5, 1, 0] rfl)
        ·
          refine lv_sipush (v := (-2000)) hx hb dX4_tellTo_31 (by decide) ?_
          refine lv_iload_n hx hb dX4_tellTo_34 rfl (lv_at hl 4 rfl) ?_
          refine lv_isub hx hb dX4_tellTo_35 ?_
          exact cfin_I (zpt (zbA g n) a1 t1) (zpt_lt ht1) (congrArg (fun z => wcat [rdP Z rd ro.2 (zpt (zbA g n) a1 t1), roP Z ro t n g, landP Z La z]) (by rw [hz, hk9, zte_bad c_28])) (by rw [hz, hk9, zte_bad c_28]; rfl) X dX4_tellTo_36 fin
  refine cut_5 _ 0 0 q τ (Nat.zero_le _) (rfl) (ho) (htl) (hL) (Nat.lt_succ_self _) _ _ _ (by exact X) (by exact lv_sub hl [2, 3, 4, 1, 0] rfl)
set_option maxHeartbeats 4000000 in
set_option maxRecDepth 100000 in
theorem k4_readInto {E : (Nat → Prop) → State → Heap → Prop} (hE : cEok E) {l : Launch} {D : va_G} {Z : Nat → ClassId} {ad av : Nat → Nat} {rd ro : Nat × Nat} {b0 t n : Nat} {g : Nat → Int32} {q : Nat → Nat} {La : LA} {τ : MS} (hS : cStr E ad av) (hn : n ≤ 100) (htl : ztl q) (hL : lOk τ) : dtI E l D Z yX4_readInto (Cond.code yX4_readInto cX4_readInto 4 (some .int) :: cW) { frames := 6, cells := 0, slots := 0, locals := 137 } [.ref rd.1, .ref ro.1, .ref La.1] (wcat [rdP Z rd b0 q, roP Z ro t n g, landP Z La τ]) (S := ((Nat → Nat) × (Nat → Nat))) (fun u => wcat [rdP Z rd ro.2 u.2, roP Z ro t n g, landP Z La (zrdT (zbA g n) n τ u.1)]) (fun u => zrdR (zbA g n) n τ u.1) (fun u => ztl u.1 ∧ ztl u.2) := by
  refine dtI_of hE (cc := cX4_readInto) (maxL := 4) (by decide +kernel) (fun w h => List.mem_cons_of_mem _ h) (Nat.le_of_ble_eq_true rfl) ?_
  intro p e s m args below meth c A Q ls hx hb hml hown hts G X hl fin
  replace hl : lv_has ls 4 [(0, .ref rd.1), (1, .ref ro.1), (2, .ref La.1)] := hl
  refine lv_aload_n hx hb dX4_readInto_0 rfl (lv_at hl 0 rfl) ?_
  refine lv_aload_n hx hb dX4_readInto_1 rfl (lv_at hl 1 rfl) ?_
  refine cg_5 G X 1 0 rfl rfl 1 (by decide) (G.2.2.2.1 _ ck_265) rfl rfl dX4_readInto_2 ?_
  refine cp_4 (ps' := [rdP Z rd ro.2 q, roP Z ro t n g, landP Z La τ]) G X 0 0 rfl rfl 0 (by decide) (G.2.2.2.1 _ ck_159) rfl rfl (ty := .array .int) (by decide +kernel) rfl rfl (Nat.le_of_ble_eq_true rfl) rfl dX4_readInto_5 (fun H locs X => ?_)
  refine lv_aload_n hx hb dX4_readInto_8 rfl (lv_at hl 0 rfl) ?_
  refine dtI_go (w := wcat [rdP Z rd ro.2 q, roP Z ro t n g]) (wf := wcat [landP Z La τ]) (W1 := fun u_9 => wcat [rdP Z rd ro.2 u_9, roP Z ro t n g, landP Z La τ]) G X (wsel [0, 1, 2] rfl rfl) (run_V (As := []) (rest := []) (n := 0) G hml hts hl.1 (p_recv G X 0 0 rfl rfl rfl) (k4_statementsInForm hE (rd := rd) (ro := ro) (t := t) (q := q) hS hn htl _) (cwV 0 hts (cg_V ck_241 ck_266 ck_267 ck_268 ck_212) rfl rfl rfl (by decide +kernel) ⟨Nat.le_of_ble_eq_true rfl, Nat.le_of_ble_eq_true rfl⟩) rfl (Nat.le_of_ble_eq_true rfl) dX4_readInto_9 ⟨Nat.le_refl _, Nat.le_refl _⟩) (fun u_9 => wback [0, 1, 2] rfl rfl) (fun H locs u_9 hu_9 X => ?_)
  refine lv_istore_n (lv' := [(3, .int (zsf (zbA g n) n 100 0 0)), (0, .ref rd.1), (1, .ref ro.1), (2, .ref La.1)]) hx hb dX4_readInto_12 rfl hl (by decide) rfl (fun ls hl => ?_)
  refine lv_iload_n hx hb dX4_readInto_13 rfl (lv_at hl 0 rfl) ?_
  refine lv_if_ge (tgt := 21) hx hb dX4_readInto_14 (by decide) (fun c_14 => ?_) (fun c_14 => ?_)
  ·
    obtain ⟨m9, hm9, e9, o9⟩ := zsf_oks hn 100 0 0 (by decide) (fun _ => rfl) (by decide) c_14
    have hM9 := zrdM_is e9 hm9
    rw [Nat.zero_add] at e9
    refine lv_aload_n hx hb dX4_readInto_21 rfl (lv_at hl 1 rfl) ?_
    refine lv_aload_n hx hb dX4_readInto_22 rfl (lv_at hl 3 rfl) ?_
    refine lv_iload_n hx hb dX4_readInto_23 rfl (lv_at hl 0 rfl) ?_
    refine gi_to (a := m9) (e9) ?_
    refine dtI_go (w := wcat [rdP Z rd ro.2 u_9, roP Z ro t n g, landP Z La τ]) (wf := wcat []) (W1 := fun u_24 => wcat [rdP Z rd ro.2 u_24, roP Z ro t n g, landP Z La ((zte (zbA g n) m9 0 u_9 τ).2)]) G X (wsel [0, 1, 2] rfl rfl) (run_V (As := [.ref La.1, .int (nI m9)]) (rest := []) (n := 2) G hml hts hl.1 (p_recv G X 0 0 rfl rfl rfl) (k4_tellTo hE (rd := rd) (ro := ro) (t := t) m9 hS hn hu_9 hL o9 hm9 _) (cwV 2 hts (cg_V ck_264 ck_269 ck_270 ck_271 ck_212) rfl rfl rfl (by decide +kernel) ⟨Nat.le_of_ble_eq_true rfl, Nat.le_of_ble_eq_true rfl⟩) rfl (Nat.le_of_ble_eq_true rfl) dX4_readInto_24 ⟨Nat.le_refl _, Nat.le_refl _⟩) (fun u_24 => wback [0, 1, 2] rfl rfl) (fun H locs u_24 hu_24 X => ?_)
    exact cfin_I ((u_9, u_24)) (⟨hu_9, hu_24⟩) (congrArg (fun z => wcat [rdP Z rd ro.2 u_24, roP Z ro t n g, landP Z La z]) (by unfold zrdT; rw [if_pos c_14, hM9])) (by unfold zrdR; rw [if_pos c_14, hM9]) X dX4_readInto_27 fin
  ·
    refine lv_iload_n hx hb dX4_readInto_17 rfl (lv_at hl 0 rfl) ?_
    refine lv_goto (tgt := 27) hx hb dX4_readInto_18 (by decide) ?_
    exact cfin_I ((u_9, u_9)) (⟨hu_9, hu_9⟩) (congrArg (fun z => wcat [rdP Z rd ro.2 u_9, roP Z ro t n g, landP Z La z]) ((if_neg c_14).symm)) ((if_neg c_14).symm) X dX4_readInto_27 fin
