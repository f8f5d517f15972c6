set_option maxHeartbeats 4000000 in
set_option maxRecDepth 100000 in
theorem k4_byteAt {E : (Nat → Prop) → State → Heap → Prop} (hE : cEok E) {l : Launch} {D : va_G} {Z : Nat → ClassId} {rd ro : Nat × Nat} {t n : Nat} {g : Nat → Int32} {q : Nat → Nat} (xa : Nat) (hn : n ≤ 100) (ha : xa < 2147483648) : dtI E l D Z yX4_byteAt (Cond.code yX4_byteAt cX4_byteAt 2 (some .int) :: cW) { frames := 0, cells := 0, slots := 0, locals := 0 } [.ref rd.1, .int (nI xa)] (wcat [rdP Z rd ro.2 q, roP Z ro t n g]) (S := Unit) (fun _ => wcat [rdP Z rd ro.2 q, roP Z ro t n g]) (fun _ => zbA g n xa) (fun _ => True) := by
  refine dtI_of hE (cc := cX4_byteAt) (maxL := 2) (by decide +kernel) (fun w h => List.mem_cons_of_mem _ h) (Nat.le_of_ble_eq_true rfl) ?_
  intro p e s m args below meth c A Q ls hx hb hml hown hts G X hl fin
  replace hl : lv_has ls 2 [(0, .ref rd.1), (1, .int (nI xa))] := hl
  refine lv_iload_n hx hb dX4_byteAt_0 rfl (lv_at hl 1 rfl) ?_
  refine gn_if_lt (tgt := 22) hx hb dX4_byteAt_1 (by decide) (by omega) ?_
  refine lv_iload_n hx hb dX4_byteAt_4 rfl (lv_at hl 1 rfl) ?_
  refine lv_aload_n hx hb dX4_byteAt_5 rfl (lv_at hl 0 rfl) ?_
  refine cg_4 G X 0 0 rfl rfl 0 (by decide) (G.2.2.2.1 _ ck_159) rfl rfl dX4_byteAt_6 ?_
  refine cr_alen 0 G X 1 1 (ty := .int) rfl rfl rfl dX4_byteAt_9 ?_
  refine gn_icmp_ge (tgt := 22) hx hb dX4_byteAt_10 (by decide) (by omega) (by omega) (fun c_10 => ?_) (fun c_10 => ?_)
  ·
    refine lv_iconst (v := nI 0) hx hb dX4_byteAt_22 (by decide) ?_
    exact cfin_I (()) (trivial) (rfl) (by first | exact (if_pos (by omega)).symm | exact (if_neg (by omega)).symm) X dX4_byteAt_23 fin
  ·
    refine lv_aload_n hx hb dX4_byteAt_13 rfl (lv_at hl 0 rfl) ?_
    refine cg_4 G X 0 0 rfl rfl 0 (by decide) (G.2.2.2.1 _ ck_159) rfl rfl dX4_byteAt_14 ?_
    refine lv_iload_n hx hb dX4_byteAt_17 rfl (lv_at hl 1 rfl) ?_
    refine cr_ialdr G X 1 1 rfl rfl (by omega) (by omega) dX4_byteAt_18 ?_
    refine lv_goto (tgt := 23) hx hb dX4_byteAt_19 (by decide) ?_
    exact cfin_I (()) (trivial) (rfl) (by first | exact (if_pos (by omega)).symm | exact (if_neg (by omega)).symm) X dX4_byteAt_23 fin
set_option maxHeartbeats 4000000 in
set_option maxRecDepth 100000 in
theorem k4_isDigit {E : (Nat → Prop) → State → Heap → Prop} (hE : cEok E) {l : Launch} {D : va_G} {Z : Nat → ClassId}  (xv : Int32)  : dtI E l D Z yX4_isDigit (Cond.code yX4_isDigit cX4_isDigit 1 (some .boolean) :: cW) { frames := 0, cells := 0, slots := 0, locals := 0 } [.int xv] (wcat []) (S := Unit) (fun _ => wcat []) (fun _ => if zdgP xv then 1 else 0) (fun _ => True) := by
  refine dtZ_of hE (cc := cX4_isDigit) (maxL := 1) (hnar := fun _ _ => zb_ite) (by decide +kernel) (fun w h => List.mem_cons_of_mem _ h) (Nat.le_of_ble_eq_true rfl) ?_
  intro p e s m args below meth c A Q ls hx hb hml hown hts G X hl fin
  replace hl : lv_has ls 1 [(0, .int xv)] := hl
  refine lv_iload_n hx hb dX4_isDigit_0 rfl (lv_at hl 0 rfl) ?_
  refine lv_bipush (v := nI 48) hx hb dX4_isDigit_1 (by decide) ?_
  refine lv_icmp_lt (tgt := 16) hx hb dX4_isDigit_3 (by decide) (fun c_3 => ?_) (fun c_3 => ?_)
  ·
    refine lv_iconst (v := nI 0) hx hb dX4_isDigit_16 (by decide) ?_
    exact cfin_I (()) (trivial) (rfl) (by first | exact zb_f (zdgP_1 c_3) | exact zb_f (zdgP_2 c_9) | exact zb_t (zdgP_t c_3 c_9)) X dX4_isDigit_17 fin
  ·
    refine lv_iload_n hx hb dX4_isDigit_6 rfl (lv_at hl 0 rfl) ?_
    refine lv_bipush (v := nI 57) hx hb dX4_isDigit_7 (by decide) ?_
    refine lv_icmp_gt (tgt := 16) hx hb dX4_isDigit_9 (by decide) (fun c_9 => ?_) (fun c_9 => ?_)
    ·
      refine lv_iconst (v := nI 0) hx hb dX4_isDigit_16 (by decide) ?_
      exact cfin_I (()) (trivial) (rfl) (by first | exact zb_f (zdgP_1 c_3) | exact zb_f (zdgP_2 c_9) | exact zb_t (zdgP_t c_3 c_9)) X dX4_isDigit_17 fin
    ·
      refine lv_iconst (v := nI 1) hx hb dX4_isDigit_12 (by decide) ?_
      refine lv_goto (tgt := 17) hx hb dX4_isDigit_13 (by decide) ?_
      exact cfin_I (()) (trivial) (rfl) (by first | exact zb_f (zdgP_1 c_3) | exact zb_f (zdgP_2 c_9) | exact zb_t (zdgP_t c_3 c_9)) X dX4_isDigit_17 fin
set_option maxHeartbeats 4000000 in
set_option maxRecDepth 100000 in
theorem k4_digitsAt {E : (Nat → Prop) → State → Heap → Prop} (hE : cEok E) {l : Launch} {D : va_G} {Z : Nat → ClassId} {rd ro : Nat × Nat} {t n : Nat} {g : Nat → Int32} {q : Nat → Nat} (xa : Nat) (xm : Nat) (hn : n ≤ 100) (ha : xa < 100000) (hm : xm < 1000) : dtI E l D Z yX4_digitsAt (Cond.code yX4_digitsAt cX4_digitsAt 5 (some .int) :: cW) { frames := 1, cells := 0, slots := 0, locals := 21 } [.ref rd.1, .int (nI xa), .int (nI xm)] (wcat [rdP Z rd ro.2 q, roP Z ro t n g]) (S := Unit) (fun _ => wcat [rdP Z rd ro.2 q, roP Z ro t n g]) (fun _ => nI (zdgA (zbA g n) xa xm)) (fun _ => True) := by
  refine dtI_of hE (cc := cX4_digitsAt) (maxL := 5) (by decide +kernel) (fun w h => List.mem_cons_of_mem _ h) (Nat.le_of_ble_eq_true rfl) ?_
  intro p e s m args below meth c A Q ls hx hb hml hown hts G X hl fin
  replace hl : lv_has ls 5 [(0, .ref rd.1), (1, .int (nI xa)), (2, .int (nI xm))] := hl
  refine lv_aload_n hx hb dX4_digitsAt_0 rfl (lv_at hl 0 rfl) ?_
  refine lv_iload_n hx hb dX4_digitsAt_1 rfl (lv_at hl 1 rfl) ?_
  refine dtI_go (w := wcat [rdP Z rd ro.2 q, roP Z ro t n g]) (wf := wcat []) (W1 := fun _ => wcat [rdP Z rd ro.2 q, roP Z ro t n g]) G X (wsel [0, 1] rfl rfl) (run_V (As := [.int (nI xa)]) (rest := []) (n := 1) G hml hts hl.1 (p_recv G X 0 0 rfl rfl rfl) (k4_byteAt hE (rd := rd) (ro := ro) (t := t) (q := q) xa hn (by omega) _) (cwV 1 hts (cg_V ck_161 ck_209 ck_210 ck_211 ck_212) rfl rfl rfl (by decide +kernel) ⟨Nat.le_of_ble_eq_true rfl, Nat.le_of_ble_eq_true rfl⟩) rfl (Nat.le_of_ble_eq_true rfl) dX4_digitsAt_2 ⟨Nat.le_refl _, Nat.le_refl _⟩) (fun _ => wback [0, 1] rfl rfl) (fun H locs _ _ X => ?_)
  refine lv_bipush (v := nI 48) hx hb dX4_digitsAt_5 (by decide) ?_
  refine lv_icmp_ne (tgt := 12) hx hb dX4_digitsAt_7 (by decide) (fun c_7 => ?_) (fun c_7 => ?_)
  ·
    refine lv_iconst (v := nI 0) hx hb dX4_digitsAt_12 (by decide) ?_
    refine lv_istore_n (lv' := [(3, .int (nI 0)), (0, .ref rd.1), (1, .int (nI xa)), (2, .int (nI xm))]) hx hb dX4_digitsAt_13 rfl hl (by decide) rfl (fun ls hl => ?_)
    refine lv_iconst (v := nI 0) hx hb dX4_digitsAt_14 (by decide) ?_
    refine lv_istore (lv' := [(4, .int (nI 0)), (3, .int (nI 0)), (0, .ref rd.1), (1, .int (nI xa)), (2, .int (nI xm))]) hx hb dX4_digitsAt_15 hl (by decide) rfl (fun ls hl => ?_)
    have cut_17 : ∀ (NN : Nat) (i1 : Nat) (h1 : i1 ≤ xm) (hz : zcnt (zbA g n) xa xm = i1 + zcnt (zbA g n) (xa + i1) (xm - i1)), xm - i1 < NN → ∀ (H : Heap) (locs : List Loc) (ls : Array Slot), wH D vwCl A s.heap H locs (wcat [rdP Z rd ro.2 q, roP Z ro t n g]) → lv_has ls 5 [(0, .ref rd.1), (1, .int (nI xa)), (2, .int (nI xm)), (3, .int (nI i1)), (4, .int (nI i1))] → W p l e { frames := 1, cells := 0, slots := 0, locals := 21 } s m args below meth c H locs 0 0 Q (F0 m 17 ls []) := by
      intro NN
      induction NN with
      | zero => intro i1 h1 hz hNN; exact absurd hNN (Nat.not_lt_zero _)
      | succ NN ih_17 =>
        intro i1 h1 hz hNN H locs ls X hl
        refine lv_iload hx hb dX4_digitsAt_17 (lv_at hl 4 rfl) ?_
        refine lv_iload_n hx hb dX4_digitsAt_19 rfl (lv_at hl 2 rfl) ?_
        refine gn_icmp_ge (tgt := 46) hx hb dX4_digitsAt_20 (by decide) (by omega) (by omega) (fun c_20 => ?_) (fun c_20 => ?_)
        ·
          refine lv_iload_n hx hb dX4_digitsAt_46 rfl (lv_at hl 3 rfl) ?_
          exact cfin_I (()) (trivial) (rfl) (by unfold zdgA; rw [if_neg c_7, hz]; first | (rw [show xm - i1 = 0 by omega]; rfl) | rw [zcnt_n c_34, Nat.add_zero]) X dX4_digitsAt_47 fin
        ·
          refine lv_aload_n hx hb dX4_digitsAt_23 rfl (lv_at hl 0 rfl) ?_
          refine lv_iload_n hx hb dX4_digitsAt_24 rfl (lv_at hl 1 rfl) ?_
          refine lv_iload hx hb dX4_digitsAt_25 (lv_at hl 4 rfl) ?_
          refine gn_iadd hx hb dX4_digitsAt_27  ?_
          refine dtI_go (w := wcat [rdP Z rd ro.2 q, roP Z ro t n g]) (wf := wcat []) (W1 := fun _ => wcat [rdP Z rd ro.2 q, roP Z ro t n g]) G X (wsel [0, 1] rfl rfl) (run_V (As := [.int (nI (xa + i1))]) (rest := []) (n := 1) G hml hts hl.1 (p_recv G X 0 0 rfl rfl rfl) (k4_byteAt hE (rd := rd) (ro := ro) (t := t) (q := q) (xa + i1) hn (by omega) _) (cwV 1 hts (cg_V ck_161 ck_209 ck_210 ck_211 ck_212) rfl rfl rfl (by decide +kernel) ⟨Nat.le_of_ble_eq_true rfl, Nat.le_of_ble_eq_true rfl⟩) rfl (Nat.le_of_ble_eq_true rfl) dX4_digitsAt_28 ⟨Nat.le_refl _, Nat.le_refl _⟩) (fun _ => wback [0, 1] rfl rfl) (fun H locs _ _ X => ?_)
          refine dtI_go (w := wcat []) (wf := wcat [rdP Z rd ro.2 q, roP Z ro t n g]) (W1 := fun _ => wcat [rdP Z rd ro.2 q, roP Z ro t n g]) G X (wsel [0, 1] rfl rfl) (run_S (As := [.int (zbA g n (xa + i1))]) (rest := []) (n := 1) G hml hts hl.1 (k4_isDigit hE (zbA g n (xa + i1)) _) (va_cwS 1 hts (cg_S ck_207 ck_213 ck_214 ck_212) rfl rfl rfl (by decide +kernel) ⟨Nat.le_of_ble_eq_true rfl, Nat.le_of_ble_eq_true rfl⟩) rfl (Nat.le_of_ble_eq_true rfl) dX4_digitsAt_31 ⟨Nat.le_refl _, Nat.le_refl _⟩) (fun _ => wback [0, 1] rfl rfl) (fun H locs _ _ X => ?_)
          refine gb_if_eq (tgt := 46) hx hb dX4_digitsAt_34 (by decide) (fun c_34 => ?_) (fun c_34 => ?_)
          ·
            refine lv_iload_n hx hb dX4_digitsAt_46 rfl (lv_at hl 3 rfl) ?_
            exact cfin_I (()) (trivial) (rfl) (by unfold zdgA; rw [if_neg c_7, hz]; first | (rw [show xm - i1 = 0 by omega]; rfl) | rw [zcnt_n c_34, Nat.add_zero]) X dX4_digitsAt_47 fin
          ·
            refine lv_iinc (v := nI (i1 + 1)) (lv' := [(3, .int (nI (i1 + 1))), (0, .ref rd.1), (1, .int (nI xa)), (2, .int (nI xm)), (4, .int (nI i1))]) hx hb dX4_digitsAt_37 hl (k := 3) rfl (zn_inc _) (by decide) rfl (fun ls hl => ?_)
            refine lv_iinc (v := nI (i1 + 1)) (lv' := [(4, .int (nI (i1 + 1))), (3, .int (nI (i1 + 1))), (0, .ref rd.1), (1, .int (nI xa)), (2, .int (nI xm))]) hx hb dX4_digitsAt_40 hl (k := 4) rfl (zn_inc _) (by decide) rfl (fun ls hl => ?_)
            refine lv_goto (tgt := 17) hx hb dX4_digitsAt_43 (by decide) ?_
            refine ih_17 (i1 + 1) (by omega) (by rw [hz, show xm - i1 = (xm - (i1 + 1)) + 1 by omega, zcnt_y c_34, show xa + i1 + 1 = xa + (i1 + 1) by omega]; omega) (by omega) _ _ _ (by exact X) (by exact lv_sub hl [2, 3, 4, 1, 0] rfl)
    refine cut_17 _ 0 (Nat.zero_le _) (by rw [Nat.zero_add]; rfl) (Nat.lt_succ_self _) _ _ _ (by exact X) (by exact lv_sub hl [2, 3, 4, 1, 0] rfl)
  ·
    refine lv_iconst (v := nI 1) hx hb dX4_digitsAt_10 (by decide) ?_
    exact cfin_I (()) (trivial) (rfl) (by unfold zdgA; rw [if_pos c_7]) X dX4_digitsAt_11 fin
set_option maxHeartbeats 4000000 in
set_option maxRecDepth 100000 in
theorem k4_numberAt {E : (Nat → Prop) → State → Heap → Prop} (hE : cEok E) {l : Launch} {D : va_G} {Z : Nat → ClassId} {rd ro : Nat × Nat} {t n : Nat} {g : Nat → Int32} {q : Nat → Nat} (xa : Nat) (xk : Nat) (hn : n ≤ 100) (ha : xa < 100000) (hk : xk < 1000) : dtI E l D Z yX4_numberAt (Cond.code yX4_numberAt cX4_numberAt 5 (some .int) :: cW) { frames := 1, cells := 0, slots := 0, locals := 21 } [.ref rd.1, .int (nI xa), .int (nI xk)] (wcat [rdP Z rd ro.2 q, roP Z ro t n g]) (S := Unit) (fun _ => wcat [rdP Z rd ro.2 q, roP Z ro t n g]) (fun _ => zval (zbA g n) xa xk) (fun _ => True) := by
  refine dtI_of hE (cc := cX4_numberAt) (maxL := 5) (by decide +kernel) (fun w h => List.mem_cons_of_mem _ h) (Nat.le_of_ble_eq_true rfl) ?_
  intro p e s m args below meth c A Q ls hx hb hml hown hts G X hl fin
  replace hl : lv_has ls 5 [(0, .ref rd.1), (1, .int (nI xa)), (2, .int (nI xk))] := hl
  refine lv_iconst (v := nI 0) hx hb dX4_numberAt_0 (by decide) ?_
  refine lv_istore_n (lv' := [(3, .int (nI 0)), (0, .ref rd.1), (1, .int (nI xa)), (2, .int (nI xk))]) hx hb dX4_numberAt_1 rfl hl (by decide) rfl (fun ls hl => ?_)
  refine lv_iconst (v := nI 0) hx hb dX4_numberAt_2 (by decide) ?_
  refine lv_istore (lv' := [(4, .int (nI 0)), (3, .int (nI 0)), (0, .ref rd.1), (1, .int (nI xa)), (2, .int (nI xk))]) hx hb dX4_numberAt_3 hl (by decide) rfl (fun ls hl => ?_)
  have cut_5 : ∀ (NN : Nat) (i1 : Nat) (h1 : i1 ≤ xk), xk - i1 < NN → ∀ (H : Heap) (locs : List Loc) (ls : Array Slot), wH D vwCl A s.heap H locs (wcat [rdP Z rd ro.2 q, roP Z ro t n g]) → lv_has ls 5 [(0, .ref rd.1), (1, .int (nI xa)), (2, .int (nI xk)), (3, .int (zval (zbA g n) xa i1)), (4, .int (nI i1))] → W p l e { frames := 1, cells := 0, slots := 0, locals := 21 } s m args below meth c H locs 0 0 Q (F0 m 5 ls []) := by
    intro NN
    induction NN with
    | zero => intro i1 h1 hNN; exact absurd hNN (Nat.not_lt_zero _)
    | succ NN ih_5 =>
      intro i1 h1 hNN H locs ls X hl
      refine lv_iload hx hb dX4_numberAt_5 (lv_at hl 4 rfl) ?_
      refine lv_iload_n hx hb dX4_numberAt_7 rfl (lv_at hl 2 rfl) ?_
      refine gn_icmp_ge (tgt := 34) hx hb dX4_numberAt_8 (by decide) (by omega) (by omega) (fun c_8 => ?_) (fun c_8 => ?_)
      ·
        refine lv_iload_n hx hb dX4_numberAt_34 rfl (lv_at hl 3 rfl) ?_
        exact cfin_I (()) (trivial) (rfl) (by rw [show i1 = xk by omega]) X dX4_numberAt_35 fin
      ·
        refine lv_iload_n hx hb dX4_numberAt_11 rfl (lv_at hl 3 rfl) ?_
        refine lv_bipush (v := nI 10) hx hb dX4_numberAt_12 (by decide) ?_
        refine lv_imul hx hb dX4_numberAt_14 ?_
        refine lv_aload_n hx hb dX4_numberAt_15 rfl (lv_at hl 0 rfl) ?_
        refine lv_iload_n hx hb dX4_numberAt_16 rfl (lv_at hl 1 rfl) ?_
        refine lv_iload hx hb dX4_numberAt_17 (lv_at hl 4 rfl) ?_
        refine gn_iadd hx hb dX4_numberAt_19  ?_
        refine dtI_go (w := wcat [rdP Z rd ro.2 q, roP Z ro t n g]) (wf := wcat []) (W1 := fun _ => wcat [rdP Z rd ro.2 q, roP Z ro t n g]) G X (wsel [0, 1] rfl rfl) (run_V (As := [.int (nI (xa + i1))]) (rest := [.int ((zval (zbA g n) xa i1) * nI 10)]) (n := 1) G hml hts hl.1 (p_recv G X 0 0 rfl rfl rfl) (k4_byteAt hE (rd := rd) (ro := ro) (t := t) (q := q) (xa + i1) hn (by omega) _) (cwV 1 hts (cg_V ck_161 ck_209 ck_210 ck_211 ck_212) rfl rfl rfl (by decide +kernel) ⟨Nat.le_of_ble_eq_true rfl, Nat.le_of_ble_eq_true rfl⟩) rfl (Nat.le_of_ble_eq_true rfl) dX4_numberAt_20 ⟨Nat.le_refl _, Nat.le_refl _⟩) (fun _ => wback [0, 1] rfl rfl) (fun H locs _ _ X => ?_)
        refine lv_iadd hx hb dX4_numberAt_23 ?_
        refine lv_bipush (v := nI 48) hx hb dX4_numberAt_24 (by decide) ?_
        refine lv_isub hx hb dX4_numberAt_26 ?_
        refine lv_istore_n (lv' := [(3, .int ((((zval (zbA g n) xa i1) * nI 10) + (zbA g n (xa + i1))) - nI 48)), (0, .ref rd.1), (1, .int (nI xa)), (2, .int (nI xk)), (4, .int (nI i1))]) hx hb dX4_numberAt_27 rfl hl (by decide) rfl (fun ls hl => ?_)
        refine lv_iinc (v := nI (i1 + 1)) (lv' := [(4, .int (nI (i1 + 1))), (3, .int ((((zval (zbA g n) xa i1) * nI 10) + (zbA g n (xa + i1))) - nI 48)), (0, .ref rd.1), (1, .int (nI xa)), (2, .int (nI xk))]) hx hb dX4_numberAt_28 hl (k := 4) rfl (zn_inc _) (by decide) rfl (fun ls hl => ?_)
        refine lv_goto (tgt := 5) hx hb dX4_numberAt_31 (by decide) ?_
        refine ih_5 (i1 + 1) (by omega) (by omega) _ _ _ (by exact X) (by exact lv_sub hl [2, 3, 4, 1, 0] rfl)
  refine cut_5 _ 0 (Nat.zero_le _) (Nat.lt_succ_self _) _ _ _ (by exact X) (by exact lv_sub hl [2, 3, 4, 1, 0] rfl)
set_option maxHeartbeats 4000000 in
set_option maxRecDepth 100000 in
theorem k4_lengthAt {E : (Nat → Prop) → State → Heap → Prop} (hE : cEok E) {l : Launch} {D : va_G} {Z : Nat → ClassId} {rd ro : Nat × Nat} {t n : Nat} {g : Nat → Int32} {q : Nat → Nat} (xa : Nat) (xw : Nat) (hn : n ≤ 100) (ha : xa < 100000) (hw : xw = 100 ∨ xw = 110 ∨ xw = 32 ∨ xw = 59) : dtI E l D Z yX4_lengthAt (Cond.code yX4_lengthAt cX4_lengthAt 3 (some .int) :: cW) { frames := 2, cells := 0, slots := 0, locals := 45 } [.ref rd.1, .int (nI xa), .int (nI xw)] (wcat [rdP Z rd ro.2 q, roP Z ro t n g]) (S := Unit) (fun _ => wcat [rdP Z rd ro.2 q, roP Z ro t n g]) (fun _ => nI (zln (zbA g n) xa xw)) (fun _ => True) := by
  refine dtI_of hE (cc := cX4_lengthAt) (maxL := 3) (by decide +kernel) (fun w h => List.mem_cons_of_mem _ h) (Nat.le_of_ble_eq_true rfl) ?_
  intro p e s m args below meth c A Q ls hx hb hml hown hts G X hl fin
  replace hl : lv_has ls 3 [(0, .ref rd.1), (1, .int (nI xa)), (2, .int (nI xw))] := hl
  refine lv_iload_n hx hb dX4_lengthAt_0 rfl (lv_at hl 2 rfl) ?_
  by_cases t_1_100 : xw = 100
  · refine gi_eq t_1_100 ?_
    refine lv_lookup (tgt := 28) (off := 27) hx hb dX4_lengthAt_1 (by decide) (by decide +kernel) (by decide) ?_
    refine lv_aload_n hx hb dX4_lengthAt_28 rfl (lv_at hl 0 rfl) ?_
    refine lv_iload_n hx hb dX4_lengthAt_29 rfl (lv_at hl 1 rfl) ?_
    refine lv_iconst (v := nI 1) hx hb dX4_lengthAt_30 (by decide) ?_
    refine dtI_go (w := wcat [rdP Z rd ro.2 q, roP Z ro t n g]) (wf := wcat []) (W1 := fun _ => wcat [rdP Z rd ro.2 q, roP Z ro t n g]) G X (wsel [0, 1] rfl rfl) (run_V (As := [.int (nI xa), .int (nI 1)]) (rest := []) (n := 2) G hml hts hl.1 (p_recv G X 0 0 rfl rfl rfl) (k4_digitsAt hE (rd := rd) (ro := ro) (t := t) (q := q) xa 1 hn (by omega) (by omega) _) (cwV 2 hts (cg_V ck_208 ck_216 ck_217 ck_218 ck_212) rfl rfl rfl (by decide +kernel) ⟨Nat.le_of_ble_eq_true rfl, Nat.le_of_ble_eq_true rfl⟩) rfl (Nat.le_of_ble_eq_true rfl) dX4_lengthAt_31 ⟨Nat.le_refl _, Nat.le_refl _⟩) (fun _ => wback [0, 1] rfl rfl) (fun H locs _ _ X => ?_)
    exact cfin_I (()) (trivial) (rfl) (by unfold zln; rw [if_pos t_1_100]) X dX4_lengthAt_34 fin
  by_cases t_1_110 : xw = 110
  · refine gi_eq t_1_110 ?_
    refine lv_lookup (tgt := 35) (off := 34) hx hb dX4_lengthAt_1 (by decide) (by decide +kernel) (by decide) ?_
    refine lv_aload_n hx hb dX4_lengthAt_35 rfl (lv_at hl 0 rfl) ?_
    refine lv_iload_n hx hb dX4_lengthAt_36 rfl (lv_at hl 1 rfl) ?_
    refine lv_iconst (v := nI 5) hx hb dX4_lengthAt_37 (by decide) ?_
    refine dtI_go (w := wcat [rdP Z rd ro.2 q, roP Z ro t n g]) (wf := wcat []) (W1 := fun _ => wcat [rdP Z rd ro.2 q, roP Z ro t n g]) G X (wsel [0, 1] rfl rfl) (run_V (As := [.int (nI xa), .int (nI 5)]) (rest := []) (n := 2) G hml hts hl.1 (p_recv G X 0 0 rfl rfl rfl) (k4_digitsAt hE (rd := rd) (ro := ro) (t := t) (q := q) xa 5 hn (by omega) (by omega) _) (cwV 2 hts (cg_V ck_208 ck_216 ck_217 ck_218 ck_212) rfl rfl rfl (by decide +kernel) ⟨Nat.le_of_ble_eq_true rfl, Nat.le_of_ble_eq_true rfl⟩) rfl (Nat.le_of_ble_eq_true rfl) dX4_lengthAt_38 ⟨Nat.le_refl _, Nat.le_refl _⟩) (fun _ => wback [0, 1] rfl rfl) (fun H locs _ _ X => ?_)
    exact cfin_I (()) (trivial) (rfl) (by unfold zln; rw [if_neg t_1_100, if_pos t_1_110]) X dX4_lengthAt_41 fin
  have t_1_d : xw = 32 ∨ xw = 59 := by omega
  rcases t_1_d with t_1_d | t_1_d
  · refine gi_eq (a := 32) t_1_d ?_
    refine lv_lookup (tgt := 42) (off := 41) hx hb dX4_lengthAt_1 (by decide) (by decide +kernel) (by decide) ?_
    refine lv_aload_n hx hb dX4_lengthAt_42 rfl (lv_at hl 0 rfl) ?_
    refine lv_iload_n hx hb dX4_lengthAt_43 rfl (lv_at hl 1 rfl) ?_
    refine dtI_go (w := wcat [rdP Z rd ro.2 q, roP Z ro t n g]) (wf := wcat []) (W1 := fun _ => wcat [rdP Z rd ro.2 q, roP Z ro t n g]) G X (wsel [0, 1] rfl rfl) (run_V (As := [.int (nI xa)]) (rest := []) (n := 1) G hml hts hl.1 (p_recv G X 0 0 rfl rfl rfl) (k4_byteAt hE (rd := rd) (ro := ro) (t := t) (q := q) xa hn (by omega) _) (cwV 1 hts (cg_V ck_161 ck_209 ck_210 ck_211 ck_212) rfl rfl rfl (by decide +kernel) ⟨Nat.le_of_ble_eq_true rfl, Nat.le_of_ble_eq_true rfl⟩) rfl (Nat.le_of_ble_eq_true rfl) dX4_lengthAt_44 ⟨Nat.le_refl _, Nat.le_refl _⟩) (fun _ => wback [0, 1] rfl rfl) (fun H locs _ _ X => ?_)
    refine lv_iload_n hx hb dX4_lengthAt_47 rfl (lv_at hl 2 rfl) ?_
    refine lv_icmp_ne (tgt := 55) hx hb dX4_lengthAt_48 (by decide) (fun c_48 => ?_) (fun c_48 => ?_)
    ·
      refine lv_iconst (v := nI 0) hx hb dX4_lengthAt_55 (by decide) ?_
      exact cfin_I (()) (trivial) (rfl) (by unfold zln; rw [if_neg t_1_100, if_neg t_1_110]; first | rw [if_pos c_48] | rw [if_neg c_48]) X dX4_lengthAt_56 fin
    ·
      refine lv_iconst (v := nI 1) hx hb dX4_lengthAt_51 (by decide) ?_
      refine lv_goto (tgt := 56) hx hb dX4_lengthAt_52 (by decide) ?_
      exact cfin_I (()) (trivial) (rfl) (by unfold zln; rw [if_neg t_1_100, if_neg t_1_110]; first | rw [if_pos c_48] | rw [if_neg c_48]) X dX4_lengthAt_56 fin
  · refine gi_eq (a := 59) t_1_d ?_
    refine lv_lookup (tgt := 42) (off := 41) hx hb dX4_lengthAt_1 (by decide) (by decide +kernel) (by decide) ?_
    refine lv_aload_n hx hb dX4_lengthAt_42 rfl (lv_at hl 0 rfl) ?_
    refine lv_iload_n hx hb dX4_lengthAt_43 rfl (lv_at hl 1 rfl) ?_
    refine dtI_go (w := wcat [rdP Z rd ro.2 q, roP Z ro t n g]) (wf := wcat []) (W1 := fun _ => wcat [rdP Z rd ro.2 q, roP Z ro t n g]) G X (wsel [0, 1] rfl rfl) (run_V (As := [.int (nI xa)]) (rest := []) (n := 1) G hml hts hl.1 (p_recv G X 0 0 rfl rfl rfl) (k4_byteAt hE (rd := rd) (ro := ro) (t := t) (q := q) xa hn (by omega) _) (cwV 1 hts (cg_V ck_161 ck_209 ck_210 ck_211 ck_212) rfl rfl rfl (by decide +kernel) ⟨Nat.le_of_ble_eq_true rfl, Nat.le_of_ble_eq_true rfl⟩) rfl (Nat.le_of_ble_eq_true rfl) dX4_lengthAt_44 ⟨Nat.le_refl _, Nat.le_refl _⟩) (fun _ => wback [0, 1] rfl rfl) (fun H locs _ _ X => ?_)
    refine lv_iload_n hx hb dX4_lengthAt_47 rfl (lv_at hl 2 rfl) ?_
    refine lv_icmp_ne (tgt := 55) hx hb dX4_lengthAt_48 (by decide) (fun c_48 => ?_) (fun c_48 => ?_)
    ·
      refine lv_iconst (v := nI 0) hx hb dX4_lengthAt_55 (by decide) ?_
      exact cfin_I (()) (trivial) (rfl) (by unfold zln; rw [if_neg t_1_100, if_neg t_1_110]; first | rw [if_pos c_48] | rw [if_neg c_48]) X dX4_lengthAt_56 fin
    ·
      refine lv_iconst (v := nI 1) hx hb dX4_lengthAt_51 (by decide) ?_
      refine lv_goto (tgt := 56) hx hb dX4_lengthAt_52 (by decide) ?_
      exact cfin_I (()) (trivial) (rfl) (by unfold zln; rw [if_neg t_1_100, if_neg t_1_110]; first | rw [if_pos c_48] | rw [if_neg c_48]) X dX4_lengthAt_56 fin
set_option maxHeartbeats 4000000 in
set_option maxRecDepth 100000 in
theorem k4_formOf {E : (Nat → Prop) → State → Heap → Prop} (hE : cEok E) {l : Launch} {D : va_G} {Z : Nat → ClassId} {ad av : Nat → Nat} (xl : Int32) (hS : cStr E ad av) : dtQ E l D Z yX4_formOf (Cond.code yX4_formOf cX4_formOf 1 (some (.object "java/lang/String")) :: cW) { frames := 0, cells := 0, slots := 0, locals := 0 } [.int xl] (wcat []) (S := Unit) (fun _ => wcat []) (fun _ => some (ad (zfm xl))) (fun _ => True) := by
  refine dtQ_of hE (cc := cX4_formOf) (maxL := 1) (Or.inl ⟨_, rfl⟩) (by decide +kernel) (fun w h => List.mem_cons_of_mem _ h) (Nat.le_of_ble_eq_true rfl) ?_
  intro p e s m args below meth c A Q ls hx hb hml hown hts G X hl fin
  replace hl : lv_has ls 1 [(0, .int xl)] := hl
  have hst := hS _ _ _ G.2.2.2.2.2.2.1
  refine lv_iload_n hx hb dX4_formOf_0 rfl (lv_at hl 0 rfl) ?_
  by_cases t_1_97 : xl = nI 97
  · refine gi_raw t_1_97 ?_
    refine lv_lookup (tgt := 72) (off := 71) hx hb dX4_formOf_1 (by decide) (by decide +kernel) (by decide) ?_
    refine va_ldcS hx hb hown hst.2.2.2.2.2.2.2.1 dX4_formOf_72 ?_
    exact cfin_Q (x := some (ad 4)) (()) (trivial) (rfl) (by unfold zfm; first | rw [if_pos t_1_97] | (rw [if_neg t_1_97]; first | rw [if_pos t_1_98] | (rw [if_neg t_1_98]; first | rw [if_pos t_1_109] | (rw [if_neg t_1_109]; first | rw [if_pos t_1_114] | (rw [if_neg t_1_114]; first | rw [if_pos t_1_115] | (rw [if_neg t_1_115]; first | rw [if_pos t_1_119] | rw [if_neg t_1_119])))))) X dX4_formOf_74 fin
  by_cases t_1_98 : xl = nI 98
  · refine gi_raw t_1_98 ?_
    refine lv_lookup (tgt := 69) (off := 68) hx hb dX4_formOf_1 (by decide) (by decide +kernel) (by decide) ?_
    refine va_ldcS hx hb hown hst.2.2.2.2.2.2.1 dX4_formOf_69 ?_
    exact cfin_Q (x := some (ad 3)) (()) (trivial) (rfl) (by unfold zfm; first | rw [if_pos t_1_97] | (rw [if_neg t_1_97]; first | rw [if_pos t_1_98] | (rw [if_neg t_1_98]; first | rw [if_pos t_1_109] | (rw [if_neg t_1_109]; first | rw [if_pos t_1_114] | (rw [if_neg t_1_114]; first | rw [if_pos t_1_115] | (rw [if_neg t_1_115]; first | rw [if_pos t_1_119] | rw [if_neg t_1_119])))))) X dX4_formOf_71 fin
  by_cases t_1_109 : xl = nI 109
  · refine gi_raw t_1_109 ?_
    refine lv_lookup (tgt := 60) (off := 59) hx hb dX4_formOf_1 (by decide) (by decide +kernel) (by decide) ?_
    refine va_ldcS hx hb hown hst.2.2.2.1 dX4_formOf_60 ?_
    exact cfin_Q (x := some (ad 0)) (()) (trivial) (rfl) (by unfold zfm; first | rw [if_pos t_1_97] | (rw [if_neg t_1_97]; first | rw [if_pos t_1_98] | (rw [if_neg t_1_98]; first | rw [if_pos t_1_109] | (rw [if_neg t_1_109]; first | rw [if_pos t_1_114] | (rw [if_neg t_1_114]; first | rw [if_pos t_1_115] | (rw [if_neg t_1_115]; first | rw [if_pos t_1_119] | rw [if_neg t_1_119])))))) X dX4_formOf_62 fin
  by_cases t_1_114 : xl = nI 114
  · refine gi_raw t_1_114 ?_
    refine lv_lookup (tgt := 60) (off := 59) hx hb dX4_formOf_1 (by decide) (by decide +kernel) (by decide) ?_
    refine va_ldcS hx hb hown hst.2.2.2.1 dX4_formOf_60 ?_
    exact cfin_Q (x := some (ad 0)) (()) (trivial) (rfl) (by unfold zfm; first | rw [if_pos t_1_97] | (rw [if_neg t_1_97]; first | rw [if_pos t_1_98] | (rw [if_neg t_1_98]; first | rw [if_pos t_1_109] | (rw [if_neg t_1_109]; first | rw [if_pos t_1_114] | (rw [if_neg t_1_114]; first | rw [if_pos t_1_115] | (rw [if_neg t_1_115]; first | rw [if_pos t_1_119] | rw [if_neg t_1_119])))))) X dX4_formOf_62 fin
  by_cases t_1_115 : xl = nI 115
  · refine gi_raw t_1_115 ?_
    refine lv_lookup (tgt := 66) (off := 65) hx hb dX4_formOf_1 (by decide) (by decide +kernel) (by decide) ?_
    refine va_ldcS hx hb hown hst.2.2.2.2.2.1 dX4_formOf_66 ?_
    exact cfin_Q (x := some (ad 2)) (()) (trivial) (rfl) (by unfold zfm; first | rw [if_pos t_1_97] | (rw [if_neg t_1_97]; first | rw [if_pos t_1_98] | (rw [if_neg t_1_98]; first | rw [if_pos t_1_109] | (rw [if_neg t_1_109]; first | rw [if_pos t_1_114] | (rw [if_neg t_1_114]; first | rw [if_pos t_1_115] | (rw [if_neg t_1_115]; first | rw [if_pos t_1_119] | rw [if_neg t_1_119])))))) X dX4_formOf_68 fin
  by_cases t_1_119 : xl = nI 119
  · refine gi_raw t_1_119 ?_
    refine lv_lookup (tgt := 63) (off := 62) hx hb dX4_formOf_1 (by decide) (by decide +kernel) (by decide) ?_
    refine va_ldcS hx hb hown hst.2.2.2.2.1 dX4_formOf_63 ?_
    exact cfin_Q (x := some (ad 1)) (()) (trivial) (rfl) (by unfold zfm; first | rw [if_pos t_1_97] | (rw [if_neg t_1_97]; first | rw [if_pos t_1_98] | (rw [if_neg t_1_98]; first | rw [if_pos t_1_109] | (rw [if_neg t_1_109]; first | rw [if_pos t_1_114] | (rw [if_neg t_1_114]; first | rw [if_pos t_1_115] | (rw [if_neg t_1_115]; first | rw [if_pos t_1_119] | rw [if_neg t_1_119])))))) X dX4_formOf_65 fin
  refine lv_lookup (tgt := 75) (off := 74) hx hb dX4_formOf_1 (by decide) ((lv_osw t_1_97 (by decide)).trans ((lv_osw t_1_98 (by decide)).trans ((lv_osw t_1_109 (by decide)).trans ((lv_osw t_1_114 (by decide)).trans ((lv_osw t_1_115 (by decide)).trans ((lv_osw t_1_119 (by decide)).trans rfl)))))) (by decide) ?_
  refine va_ldcS hx hb hown hst.2.2.2.2.2.2.2.2 dX4_formOf_75 ?_
  exact cfin_Q (x := some (ad 5)) (()) (trivial) (rfl) (by unfold zfm; first | rw [if_pos t_1_97] | (rw [if_neg t_1_97]; first | rw [if_pos t_1_98] | (rw [if_neg t_1_98]; first | rw [if_pos t_1_109] | (rw [if_neg t_1_109]; first | rw [if_pos t_1_114] | (rw [if_neg t_1_114]; first | rw [if_pos t_1_115] | (rw [if_neg t_1_115]; first | rw [if_pos t_1_119] | rw [if_neg t_1_119])))))) X dX4_formOf_77 fin
