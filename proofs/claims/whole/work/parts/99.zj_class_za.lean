set_option maxHeartbeats 4000000 in
set_option maxRecDepth 100000 in
theorem k8_init {E : (Nat → Prop) → State → Heap → Prop} (hE : cEok E) {l : Launch} {D : va_G} {Z : Nat → ClassId} {ob : Nat}  : dtV E l D Z yX8_init (Cond.code yX8_init cX8_init 1 none :: cW) { frames := 1, cells := 2, slots := 10, locals := 20 } [.ref ob] (wcat [[(ob, Sum.inr (8, [.null, .null]))]]) (S := (Nat × Nat)) (fun u => wcat [thP Z (ob, u.1, u.2) (fun _ => 0) (fun _ => 0)]) (fun _ => True) := by
  refine dtVi_of hE (cc := cX8_init) (maxL := 1) rfl (by decide +kernel) (fun w h => List.mem_cons_of_mem _ h) (Nat.le_of_ble_eq_true rfl) ?_
  intro p e s m args below meth c A Q ls hin2 hx hb hml hown hts G X hl fin
  replace hl : lv_has ls 1 [(0, .ref ob)] := hl
  refine lv_aload_n hx hb dX8_init_0 rfl (lv_at hl 0 rfl) ?_
  refine cx_obj (hml.trans hl.1.symm) G (G.2.2.2.1 _ ck_291) (Nat.le_of_ble_eq_true rfl) (Nat.le_of_ble_eq_true rfl) dX8_init_1 ?_
  refine lv_aload_n hx hb dX8_init_4 rfl (lv_at hl 0 rfl) ?_
  refine lv_iconst (v := nI 5) hx hb dX8_init_5 (by decide) ?_
  refine cx_newl (n := 5) G X (by decide) (by decide) (by decide) dX8_init_6 (fun q_6 H X => ?_)
  refine cx_putF (ps' := [[(ob, Sum.inr (8, [.ref q_6, .null]))], [(q_6, Sum.inl (Z 1, 5, Sum.inr (Sum.inl (fun _ => 0))))]]) (ci := 8) (C := RX8) (T := TX8) (N := 2) rfl cbase_8 tyX8 tyX8_ok nmX8 hin2 G X 0 0 rfl rfl 0 (by decide) (G.2.2.2.1 _ ck_27) rfl rfl rfl (ty := .array .long) (by decide +kernel) rfl rfl (Nat.le_of_ble_eq_true rfl) rfl dX8_init_8 (fun H locs X => ?_)
  refine lv_aload_n hx hb dX8_init_11 rfl (lv_at hl 0 rfl) ?_
  refine lv_iconst (v := nI 5) hx hb dX8_init_12 (by decide) ?_
  refine cx_newl (n := 5) G X (by decide) (by decide) (by decide) dX8_init_13 (fun q_13 H X => ?_)
  refine cx_putF (ps' := [[(ob, Sum.inr (8, [.ref q_6, .ref q_13]))], [(q_6, Sum.inl (Z 1, 5, Sum.inr (Sum.inl (fun _ => 0))))], [(q_13, Sum.inl (Z 1, 5, Sum.inr (Sum.inl (fun _ => 0))))]]) (ci := 8) (C := RX8) (T := TX8) (N := 2) rfl cbase_8 tyX8 tyX8_ok nmX8 hin2 G X 0 0 rfl rfl 1 (by decide) (G.2.2.2.1 _ ck_293) rfl rfl rfl (ty := .array .long) (by decide +kernel) rfl rfl (Nat.le_of_ble_eq_true rfl) rfl dX8_init_15 (fun H locs X => ?_)
  refine W.widen (k := 2) (n := 10) (Nat.le_of_ble_eq_true rfl) (Nat.le_of_ble_eq_true rfl) ?_
  exact cfin_V ((q_6, q_13)) (trivial) (by rw [thP_0]; rfl) X dX8_init_18 fin
set_option maxHeartbeats 4000000 in
set_option maxRecDepth 100000 in
theorem k4_init {E : (Nat → Prop) → State → Heap → Prop} (hE : cEok E) {l : Launch} {D : va_G} {Z : Nat → ClassId} {ob : Nat}  : dtV E l D Z yX4_init (Cond.code yX4_init cX4_init 1 none :: cW) { frames := 1, cells := 2, slots := 3, locals := 20 } [.ref ob] (wcat [[(ob, Sum.inr (4, [.null, .null]))]]) (S := (Nat × Nat)) (fun u => wcat [rdP Z (ob, u.2) u.1 (fun _ => 0)]) (fun _ => True) := by
  refine dtVi_of hE (cc := cX4_init) (maxL := 1) rfl (by decide +kernel) (fun w h => List.mem_cons_of_mem _ h) (Nat.le_of_ble_eq_true rfl) ?_
  intro p e s m args below meth c A Q ls hin2 hx hb hml hown hts G X hl fin
  replace hl : lv_has ls 1 [(0, .ref ob)] := hl
  refine lv_aload_n hx hb dX4_init_0 rfl (lv_at hl 0 rfl) ?_
  refine cx_obj (hml.trans hl.1.symm) G (G.2.2.2.1 _ ck_158) (Nat.le_of_ble_eq_true rfl) (Nat.le_of_ble_eq_true rfl) dX4_init_1 ?_
  refine lv_aload_n hx hb dX4_init_4 rfl (lv_at hl 0 rfl) ?_
  refine lv_iconst (v := nI 0) hx hb dX4_init_5 (by decide) ?_
  refine cx_newi (n := 0) G X (by decide) (by decide) (by decide) dX4_init_6 (fun q_6 H X => ?_)
  refine cr_put (ps' := [[(ob, Sum.inr (4, [.ref q_6, .null]))], [(q_6, Sum.inl (Z 0, 0, Sum.inl (fun _ => 0)))]]) (ci := 4) (C := RX4) (T := TX4) (N := 2) rfl cbase_4 tyX4 tyX4_ok nmX4 G X 0 0 rfl rfl 0 (by decide) (G.2.2.2.1 _ ck_159) rfl rfl (ty := .array .int) (by decide +kernel) rfl rfl (Nat.le_of_ble_eq_true rfl) rfl dX4_init_8 (fun H locs X => ?_)
  refine lv_aload_n hx hb dX4_init_11 rfl (lv_at hl 0 rfl) ?_
  refine lv_iconst (v := nI 3) hx hb dX4_init_12 (by decide) ?_
  refine cx_newi (n := 3) G X (by decide) (by decide) (by decide) dX4_init_13 (fun q_13 H X => ?_)
  refine cx_putF (ps' := [[(ob, Sum.inr (4, [.ref q_6, .ref q_13]))], [(q_6, Sum.inl (Z 0, 0, Sum.inl (fun _ => 0)))], [(q_13, Sum.inl (Z 0, 3, Sum.inl (fun _ => 0)))]]) (ci := 4) (C := RX4) (T := TX4) (N := 2) rfl cbase_4 tyX4 tyX4_ok nmX4 hin2 G X 0 0 rfl rfl 1 (by decide) (G.2.2.2.1 _ ck_160) rfl rfl rfl (ty := .array .int) (by decide +kernel) rfl rfl (Nat.le_of_ble_eq_true rfl) rfl dX4_init_15 (fun H locs X => ?_)
  replace X : wH D vwCl A s.heap H locs (wcat [[(ob, Sum.inr (4, [.ref q_6, .ref q_13]))], [(q_13, Sum.inl (Z 0, 3, Sum.inl (fun _ => 0)))]]) := wh_left (wh_perm (wsel (qs := [[(ob, Sum.inr (4, [.ref q_6, .ref q_13]))], [(q_13, Sum.inl (Z 0, 3, Sum.inl (fun _ => 0)))]]) (rest := [[(q_6, Sum.inl (Z 0, 0, Sum.inl (fun _ => 0)))]]) [0, 2, 1] rfl rfl) X)
  refine W.widen (k := 2) (n := 3) (Nat.le_of_ble_eq_true rfl) (Nat.le_of_ble_eq_true rfl) ?_
  exact cfin_V ((q_6, q_13)) (trivial) (by rw [rdP_0]; rfl) X dX4_init_18 fin
