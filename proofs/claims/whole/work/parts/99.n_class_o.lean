set_option maxHeartbeats 4000000 in
set_option maxRecDepth 100000 in
theorem k11_image {E : (Nat → Prop) → State → Heap → Prop} (hE : cEok E) {l : Launch} {D : va_G} {Z : Nat → ClassId} {an : Nat × Nat × Nat} {x0 x3 x6 x7 x8 x9 hi : Nat} {sb sh : Nat → Nat} {La Li : LA} {τ τi : MS} {ta tb : Nat × Nat × Nat} {F K F5 K5 : Nat → Nat}  : dtI E l D Z yX11_image (Cond.code yX11_image cX11_image 1 (some .int) :: cW) { frames := 2, cells := 0, slots := 0, locals := 62 } [.ref an.1] (wcat [anP Z an x0 La.1 Li.1 x3 ta.1 tb.1 x6 x7 x8 x9 hi sb sh, landP Z La τ, landP Z Li τi, thP Z ta F K, thP Z tb F5 K5]) (S := Unit) (fun _ => wcat [anP Z an x0 La.1 Li.1 x3 ta.1 tb.1 x6 x7 x8 x9 1 sb sh, landP Z La τ, landP Z Li (zlike τi τ), thP Z ta F K, thP Z tb F K5]) (fun _ => nI (τ.1 4)) (fun _ => True) := by
  refine dtI_of hE (cc := cX11_image) (maxL := 1) (by decide +kernel) (fun w h => List.mem_cons_of_mem _ h) (Nat.le_of_ble_eq_true rfl) ?_
  intro p e s m args below meth c A Q ls hx hb hml hown hts G X hl fin
  replace hl : lv_has ls 1 [(0, .ref an.1)] := hl
  refine lv_aload_n hx hb dX11_image_0 rfl (lv_at hl 0 rfl) ?_
  refine cg_11 G X 0 0 rfl rfl 2 (by decide) (G.2.2.2.1 _ ck_502) rfl rfl dX11_image_1 ?_
  refine lv_aload_n hx hb dX11_image_4 rfl (lv_at hl 0 rfl) ?_
  refine cg_11 G X 0 0 rfl rfl 1 (by decide) (G.2.2.2.1 _ ck_500) rfl rfl dX11_image_5 ?_
  refine dtV_go (w := wcat [landP Z Li τi, landP Z La τ]) (wf := wcat [anP Z an x0 La.1 Li.1 x3 ta.1 tb.1 x6 x7 x8 x9 hi sb sh, thP Z ta F K, thP Z tb F5 K5]) (W1 := fun _ => wcat [anP Z an x0 La.1 Li.1 x3 ta.1 tb.1 x6 x7 x8 x9 hi sb sh, landP Z La τ, landP Z Li (zlike τi τ), thP Z ta F K, thP Z tb F5 K5]) G X (wsel [2, 1, 0, 3, 4] rfl rfl) (run_V (As := [.ref La.1]) (rest := []) (n := 1) G hml hts hl.1 (p_recv G X 2 0 rfl rfl rfl) (k2_becomeLike hE  _) (cwV 1 hts (cg_V ck_81 ck_545 ck_546 ck_547 ck_79) rfl rfl rfl (by decide +kernel) ⟨Nat.le_of_ble_eq_true rfl, Nat.le_of_ble_eq_true rfl⟩) rfl (Nat.le_of_ble_eq_true rfl) dX11_image_8 ⟨Nat.le_refl _, Nat.le_refl _⟩) (fun _ => wback [2, 1, 0, 3, 4] rfl rfl) (fun H locs _ _ X => ?_)
  refine lv_aload_n hx hb dX11_image_11 rfl (lv_at hl 0 rfl) ?_
  refine cg_11 G X 0 0 rfl rfl 5 (by decide) (G.2.2.2.1 _ ck_506) rfl rfl dX11_image_12 ?_
  refine lv_aload_n hx hb dX11_image_15 rfl (lv_at hl 0 rfl) ?_
  refine cg_11 G X 0 0 rfl rfl 4 (by decide) (G.2.2.2.1 _ ck_505) rfl rfl dX11_image_16 ?_
  refine dtV_go (w := wcat [thP Z tb F5 K5, thP Z ta F K]) (wf := wcat [anP Z an x0 La.1 Li.1 x3 ta.1 tb.1 x6 x7 x8 x9 hi sb sh, landP Z La τ, landP Z Li (zlike τi τ)]) (W1 := fun _ => wcat [anP Z an x0 La.1 Li.1 x3 ta.1 tb.1 x6 x7 x8 x9 hi sb sh, landP Z La τ, landP Z Li (zlike τi τ), thP Z ta F K, thP Z tb F K5]) G X (wsel [4, 3, 0, 1, 2] rfl rfl) (run_V (As := [.ref ta.1]) (rest := []) (n := 1) G hml hts hl.1 (p_recv G X 4 0 rfl rfl rfl) (k8_becomeLike hE  _) (cwV 1 hts (cg_V ck_299 ck_637 ck_367 ck_368 ck_35) rfl rfl rfl (by decide +kernel) ⟨Nat.le_of_ble_eq_true rfl, Nat.le_of_ble_eq_true rfl⟩) rfl (Nat.le_of_ble_eq_true rfl) dX11_image_19 ⟨Nat.le_refl _, Nat.le_refl _⟩) (fun _ => wback [4, 3, 0, 1, 2] rfl rfl) (fun H locs _ _ X => ?_)
  refine lv_aload_n hx hb dX11_image_22 rfl (lv_at hl 0 rfl) ?_
  refine lv_iconst (v := nI 1) hx hb dX11_image_23 (by decide) ?_
  refine cp_11 (ps' := [anP Z an x0 La.1 Li.1 x3 ta.1 tb.1 x6 x7 x8 x9 1 sb sh, landP Z La τ, landP Z Li (zlike τi τ), thP Z ta F K, thP Z tb F K5]) G X 0 0 rfl rfl 12 (by decide) (G.2.2.2.1 _ ck_519) rfl rfl (ty := .boolean) (by decide +kernel) (zb_nar (by omega)) (zb_fit (by omega)) (Nat.le_of_ble_eq_true rfl) rfl dX11_image_24 (fun H locs X => ?_)
  refine lv_aload_n hx hb dX11_image_27 rfl (lv_at hl 0 rfl) ?_
  refine cg_11 G X 0 0 rfl rfl 1 (by decide) (G.2.2.2.1 _ ck_500) rfl rfl dX11_image_28 ?_
  refine cg_2 G X 1 0 rfl rfl 4 (by decide) (G.2.2.2.1 _ ck_612) rfl rfl dX11_image_31 ?_
  exact cfin_I (()) (trivial) (rfl) (rfl) X dX11_image_34 fin
set_option maxHeartbeats 4000000 in
set_option maxRecDepth 100000 in
theorem k11_restore {E : (Nat → Prop) → State → Heap → Prop} (hE : cEok E) {l : Launch} {D : va_G} {Z : Nat → ClassId} {an : Nat × Nat × Nat} {x0 x3 x6 x7 x8 x9 hi : Nat} {sb sh : Nat → Nat} {La Li : LA} {τ τi : MS} {ta tb : Nat × Nat × Nat} {F K F5 K5 : Nat → Nat} (hhi : hi < 2) (hokL : mOk (zlike τ τi)) (hWL : zWok ((zlike τ τi).2 27)) (hmzL : mZ (zlike τ τi)) : dtI E l D Z yX11_restore (Cond.code yX11_restore cX11_restore 1 (some .int) :: cW) { frames := 3, cells := 0, slots := 0, locals := 69 } [.ref an.1] (wcat [anP Z an x0 La.1 Li.1 x3 ta.1 tb.1 x6 x7 x8 x9 hi sb sh, landP Z La τ, landP Z Li τi, thP Z ta F K, thP Z tb F5 K5]) (S := Unit) (fun _ => wcat [anP Z an x0 La.1 Li.1 x3 ta.1 tb.1 x6 x7 x8 x9 hi sb sh, landP Z La (if hi = 0 then τ else zwork (zlike τ τi)), landP Z Li τi, thP Z ta (if hi = 0 then F else F5) K, thP Z tb F5 K5]) (fun _ => if hi = 0 then -3 else nI (τi.1 4)) (fun _ => True) := by
  refine dtI_of hE (cc := cX11_restore) (maxL := 1) (by decide +kernel) (fun w h => List.mem_cons_of_mem _ h) (Nat.le_of_ble_eq_true rfl) ?_
  intro p e s m args below meth c A Q ls hx hb hml hown hts G X hl fin
  replace hl : lv_has ls 1 [(0, .ref an.1)] := hl
  refine lv_aload_n hx hb dX11_restore_0 rfl (lv_at hl 0 rfl) ?_
  refine cg_11 G X 0 0 rfl rfl 12 (by decide) (G.2.2.2.1 _ ck_519) rfl rfl dX11_restore_1 ?_
  refine gn_if_ne (tgt := 10) hx hb dX11_restore_4 (by decide) (by omega) (fun c_4 => ?_) (fun c_4 => ?_)
  ·
    refine lv_aload_n hx hb dX11_restore_10 rfl (lv_at hl 0 rfl) ?_
    refine cg_11 G X 0 0 rfl rfl 1 (by decide) (G.2.2.2.1 _ ck_500) rfl rfl dX11_restore_11 ?_
    refine lv_aload_n hx hb dX11_restore_14 rfl (lv_at hl 0 rfl) ?_
    refine cg_11 G X 0 0 rfl rfl 2 (by decide) (G.2.2.2.1 _ ck_502) rfl rfl dX11_restore_15 ?_
    refine dtV_go (w := wcat [landP Z La τ, landP Z Li τi]) (wf := wcat [anP Z an x0 La.1 Li.1 x3 ta.1 tb.1 x6 x7 x8 x9 hi sb sh, thP Z ta F K, thP Z tb F5 K5]) (W1 := fun _ => wcat [anP Z an x0 La.1 Li.1 x3 ta.1 tb.1 x6 x7 x8 x9 hi sb sh, landP Z La (zlike τ τi), landP Z Li τi, thP Z ta F K, thP Z tb F5 K5]) G X (wsel [1, 2, 0, 3, 4] rfl rfl) (run_V (As := [.ref Li.1]) (rest := []) (n := 1) G hml hts hl.1 (p_recv G X 1 0 rfl rfl rfl) (k2_becomeLike hE  _) (cwV 1 hts (cg_V ck_81 ck_545 ck_546 ck_547 ck_79) rfl rfl rfl (by decide +kernel) ⟨Nat.le_of_ble_eq_true rfl, Nat.le_of_ble_eq_true rfl⟩) rfl (Nat.le_of_ble_eq_true rfl) dX11_restore_18 ⟨Nat.le_refl _, Nat.le_refl _⟩) (fun _ => wback [1, 2, 0, 3, 4] rfl rfl) (fun H locs _ _ X => ?_)
    refine lv_aload_n hx hb dX11_restore_21 rfl (lv_at hl 0 rfl) ?_
    refine cg_11 G X 0 0 rfl rfl 1 (by decide) (G.2.2.2.1 _ ck_500) rfl rfl dX11_restore_22 ?_
    refine dtV_go (w := wcat [landP Z La (zlike τ τi)]) (wf := wcat [anP Z an x0 La.1 Li.1 x3 ta.1 tb.1 x6 x7 x8 x9 hi sb sh, landP Z Li τi, thP Z ta F K, thP Z tb F5 K5]) (W1 := fun _ => wcat [anP Z an x0 La.1 Li.1 x3 ta.1 tb.1 x6 x7 x8 x9 hi sb sh, landP Z La (zwork (zlike τ τi)), landP Z Li τi, thP Z ta F K, thP Z tb F5 K5]) G X (wsel [1, 0, 2, 3, 4] rfl rfl) (run_V (As := []) (rest := []) (n := 0) G hml hts hl.1 (p_recv G X 1 0 rfl rfl rfl) (k2_workOut hE (τ := (zlike τ τi)) hokL hWL hmzL _) (cwV 0 hts (cg_V ck_141 ck_551 ck_552 ck_553 ck_79) rfl rfl rfl (by decide +kernel) ⟨Nat.le_of_ble_eq_true rfl, Nat.le_of_ble_eq_true rfl⟩) rfl (Nat.le_of_ble_eq_true rfl) dX11_restore_25 ⟨Nat.le_refl _, Nat.le_refl _⟩) (fun _ => wback [1, 0, 2, 3, 4] rfl rfl) (fun H locs _ _ X => ?_)
    refine lv_aload_n hx hb dX11_restore_28 rfl (lv_at hl 0 rfl) ?_
    refine cg_11 G X 0 0 rfl rfl 4 (by decide) (G.2.2.2.1 _ ck_505) rfl rfl dX11_restore_29 ?_
    refine lv_aload_n hx hb dX11_restore_32 rfl (lv_at hl 0 rfl) ?_
    refine cg_11 G X 0 0 rfl rfl 5 (by decide) (G.2.2.2.1 _ ck_506) rfl rfl dX11_restore_33 ?_
    refine dtV_go (w := wcat [thP Z ta F K, thP Z tb F5 K5]) (wf := wcat [anP Z an x0 La.1 Li.1 x3 ta.1 tb.1 x6 x7 x8 x9 hi sb sh, landP Z La (zwork (zlike τ τi)), landP Z Li τi]) (W1 := fun _ => wcat [anP Z an x0 La.1 Li.1 x3 ta.1 tb.1 x6 x7 x8 x9 hi sb sh, landP Z La (zwork (zlike τ τi)), landP Z Li τi, thP Z ta F5 K, thP Z tb F5 K5]) G X (wsel [3, 4, 0, 1, 2] rfl rfl) (run_V (As := [.ref tb.1]) (rest := []) (n := 1) G hml hts hl.1 (p_recv G X 3 0 rfl rfl rfl) (k8_becomeLike hE  _) (cwV 1 hts (cg_V ck_299 ck_637 ck_367 ck_368 ck_35) rfl rfl rfl (by decide +kernel) ⟨Nat.le_of_ble_eq_true rfl, Nat.le_of_ble_eq_true rfl⟩) rfl (Nat.le_of_ble_eq_true rfl) dX11_restore_36 ⟨Nat.le_refl _, Nat.le_refl _⟩) (fun _ => wback [3, 4, 0, 1, 2] rfl rfl) (fun H locs _ _ X => ?_)
    refine lv_aload_n hx hb dX11_restore_39 rfl (lv_at hl 0 rfl) ?_
    refine cg_11 G X 0 0 rfl rfl 1 (by decide) (G.2.2.2.1 _ ck_500) rfl rfl dX11_restore_40 ?_
    refine cg_2 G X 1 0 rfl rfl 4 (by decide) (G.2.2.2.1 _ ck_612) rfl rfl dX11_restore_43 ?_
    exact cfin_I (()) (trivial) (by rw [if_neg (show ¬ hi = 0 by omega), if_neg (show ¬ hi = 0 by omega)]) ((if_neg (by omega)).symm) X dX11_restore_46 fin
  ·
    refine lv_bipush (v := (-3)) hx hb dX11_restore_7 (by decide) ?_
    exact cfin_I (()) (trivial) (by rw [if_pos (show hi = 0 by omega), if_pos (show hi = 0 by omega)]) ((if_pos (by omega)).symm) X dX11_restore_9 fin
set_option maxHeartbeats 4000000 in
set_option maxRecDepth 100000 in
theorem k5_hasPlace {E : (Nat → Prop) → State → Heap → Prop} (hE : cEok E) {l : Launch} {D : va_G} {Z : Nat → ClassId} {ro : Nat × Nat} {t n : Nat} {g : Nat → Int32} (x : Int32) (hn : n ≤ 100) : dtI E l D Z yX5_hasPlace (Cond.code yX5_hasPlace cX5_hasPlace 2 (some .boolean) :: cW) { frames := 0, cells := 0, slots := 0, locals := 0 } [.ref ro.1, .int x] (wcat [roP Z ro t n g]) (S := Unit) (fun _ => wcat [roP Z ro t n g]) (fun _ => if zir x n then 1 else 0) (fun _ => True) := by
  refine dtZ_of hE (cc := cX5_hasPlace) (maxL := 2) (hnar := fun _ _ => zb_ite) (by decide +kernel) (fun w h => List.mem_cons_of_mem _ h) (Nat.le_of_ble_eq_true rfl) ?_
  intro p e s m args below meth c A Q ls hx hb hml hown hts G X hl fin
  replace hl : lv_has ls 2 [(0, .ref ro.1), (1, .int x)] := hl
  refine lv_iload_n hx hb dX5_hasPlace_0 rfl (lv_at hl 1 rfl) ?_
  refine lv_if_lt (tgt := 17) hx hb dX5_hasPlace_1 (by decide) (fun c_1 => ?_) (fun c_1 => ?_)
  ·
    refine lv_iconst (v := nI 0) hx hb dX5_hasPlace_17 (by decide) ?_
    exact cfin_I (()) (trivial) (rfl) (by first | exact zb_t (zir_t (by omega) c_1 c_10) | exact zb_f (zir_f1 c_1) | exact zb_f (zir_f2 (by omega) c_10)) X dX5_hasPlace_18 fin
  ·
    refine lv_iload_n hx hb dX5_hasPlace_4 rfl (lv_at hl 1 rfl) ?_
    refine lv_aload_n hx hb dX5_hasPlace_5 rfl (lv_at hl 0 rfl) ?_
    refine cg_5 G X 0 0 rfl rfl 1 (by decide) (G.2.2.2.1 _ ck_276) rfl rfl dX5_hasPlace_6 ?_
    refine cr_alen 0 G X 0 1 (ty := .int) rfl rfl rfl dX5_hasPlace_9 ?_
    refine lv_icmp_ge (tgt := 17) hx hb dX5_hasPlace_10 (by decide) (fun c_10 => ?_) (fun c_10 => ?_)
    ·
      refine lv_iconst (v := nI 0) hx hb dX5_hasPlace_17 (by decide) ?_
      exact cfin_I (()) (trivial) (rfl) (by first | exact zb_t (zir_t (by omega) c_1 c_10) | exact zb_f (zir_f1 c_1) | exact zb_f (zir_f2 (by omega) c_10)) X dX5_hasPlace_18 fin
    ·
      refine lv_iconst (v := nI 1) hx hb dX5_hasPlace_13 (by decide) ?_
      refine lv_goto (tgt := 18) hx hb dX5_hasPlace_14 (by decide) ?_
      exact cfin_I (()) (trivial) (rfl) (by first | exact zb_t (zir_t (by omega) c_1 c_10) | exact zb_f (zir_f1 c_1) | exact zb_f (zir_f2 (by omega) c_10)) X dX5_hasPlace_18 fin
set_option maxHeartbeats 4000000 in
set_option maxRecDepth 100000 in
theorem k5_leastNumber {E : (Nat → Prop) → State → Heap → Prop} (hE : cEok E) {l : Launch} {D : va_G} {Z : Nat → ClassId} {ro : Nat × Nat} {t n : Nat} {g : Nat → Int32} (ht3 : t < 3) : dtI E l D Z yX5_leastNumber (Cond.code yX5_leastNumber cX5_leastNumber 1 (some .int) :: cW) { frames := 0, cells := 0, slots := 0, locals := 0 } [.ref ro.1] (wcat [roP Z ro t n g]) (S := Unit) (fun _ => wcat [roP Z ro t n g]) (fun _ => zlst t) (fun _ => True) := by
  refine dtI_of hE (cc := cX5_leastNumber) (maxL := 1) (by decide +kernel) (fun w h => List.mem_cons_of_mem _ h) (Nat.le_of_ble_eq_true rfl) ?_
  intro p e s m args below meth c A Q ls hx hb hml hown hts G X hl fin
  replace hl : lv_has ls 1 [(0, .ref ro.1)] := hl
  refine lv_aload_n hx hb dX5_leastNumber_0 rfl (lv_at hl 0 rfl) ?_
  refine cg_5 G X 0 0 rfl rfl 0 (by decide) (G.2.2.2.1 _ ck_275) rfl rfl dX5_leastNumber_1 ?_
  by_cases t_4_0 : t = 0
  · refine gi_eq t_4_0 ?_
    refine lv_lookup (tgt := 32) (off := 28) hx hb dX5_leastNumber_4 (by decide) (by decide +kernel) (by decide) ?_
    refine lv_bipush (v := (-128)) hx hb dX5_leastNumber_32 (by decide) ?_
    exact cfin_I (()) (trivial) (rfl) (by unfold zlst; first | exact (if_pos t_4_0).symm | (rw [if_neg t_4_0]; exact (if_pos t_4_1).symm) | (rw [if_neg t_4_0, if_neg t_4_1])) X dX5_leastNumber_34 fin
  by_cases t_4_1 : t = 1
  · refine gi_eq t_4_1 ?_
    refine lv_lookup (tgt := 35) (off := 31) hx hb dX5_leastNumber_4 (by decide) (by decide +kernel) (by decide) ?_
    refine lv_sipush (v := (-32768)) hx hb dX5_leastNumber_35 (by decide) ?_
    exact cfin_I (()) (trivial) (rfl) (by unfold zlst; first | exact (if_pos t_4_0).symm | (rw [if_neg t_4_0]; exact (if_pos t_4_1).symm) | (rw [if_neg t_4_0, if_neg t_4_1])) X dX5_leastNumber_38 fin
  have t_4_d : t = 2 := by omega
  · refine gi_eq (a := 2) t_4_d ?_
    refine lv_lookup (tgt := 39) (off := 35) hx hb dX5_leastNumber_4 (by decide) (by decide +kernel) (by decide) ?_
    refine lv_ldc (v := (-2147483648)) hx hb G.2.2.1 (G.2.2.2.1 _ ck_281) dX5_leastNumber_39 ?_
    exact cfin_I (()) (trivial) (rfl) (by unfold zlst; first | exact (if_pos t_4_0).symm | (rw [if_neg t_4_0]; exact (if_pos t_4_1).symm) | (rw [if_neg t_4_0, if_neg t_4_1])) X dX5_leastNumber_41 fin
set_option maxHeartbeats 4000000 in
set_option maxRecDepth 100000 in
theorem k5_lowestBits {E : (Nat → Prop) → State → Heap → Prop} (hE : cEok E) {l : Launch} {D : va_G} {Z : Nat → ClassId} {ro : Nat × Nat} {t n : Nat} {g : Nat → Int32} (x : Int32) (ht3 : t < 3) : dtI E l D Z yX5_lowestBits (Cond.code yX5_lowestBits cX5_lowestBits 2 (some .int) :: cW) { frames := 0, cells := 0, slots := 0, locals := 0 } [.ref ro.1, .int x] (wcat [roP Z ro t n g]) (S := Unit) (fun _ => wcat [roP Z ro t n g]) (fun _ => zlow t x) (fun _ => True) := by
  refine dtI_of hE (cc := cX5_lowestBits) (maxL := 2) (by decide +kernel) (fun w h => List.mem_cons_of_mem _ h) (Nat.le_of_ble_eq_true rfl) ?_
  intro p e s m args below meth c A Q ls hx hb hml hown hts G X hl fin
  replace hl : lv_has ls 2 [(0, .ref ro.1), (1, .int x)] := hl
  refine lv_aload_n hx hb dX5_lowestBits_0 rfl (lv_at hl 0 rfl) ?_
  refine cg_5 G X 0 0 rfl rfl 0 (by decide) (G.2.2.2.1 _ ck_275) rfl rfl dX5_lowestBits_1 ?_
  by_cases t_4_0 : t = 0
  · refine gi_eq t_4_0 ?_
    refine lv_lookup (tgt := 32) (off := 28) hx hb dX5_lowestBits_4 (by decide) (by decide +kernel) (by decide) ?_
    refine lv_iload_n hx hb dX5_lowestBits_32 rfl (lv_at hl 1 rfl) ?_
    refine lv_i2b (v := x.toInt8.toInt32) hx hb dX5_lowestBits_33 rfl ?_
    exact cfin_I (()) (trivial) (rfl) (by unfold zlow; first | exact (if_pos t_4_0).symm | (rw [if_neg t_4_0]; exact (if_pos t_4_1).symm) | (rw [if_neg t_4_0, if_neg t_4_1])) X dX5_lowestBits_34 fin
  by_cases t_4_1 : t = 1
  · refine gi_eq t_4_1 ?_
    refine lv_lookup (tgt := 35) (off := 31) hx hb dX5_lowestBits_4 (by decide) (by decide +kernel) (by decide) ?_
    refine lv_iload_n hx hb dX5_lowestBits_35 rfl (lv_at hl 1 rfl) ?_
    refine lv_i2s (v := x.toInt16.toInt32) hx hb dX5_lowestBits_36 rfl ?_
    exact cfin_I (()) (trivial) (rfl) (by unfold zlow; first | exact (if_pos t_4_0).symm | (rw [if_neg t_4_0]; exact (if_pos t_4_1).symm) | (rw [if_neg t_4_0, if_neg t_4_1])) X dX5_lowestBits_37 fin
  have t_4_d : t = 2 := by omega
  · refine gi_eq (a := 2) t_4_d ?_
    refine lv_lookup (tgt := 38) (off := 34) hx hb dX5_lowestBits_4 (by decide) (by decide +kernel) (by decide) ?_
    refine lv_iload_n hx hb dX5_lowestBits_38 rfl (lv_at hl 1 rfl) ?_
    exact cfin_I (()) (trivial) (rfl) (by unfold zlow; first | exact (if_pos t_4_0).symm | (rw [if_neg t_4_0]; exact (if_pos t_4_1).symm) | (rw [if_neg t_4_0, if_neg t_4_1])) X dX5_lowestBits_39 fin
