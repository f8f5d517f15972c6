set_option maxHeartbeats 4000000 in
set_option maxRecDepth 100000 in
theorem k11_put {E : (Nat → Prop) → State → Heap → Prop} (hE : cEok E) {l : Launch} {D : va_G} {Z : Nat → ClassId} {an : Nat × Nat × Nat} {x0 x1 x2 x3 x4 x5 x6 x7 x8 x9 hi : Nat} {sb sc : Nat → Nat} {ρ : MS} (xd : Int32) (xi : Int32) (xv : Int32) (hzs : zSh ρ) : dtI E l D Z yX11_put (Cond.code yX11_put cX11_put 5 (some .int) :: cW) { frames := 4, cells := 0, slots := 0, locals := 83 } [.ref an.1, .int xd, .int xi, .int xv] (wcat [anP Z an x0 x1 x2 x3 x4 x5 x6 x7 x8 x9 hi sb (ρ.2 41), shOn (shF Z sb sc ρ) 8]) (S := Unit) (fun _ => wcat [anP Z an x0 x1 x2 x3 x4 x5 x6 x7 x8 x9 hi sb ((zputT ρ xd xi xv).2 41), shOn (shF Z sb sc (zputT ρ xd xi xv)) 8]) (fun _ => zputS ρ xd xi) (fun _ => True) := by
  refine dtI_of hE (cc := cX11_put) (maxL := 5) (by decide +kernel) (fun w h => List.mem_cons_of_mem _ h) (Nat.le_of_ble_eq_true rfl) ?_
  intro p e s m args below meth c A Q ls hx hb hml hown hts G X hl fin
  replace hl : lv_has ls 5 [(0, .ref an.1), (1, .int xd), (2, .int xi), (3, .int xv)] := hl
  refine lv_aload_n hx hb dX11_put_0 rfl (lv_at hl 0 rfl) ?_
  refine lv_iload_n hx hb dX11_put_1 rfl (lv_at hl 1 rfl) ?_
  refine dtQ_go (w := wcat [anP Z an x0 x1 x2 x3 x4 x5 x6 x7 x8 x9 hi sb (ρ.2 41)]) (wf := wcat [shOn (shF Z sb sc ρ) 8]) (W1 := fun _ => wcat [anP Z an x0 x1 x2 x3 x4 x5 x6 x7 x8 x9 hi sb (ρ.2 41), shOn (shF Z sb sc ρ) 8]) G X (wsel [0, 1] rfl rfl) (run_V (As := [.int xd]) (rest := []) (n := 1) G hml hts hl.1 (p_recv G X 0 0 rfl rfl rfl) (k11_rowOn hE xd _) (cwV 1 hts (cg_V ck_526 ck_534 ck_535 ck_536 ck_89) rfl rfl rfl (by decide +kernel) ⟨Nat.le_of_ble_eq_true rfl, Nat.le_of_ble_eq_true rfl⟩) rfl (Nat.le_of_ble_eq_true rfl) dX11_put_2 ⟨Nat.le_refl _, Nat.le_refl _⟩) (fun _ => wback [0, 1] rfl rfl) (fun H locs _ _ X => ?_)
  by_cases q_2 : zir xd 8 ∧ (ρ.2 41) xd.toInt.toNat = 2
  · obtain ⟨jd, hjd, rfl⟩ := zir_of (by decide) q_2.1
    rw [nI_N (by omega)] at q_2
    refine gq_s (shQ_s hjd q_2.2) ?_
    replace q_2 := q_2.2
    replace X := sh_out (qs := [anP Z an x0 x1 x2 x3 x4 x5 x6 x7 x8 x9 hi sb (ρ.2 41)]) hjd (shF_2 (show ρ.2 41 jd = 2 from q_2)) X
    have hz4 := hzs.2.2 jd hjd q_2
    refine lv_astore (lv' := [(4, .ref (sb jd)), (0, .ref an.1), (1, .int (nI jd)), (2, .int xi), (3, .int xv)]) hx hb dX11_put_5 hl (by decide) rfl (fun ls hl => ?_)
    refine lv_aload hx hb dX11_put_7 (lv_at hl 0 rfl) ?_
    refine lv_ifnonnull (tgt := 18) hx hb dX11_put_9 (by decide) ?_
    refine lv_aload hx hb dX11_put_18 (lv_at hl 0 rfl) ?_
    refine lv_iload_n hx hb dX11_put_20 rfl (lv_at hl 3 rfl) ?_
    refine dtI_go (w := wcat [roP Z (sb jd, sc jd) (ρ.2 44 jd) (ρ.2 45 jd) (sel ρ jd)]) (wf := wcat [anP Z an x0 x1 x2 x3 x4 x5 x6 x7 x8 x9 hi sb (ρ.2 41), shOn (shNo (shF Z sb sc ρ) jd) 8]) (W1 := fun _ => wcat [anP Z an x0 x1 x2 x3 x4 x5 x6 x7 x8 x9 hi sb (ρ.2 41), roP Z (sb jd, sc jd) (ρ.2 44 jd) (ρ.2 45 jd) (sel ρ jd), shOn (shNo (shF Z sb sc ρ) jd) 8]) G X (wsel [1, 0, 2] rfl rfl) (run_V (As := [.int xi]) (rest := []) (n := 1) G hml hts hl.1 (p_recv G X 1 0 rfl rfl rfl) (k5_hasPlace hE (ro := (sb jd, sc jd)) xi hz4.2 _) (cwV 1 hts (cg_V ck_277 ck_708 ck_709 ck_710 ck_616) rfl rfl rfl (by decide +kernel) ⟨Nat.le_of_ble_eq_true rfl, Nat.le_of_ble_eq_true rfl⟩) rfl (Nat.le_of_ble_eq_true rfl) dX11_put_21 ⟨Nat.le_refl _, Nat.le_refl _⟩) (fun _ => wback [1, 0, 2] rfl rfl) (fun H locs _ _ X => ?_)
    refine gb_if_ne (tgt := 30) hx hb dX11_put_24 (by decide) (fun c_24 => ?_) (fun c_24 => ?_)
    ·
      obtain ⟨ji, hji, rfl⟩ := zir_of (by omega) c_24
      refine lv_aload hx hb dX11_put_30 (lv_at hl 0 rfl) ?_
      refine cg_5 G X 1 0 rfl rfl 1 (by decide) (G.2.2.2.1 _ ck_611) rfl rfl dX11_put_32 ?_
      refine lv_iload_n hx hb dX11_put_35 rfl (lv_at hl 3 rfl) ?_
      refine lv_aload hx hb dX11_put_36 (lv_at hl 0 rfl) ?_
      refine lv_iload_n hx hb dX11_put_38 rfl (lv_at hl 4 rfl) ?_
      refine dtI_go (w := wcat [roP Z (sb jd, sc jd) (ρ.2 44 jd) (ρ.2 45 jd) (sel ρ jd)]) (wf := wcat [anP Z an x0 x1 x2 x3 x4 x5 x6 x7 x8 x9 hi sb (ρ.2 41), shOn (shNo (shF Z sb sc ρ) jd) 8]) (W1 := fun _ => wcat [anP Z an x0 x1 x2 x3 x4 x5 x6 x7 x8 x9 hi sb (ρ.2 41), roP Z (sb jd, sc jd) (ρ.2 44 jd) (ρ.2 45 jd) (sel ρ jd), shOn (shNo (shF Z sb sc ρ) jd) 8]) G X (wsel [1, 0, 2] rfl rfl) (run_V (As := [.int xv]) (rest := [.int (nI ji), .ref ((sb jd, sc jd).2)]) (n := 1) G hml hts hl.1 (p_recv G X 1 0 rfl rfl rfl) (k5_lowestBits hE (ro := (sb jd, sc jd)) xv hz4.1 _) (cwV 1 hts (cg_V ck_279 ck_711 ck_712 ck_713 ck_616) rfl rfl rfl (by decide +kernel) ⟨Nat.le_of_ble_eq_true rfl, Nat.le_of_ble_eq_true rfl⟩) rfl (Nat.le_of_ble_eq_true rfl) dX11_put_39 ⟨Nat.le_refl _, Nat.le_refl _⟩) (fun _ => wback [1, 0, 2] rfl rfl) (fun H locs _ _ X => ?_)
      refine cr_iastr (ps' := [anP Z an x0 x1 x2 x3 x4 x5 x6 x7 x8 x9 hi sb (ρ.2 41), roP Z (sb jd, sc jd) (ρ.2 44 jd) (ρ.2 45 jd) (upd (sel ρ jd) ji (zlow (ρ.2 44 jd) xv)), shOn (shNo (shF Z sb sc ρ) jd) 8]) G X 1 1 rfl rfl (hji) (by omega) rfl dX11_put_42 (fun H locs X => ?_)
      replace X := sh_up2 (qs := [anP Z an x0 x1 x2 x3 x4 x5 x6 x7 x8 x9 hi sb (ρ.2 41)]) (g := shF Z sb sc (sE ρ 46 (100 * jd + ji) (lNN (znar xv (ρ.2 44 jd))))) hjd (shF_put hzs q_2 hji hz4.2) X
      refine lv_iconst (v := nI 0) hx hb dX11_put_43 (by decide) ?_
      exact cfin_I (()) (trivial) (congrArg (fun z => wcat [anP Z an x0 x1 x2 x3 x4 x5 x6 x7 x8 x9 hi sb (z.2 41), shOn (shF Z sb sc z) 8]) (zput_y (v := xv) hjd q_2 hji hz4.2).2) ((zput_y (v := xv) hjd q_2 hji hz4.2).1) X dX11_put_44 fin
    ·
      replace X := sh_in (qs := [anP Z an x0 x1 x2 x3 x4 x5 x6 x7 x8 x9 hi sb (ρ.2 41)]) hjd (shF_2 (show ρ.2 41 jd = 2 from q_2)) X
      refine lv_bipush (v := (-13)) hx hb dX11_put_27 (by decide) ?_
      exact cfin_I (()) (trivial) (congrArg (fun z => wcat [anP Z an x0 x1 x2 x3 x4 x5 x6 x7 x8 x9 hi sb (z.2 41), shOn (shF Z sb sc z) 8]) (zput_n (v := xv) hjd q_2 c_24).2) ((zput_n (v := xv) hjd q_2 c_24).1) X dX11_put_29 fin
  · refine gq_n (shQ_n q_2) ?_
    refine lv_astoreN (lv' := [(4, .null), (0, .ref an.1), (1, .int xd), (2, .int xi), (3, .int xv)]) hx hb dX11_put_5 hl (by decide) rfl (fun ls hl => ?_)
    refine lv_aloadN hx hb dX11_put_7 (lv_at hl 0 rfl) ?_
    refine lv_ifnonnullN hx hb dX11_put_9 ?_
    refine lv_aload_n hx hb dX11_put_12 rfl (lv_at hl 1 rfl) ?_
    refine lv_iload_n hx hb dX11_put_13 rfl (lv_at hl 2 rfl) ?_
    refine dtI_go (w := wcat [anP Z an x0 x1 x2 x3 x4 x5 x6 x7 x8 x9 hi sb (ρ.2 41)]) (wf := wcat [shOn (shF Z sb sc ρ) 8]) (W1 := fun _ => wcat [anP Z an x0 x1 x2 x3 x4 x5 x6 x7 x8 x9 hi sb (ρ.2 41), shOn (shF Z sb sc ρ) 8]) G X (wsel [0, 1] rfl rfl) (run_V (As := [.int xd]) (rest := []) (n := 1) G hml hts hl.1 (p_recv G X 0 0 rfl rfl rfl) (k11_lackOn hE xd _) (cwV 1 hts (cg_V ck_537 ck_542 ck_543 ck_544 ck_89) rfl rfl rfl (by decide +kernel) ⟨Nat.le_of_ble_eq_true rfl, Nat.le_of_ble_eq_true rfl⟩) rfl (Nat.le_of_ble_eq_true rfl) dX11_put_14 ⟨Nat.le_refl _, Nat.le_refl _⟩) (fun _ => wback [0, 1] rfl rfl) (fun H locs _ _ X => ?_)
    exact cfin_I (()) (trivial) (congrArg (fun z => wcat [anP Z an x0 x1 x2 x3 x4 x5 x6 x7 x8 x9 hi sb (z.2 41), shOn (shF Z sb sc z) 8]) (zput_l (i := xi) (v := xv) hzs q_2).2) ((zput_l (i := xi) (v := xv) hzs q_2).1) X dX11_put_17 fin
set_option maxHeartbeats 4000000 in
set_option maxRecDepth 100000 in
theorem k5_hasPlaces {E : (Nat → Prop) → State → Heap → Prop} (hE : cEok E) {l : Launch} {D : va_G} {Z : Nat → ClassId} {ro : Nat × Nat} {t n : Nat} {g : Nat → Int32} (x : Int32) (y : Int32) (hn : n ≤ 100) : dtI E l D Z yX5_hasPlaces (Cond.code yX5_hasPlaces cX5_hasPlaces 3 (some .boolean) :: cW) { frames := 0, cells := 0, slots := 0, locals := 0 } [.ref ro.1, .int x, .int y] (wcat [roP Z ro t n g]) (S := Unit) (fun _ => wcat [roP Z ro t n g]) (fun _ => if zhs x y n then 1 else 0) (fun _ => True) := by
  refine dtZ_of hE (cc := cX5_hasPlaces) (maxL := 3) (hnar := fun _ _ => zb_ite) (by decide +kernel) (fun w h => List.mem_cons_of_mem _ h) (Nat.le_of_ble_eq_true rfl) ?_
  intro p e s m args below meth c A Q ls hx hb hml hown hts G X hl fin
  replace hl : lv_has ls 3 [(0, .ref ro.1), (1, .int x), (2, .int y)] := hl
  refine lv_iload_n hx hb dX5_hasPlaces_0 rfl (lv_at hl 2 rfl) ?_
  refine lv_if_lt (tgt := 32) hx hb dX5_hasPlaces_1 (by decide) (fun c_1 => ?_) (fun c_1 => ?_)
  ·
    refine lv_iconst (v := nI 0) hx hb dX5_hasPlaces_32 (by decide) ?_
    exact cfin_I (()) (trivial) (rfl) (by first | exact zb_f (zhas_1 c_1) | exact zb_f (zhas_2 c_5) | exact zb_f (zhas_3 hn c_14) | exact zb_f (zhas_4 hn c_25) | exact zb_t (zhas_t hn c_1 c_5 c_14 c_25)) X dX5_hasPlaces_33 fin
  ·
    refine lv_iload_n hx hb dX5_hasPlaces_4 rfl (lv_at hl 1 rfl) ?_
    refine lv_if_lt (tgt := 32) hx hb dX5_hasPlaces_5 (by decide) (fun c_5 => ?_) (fun c_5 => ?_)
    ·
      refine lv_iconst (v := nI 0) hx hb dX5_hasPlaces_32 (by decide) ?_
      exact cfin_I (()) (trivial) (rfl) (by first | exact zb_f (zhas_1 c_1) | exact zb_f (zhas_2 c_5) | exact zb_f (zhas_3 hn c_14) | exact zb_f (zhas_4 hn c_25) | exact zb_t (zhas_t hn c_1 c_5 c_14 c_25)) X dX5_hasPlaces_33 fin
    ·
      refine lv_iload_n hx hb dX5_hasPlaces_8 rfl (lv_at hl 1 rfl) ?_
      refine lv_aload_n hx hb dX5_hasPlaces_9 rfl (lv_at hl 0 rfl) ?_
      refine cg_5 G X 0 0 rfl rfl 1 (by decide) (G.2.2.2.1 _ ck_276) rfl rfl dX5_hasPlaces_10 ?_
      refine cr_alen 0 G X 0 1 (ty := .int) rfl rfl rfl dX5_hasPlaces_13 ?_
      refine lv_icmp_gt (tgt := 32) hx hb dX5_hasPlaces_14 (by decide) (fun c_14 => ?_) (fun c_14 => ?_)
      ·
        refine lv_iconst (v := nI 0) hx hb dX5_hasPlaces_32 (by decide) ?_
        exact cfin_I (()) (trivial) (rfl) (by first | exact zb_f (zhas_1 c_1) | exact zb_f (zhas_2 c_5) | exact zb_f (zhas_3 hn c_14) | exact zb_f (zhas_4 hn c_25) | exact zb_t (zhas_t hn c_1 c_5 c_14 c_25)) X dX5_hasPlaces_33 fin
      ·
        refine lv_iload_n hx hb dX5_hasPlaces_17 rfl (lv_at hl 2 rfl) ?_
        refine lv_aload_n hx hb dX5_hasPlaces_18 rfl (lv_at hl 0 rfl) ?_
        refine cg_5 G X 0 0 rfl rfl 1 (by decide) (G.2.2.2.1 _ ck_276) rfl rfl dX5_hasPlaces_19 ?_
        refine cr_alen 0 G X 0 1 (ty := .int) rfl rfl rfl dX5_hasPlaces_22 ?_
        refine lv_iload_n hx hb dX5_hasPlaces_23 rfl (lv_at hl 1 rfl) ?_
        refine lv_isub hx hb dX5_hasPlaces_24 ?_
        refine lv_icmp_gt (tgt := 32) hx hb dX5_hasPlaces_25 (by decide) (fun c_25 => ?_) (fun c_25 => ?_)
        ·
          refine lv_iconst (v := nI 0) hx hb dX5_hasPlaces_32 (by decide) ?_
          exact cfin_I (()) (trivial) (rfl) (by first | exact zb_f (zhas_1 c_1) | exact zb_f (zhas_2 c_5) | exact zb_f (zhas_3 hn c_14) | exact zb_f (zhas_4 hn c_25) | exact zb_t (zhas_t hn c_1 c_5 c_14 c_25)) X dX5_hasPlaces_33 fin
        ·
          refine lv_iconst (v := nI 1) hx hb dX5_hasPlaces_28 (by decide) ?_
          refine lv_goto (tgt := 33) hx hb dX5_hasPlaces_29 (by decide) ?_
          exact cfin_I (()) (trivial) (rfl) (by first | exact zb_f (zhas_1 c_1) | exact zb_f (zhas_2 c_5) | exact zb_f (zhas_3 hn c_14) | exact zb_f (zhas_4 hn c_25) | exact zb_t (zhas_t hn c_1 c_5 c_14 c_25)) X dX5_hasPlaces_33 fin
set_option maxHeartbeats 4000000 in
set_option maxRecDepth 100000 in
theorem k11_copy {E : (Nat → Prop) → State → Heap → Prop} (hE : cEok E) {l : Launch} {D : va_G} {Z : Nat → ClassId} {an : Nat × Nat × Nat} {x0 x1 x2 x3 x4 x5 x6 x7 x8 x9 hi : Nat} {sb sc : Nat → Nat} {ρ : MS} (xd : Int32) (xi : Int32) (xe : Int32) (xj : Int32) (xn : Int32) (hzs : zSh ρ) : dtI E l D Z yX11_copy (Cond.code yX11_copy cX11_copy 8 (some .int) :: cW) { frames := 3, cells := 0, slots := 0, locals := 62 } [.ref an.1, .int xd, .int xi, .int xe, .int xj, .int xn] (wcat [anP Z an x0 x1 x2 x3 x4 x5 x6 x7 x8 x9 hi sb (ρ.2 41), shOn (shF Z sb sc ρ) 8]) (S := Unit) (fun _ => wcat [anP Z an x0 x1 x2 x3 x4 x5 x6 x7 x8 x9 hi sb ((zcopyT ρ xd xi xe xj xn).2 41), shOn (shF Z sb sc (zcopyT ρ xd xi xe xj xn)) 8]) (fun _ => zcopyS ρ xd xi xe xj xn) (fun _ => True) := by
  refine dtI_of hE (cc := cX11_copy) (maxL := 8) (by decide +kernel) (fun w h => List.mem_cons_of_mem _ h) (Nat.le_of_ble_eq_true rfl) ?_
  intro p e s m args below meth c A Q ls hx hb hml hown hts G X hl fin
  replace hl : lv_has ls 8 [(0, .ref an.1), (1, .int xd), (2, .int xi), (3, .int xe), (4, .int xj), (5, .int xn)] := hl
  refine lv_iload_n hx hb dX11_copy_0 rfl (lv_at hl 1 rfl) ?_
  refine dtI_go (w := wcat []) (wf := wcat [anP Z an x0 x1 x2 x3 x4 x5 x6 x7 x8 x9 hi sb (ρ.2 41), shOn (shF Z sb sc ρ) 8]) (W1 := fun _ => wcat [anP Z an x0 x1 x2 x3 x4 x5 x6 x7 x8 x9 hi sb (ρ.2 41), shOn (shF Z sb sc ρ) 8]) G X (wsel [0, 1] rfl rfl) (run_S (As := [.int xd]) (rest := []) (n := 1) G hml hts hl.1 (k11_isShelf hE xd _) (va_cwS 1 hts (cg_S ck_525 ck_527 ck_528 ck_89) rfl rfl rfl (by decide +kernel) ⟨Nat.le_of_ble_eq_true rfl, Nat.le_of_ble_eq_true rfl⟩) rfl (Nat.le_of_ble_eq_true rfl) dX11_copy_1 ⟨Nat.le_refl _, Nat.le_refl _⟩) (fun _ => wback [0, 1] rfl rfl) (fun H locs _ _ X => ?_)
  refine gb_if_eq (tgt := 14) hx hb dX11_copy_4 (by decide) (fun c_4 => ?_) (fun c_4 => ?_)
  ·
    refine lv_iconst (v := (-1)) hx hb dX11_copy_14 (by decide) ?_
    exact cfin_I (()) (trivial) (congrArg (fun z => wcat [anP Z an x0 x1 x2 x3 x4 x5 x6 x7 x8 x9 hi sb (z.2 41), shOn (shF Z sb sc z) 8]) (zcop_1 (d := xd) (i := xi) (e := xe) (j := xj) (n := xn) (by first | exact fun q => c_4 q.1 | exact fun q => c_11 q.2)).2) ((zcop_1 (d := xd) (i := xi) (e := xe) (j := xj) (n := xn) (by first | exact fun q => c_4 q.1 | exact fun q => c_11 q.2)).1) X dX11_copy_15 fin
  ·
    obtain ⟨jd, hjd, rfl⟩ := zir_of (by decide) c_4
    refine lv_iload_n hx hb dX11_copy_7 rfl (lv_at hl 3 rfl) ?_
    refine dtI_go (w := wcat []) (wf := wcat [anP Z an x0 x1 x2 x3 x4 x5 x6 x7 x8 x9 hi sb (ρ.2 41), shOn (shF Z sb sc ρ) 8]) (W1 := fun _ => wcat [anP Z an x0 x1 x2 x3 x4 x5 x6 x7 x8 x9 hi sb (ρ.2 41), shOn (shF Z sb sc ρ) 8]) G X (wsel [0, 1] rfl rfl) (run_S (As := [.int xe]) (rest := []) (n := 1) G hml hts hl.1 (k11_isShelf hE xe _) (va_cwS 1 hts (cg_S ck_525 ck_527 ck_528 ck_89) rfl rfl rfl (by decide +kernel) ⟨Nat.le_of_ble_eq_true rfl, Nat.le_of_ble_eq_true rfl⟩) rfl (Nat.le_of_ble_eq_true rfl) dX11_copy_8 ⟨Nat.le_refl _, Nat.le_refl _⟩) (fun _ => wback [0, 1] rfl rfl) (fun H locs _ _ X => ?_)
    refine gb_if_ne (tgt := 16) hx hb dX11_copy_11 (by decide) (fun c_11 => ?_) (fun c_11 => ?_)
    ·
      obtain ⟨je, hje, rfl⟩ := zir_of (by decide) c_11
      refine lv_aload_n hx hb dX11_copy_16 rfl (lv_at hl 0 rfl) ?_
      refine lv_iload_n hx hb dX11_copy_17 rfl (lv_at hl 1 rfl) ?_
      refine dtI_go (w := wcat [anP Z an x0 x1 x2 x3 x4 x5 x6 x7 x8 x9 hi sb (ρ.2 41)]) (wf := wcat [shOn (shF Z sb sc ρ) 8]) (W1 := fun _ => wcat [anP Z an x0 x1 x2 x3 x4 x5 x6 x7 x8 x9 hi sb (ρ.2 41), shOn (shF Z sb sc ρ) 8]) G X (wsel [0, 1] rfl rfl) (run_V (As := [.int (nI jd)]) (rest := []) (n := 1) G hml hts hl.1 (p_recv G X 0 0 rfl rfl rfl) (k11_isEmpty hE (nI jd) _) (cwV 1 hts (cg_V ck_530 ck_538 ck_539 ck_540 ck_89) rfl rfl rfl (by decide +kernel) ⟨Nat.le_of_ble_eq_true rfl, Nat.le_of_ble_eq_true rfl⟩) rfl (Nat.le_of_ble_eq_true rfl) dX11_copy_18 ⟨Nat.le_refl _, Nat.le_refl _⟩) (fun _ => wback [0, 1] rfl rfl) (fun H locs _ _ X => ?_)
      refine gb_if_ne (tgt := 32) hx hb dX11_copy_21 (by decide) (fun c_21 => ?_) (fun c_21 => ?_)
      ·
        refine lv_bipush (v := (-11)) hx hb dX11_copy_32 (by decide) ?_
        exact cfin_I (()) (trivial) (congrArg (fun z => wcat [anP Z an x0 x1 x2 x3 x4 x5 x6 x7 x8 x9 hi sb (z.2 41), shOn (shF Z sb sc z) 8]) (zcop_2 (i := xi) (j := xj) (n := xn) hzs hjd hje (by first | exact Or.inl c_21 | exact Or.inr c_29)).2) ((zcop_2 (i := xi) (j := xj) (n := xn) hzs hjd hje (by first | exact Or.inl c_21 | exact Or.inr c_29)).1) X dX11_copy_34 fin
      ·
        refine lv_aload_n hx hb dX11_copy_24 rfl (lv_at hl 0 rfl) ?_
        refine lv_iload_n hx hb dX11_copy_25 rfl (lv_at hl 3 rfl) ?_
        refine dtI_go (w := wcat [anP Z an x0 x1 x2 x3 x4 x5 x6 x7 x8 x9 hi sb (ρ.2 41)]) (wf := wcat [shOn (shF Z sb sc ρ) 8]) (W1 := fun _ => wcat [anP Z an x0 x1 x2 x3 x4 x5 x6 x7 x8 x9 hi sb (ρ.2 41), shOn (shF Z sb sc ρ) 8]) G X (wsel [0, 1] rfl rfl) (run_V (As := [.int (nI je)]) (rest := []) (n := 1) G hml hts hl.1 (p_recv G X 0 0 rfl rfl rfl) (k11_isEmpty hE (nI je) _) (cwV 1 hts (cg_V ck_530 ck_538 ck_539 ck_540 ck_89) rfl rfl rfl (by decide +kernel) ⟨Nat.le_of_ble_eq_true rfl, Nat.le_of_ble_eq_true rfl⟩) rfl (Nat.le_of_ble_eq_true rfl) dX11_copy_26 ⟨Nat.le_refl _, Nat.le_refl _⟩) (fun _ => wback [0, 1] rfl rfl) (fun H locs _ _ X => ?_)
        refine gb_if_eq (tgt := 35) hx hb dX11_copy_29 (by decide) (fun c_29 => ?_) (fun c_29 => ?_)
        ·
          refine lv_aload_n hx hb dX11_copy_35 rfl (lv_at hl 0 rfl) ?_
          refine lv_iload_n hx hb dX11_copy_36 rfl (lv_at hl 1 rfl) ?_
          refine dtQ_go (w := wcat [anP Z an x0 x1 x2 x3 x4 x5 x6 x7 x8 x9 hi sb (ρ.2 41)]) (wf := wcat [shOn (shF Z sb sc ρ) 8]) (W1 := fun _ => wcat [anP Z an x0 x1 x2 x3 x4 x5 x6 x7 x8 x9 hi sb (ρ.2 41), shOn (shF Z sb sc ρ) 8]) G X (wsel [0, 1] rfl rfl) (run_V (As := [.int (nI jd)]) (rest := []) (n := 1) G hml hts hl.1 (p_recv G X 0 0 rfl rfl rfl) (k11_rowOn hE (nI jd) _) (cwV 1 hts (cg_V ck_526 ck_534 ck_535 ck_536 ck_89) rfl rfl rfl (by decide +kernel) ⟨Nat.le_of_ble_eq_true rfl, Nat.le_of_ble_eq_true rfl⟩) rfl (Nat.le_of_ble_eq_true rfl) dX11_copy_37 ⟨Nat.le_refl _, Nat.le_refl _⟩) (fun _ => wback [0, 1] rfl rfl) (fun H locs _ _ X => ?_)
          by_cases q_37 : (ρ.2 41) jd = 2
          · refine gq_s (shQ_s (by omega) q_37) ?_
            refine lv_astore (lv' := [(6, .ref (sb jd)), (0, .ref an.1), (1, .int (nI jd)), (2, .int xi), (3, .int (nI je)), (4, .int xj), (5, .int xn)]) hx hb dX11_copy_40 hl (by decide) rfl (fun ls hl => ?_)
            refine lv_aload_n hx hb dX11_copy_42 rfl (lv_at hl 1 rfl) ?_
            refine lv_iload_n hx hb dX11_copy_43 rfl (lv_at hl 4 rfl) ?_
            refine dtQ_go (w := wcat [anP Z an x0 x1 x2 x3 x4 x5 x6 x7 x8 x9 hi sb (ρ.2 41)]) (wf := wcat [shOn (shF Z sb sc ρ) 8]) (W1 := fun _ => wcat [anP Z an x0 x1 x2 x3 x4 x5 x6 x7 x8 x9 hi sb (ρ.2 41), shOn (shF Z sb sc ρ) 8]) G X (wsel [0, 1] rfl rfl) (run_V (As := [.int (nI je)]) (rest := []) (n := 1) G hml hts hl.1 (p_recv G X 0 0 rfl rfl rfl) (k11_rowOn hE (nI je) _) (cwV 1 hts (cg_V ck_526 ck_534 ck_535 ck_536 ck_89) rfl rfl rfl (by decide +kernel) ⟨Nat.le_of_ble_eq_true rfl, Nat.le_of_ble_eq_true rfl⟩) rfl (Nat.le_of_ble_eq_true rfl) dX11_copy_44 ⟨Nat.le_refl _, Nat.le_refl _⟩) (fun _ => wback [0, 1] rfl rfl) (fun H locs _ _ X => ?_)
            by_cases q_44 : ρ.2 41 je = 2
            · refine gq_s (shQ_s (by omega) q_44) ?_
              have hzd := hzs.2.2 jd hjd q_37
              have hze := hzs.2.2 je hje q_44
              by_cases hde : jd = je
              · subst hde
                replace X := sh_out (qs := [anP Z an x0 x1 x2 x3 x4 x5 x6 x7 x8 x9 hi sb (ρ.2 41)]) hjd (shF_2 (show ρ.2 41 jd = 2 from q_37)) X
                refine lv_astore (lv' := [(7, .ref (sb jd)), (6, .ref (sb jd)), (0, .ref an.1), (1, .int (nI jd)), (2, .int xi), (3, .int (nI jd)), (4, .int xj), (5, .int xn)]) hx hb dX11_copy_47 hl (by decide) rfl (fun ls hl => ?_)
                refine lv_aload hx hb dX11_copy_49 (lv_at hl 1 rfl) ?_
                refine lv_ifnull hx hb dX11_copy_51 ?_
                refine lv_aload hx hb dX11_copy_54 (lv_at hl 0 rfl) ?_
                refine lv_ifnull hx hb dX11_copy_56 ?_
                refine lv_aload hx hb dX11_copy_59 (lv_at hl 1 rfl) ?_
                refine cg_5 G X 1 0 rfl rfl 0 (by decide) (G.2.2.2.1 _ ck_541) rfl rfl dX11_copy_61 ?_
                refine lv_aload hx hb dX11_copy_64 (lv_at hl 0 rfl) ?_
                refine cg_5 G X 1 0 rfl rfl 0 (by decide) (G.2.2.2.1 _ ck_541) rfl rfl dX11_copy_66 ?_
                refine gn_icmp_eq (tgt := 75) hx hb dX11_copy_69 (by decide) (by omega) (by omega) (fun c_69 => ?_) (fun c_69 => ?_)
                ·
                  refine lv_aload hx hb dX11_copy_75 (lv_at hl 1 rfl) ?_
                  refine lv_iload_n hx hb dX11_copy_77 rfl (lv_at hl 4 rfl) ?_
                  refine lv_iload hx hb dX11_copy_78 (lv_at hl 7 rfl) ?_
                  refine dtI_go (w := wcat [roP Z (sb jd, sc jd) (ρ.2 44 jd) (ρ.2 45 jd) (sel ρ jd)]) (wf := wcat [anP Z an x0 x1 x2 x3 x4 x5 x6 x7 x8 x9 hi sb (ρ.2 41), shOn (shNo (shF Z sb sc ρ) jd) 8]) (W1 := fun _ => wcat [anP Z an x0 x1 x2 x3 x4 x5 x6 x7 x8 x9 hi sb (ρ.2 41), roP Z (sb jd, sc jd) (ρ.2 44 jd) (ρ.2 45 jd) (sel ρ jd), shOn (shNo (shF Z sb sc ρ) jd) 8]) G X (wsel [1, 0, 2] rfl rfl) (run_V (As := [.int xi, .int xn]) (rest := []) (n := 2) G hml hts hl.1 (p_recv G X 1 0 rfl rfl rfl) (k5_hasPlaces hE (ro := (sb jd, sc jd)) xi xn hzd.2 _) (cwV 2 hts (cg_V ck_278 ck_720 ck_721 ck_722 ck_616) rfl rfl rfl (by decide +kernel) ⟨Nat.le_of_ble_eq_true rfl, Nat.le_of_ble_eq_true rfl⟩) rfl (Nat.le_of_ble_eq_true rfl) dX11_copy_80 ⟨Nat.le_refl _, Nat.le_refl _⟩) (fun _ => wback [1, 0, 2] rfl rfl) (fun H locs _ _ X => ?_)
                  refine gb_if_eq (tgt := 98) hx hb dX11_copy_83 (by decide) (fun c_83 => ?_) (fun c_83 => ?_)
                  ·
                    replace X := sh_in (qs := [anP Z an x0 x1 x2 x3 x4 x5 x6 x7 x8 x9 hi sb (ρ.2 41)]) hjd (shF_2 (show ρ.2 41 jd = 2 from q_37)) X
                    refine lv_bipush (v := (-13)) hx hb dX11_copy_98 (by decide) ?_
                    exact cfin_I (()) (trivial) (congrArg (fun z => wcat [anP Z an x0 x1 x2 x3 x4 x5 x6 x7 x8 x9 hi sb (z.2 41), shOn (shF Z sb sc z) 8]) (zcop_4 (i := xi) (j := xj) (n := xn) hzs hjd hjd c_21 c_29 ⟨q_37, q_37, rfl⟩ (by first | exact fun q => c_83 q.1 | exact fun q => c_95 q.2)).2) ((zcop_4 (i := xi) (j := xj) (n := xn) hzs hjd hjd c_21 c_29 ⟨q_37, q_37, rfl⟩ (by first | exact fun q => c_83 q.1 | exact fun q => c_95 q.2)).1) X dX11_copy_100 fin
                  ·
                    refine lv_aload hx hb dX11_copy_86 (lv_at hl 0 rfl) ?_
                    refine lv_iload hx hb dX11_copy_88 (lv_at hl 6 rfl) ?_
                    refine lv_iload hx hb dX11_copy_90 (lv_at hl 7 rfl) ?_
                    refine dtI_go (w := wcat [roP Z (sb jd, sc jd) (ρ.2 44 jd) (ρ.2 45 jd) (sel ρ jd)]) (wf := wcat [anP Z an x0 x1 x2 x3 x4 x5 x6 x7 x8 x9 hi sb (ρ.2 41), shOn (shNo (shF Z sb sc ρ) jd) 8]) (W1 := fun _ => wcat [anP Z an x0 x1 x2 x3 x4 x5 x6 x7 x8 x9 hi sb (ρ.2 41), roP Z (sb jd, sc jd) (ρ.2 44 jd) (ρ.2 45 jd) (sel ρ jd), shOn (shNo (shF Z sb sc ρ) jd) 8]) G X (wsel [1, 0, 2] rfl rfl) (run_V (As := [.int xj, .int xn]) (rest := []) (n := 2) G hml hts hl.1 (p_recv G X 1 0 rfl rfl rfl) (k5_hasPlaces hE (ro := (sb jd, sc jd)) xj xn (by first | exact hze.2 | exact hzd.2) _) (cwV 2 hts (cg_V ck_278 ck_720 ck_721 ck_722 ck_616) rfl rfl rfl (by decide +kernel) ⟨Nat.le_of_ble_eq_true rfl, Nat.le_of_ble_eq_true rfl⟩) rfl (Nat.le_of_ble_eq_true rfl) dX11_copy_92 ⟨Nat.le_refl _, Nat.le_refl _⟩) (fun _ => wback [1, 0, 2] rfl rfl) (fun H locs _ _ X => ?_)
                    refine gb_if_ne (tgt := 101) hx hb dX11_copy_95 (by decide) (fun c_95 => ?_) (fun c_95 => ?_)
                    ·
                      have hv1 := c_83
                      have hv2 := c_95
                      obtain ⟨ji, jn, h0i, rfl, rfl⟩ := zhs_of (by omega) c_83
                      obtain ⟨jj, jn2, h0j, rfl, hjn2⟩ := zhs_of (by omega) c_95
                      rw [zhs_n (by omega) (by omega)] at hv1
                      rw [zhs_n (show jj < 2147483648 by omega) (show jn < 2147483648 by omega)] at hv2
                      refine lv_aload hx hb dX11_copy_101 (lv_at hl 1 rfl) ?_
                      refine cg_5 G X 1 0 rfl rfl 1 (by decide) (G.2.2.2.1 _ ck_611) rfl rfl dX11_copy_103 ?_
                      refine lv_iload_n hx hb dX11_copy_106 rfl (lv_at hl 4 rfl) ?_
                      refine lv_aload hx hb dX11_copy_107 (lv_at hl 0 rfl) ?_
                      refine cg_5 G X 1 0 rfl rfl 1 (by decide) (G.2.2.2.1 _ ck_611) rfl rfl dX11_copy_109 ?_
                      refine lv_iload hx hb dX11_copy_112 (lv_at hl 6 rfl) ?_
                      refine lv_iload hx hb dX11_copy_114 (lv_at hl 7 rfl) ?_
                      refine cr_copyr (ps' := [anP Z an x0 x1 x2 x3 x4 x5 x6 x7 x8 x9 hi sb (ρ.2 41), roP Z (sb jd, sc jd) (ρ.2 44 jd) (ρ.2 45 jd) (va_cpy (sel ρ jd) (sel ρ jd) ji jj jn), shOn (shNo (shF Z sb sc ρ) jd) 8]) (hml.trans hl.1.symm) G X 1 1 1 1 rfl rfl rfl rfl hv1 hv2 ⟨by omega, by omega⟩ (G.2.2.2.1 _ ck_719) rfl (Nat.le_of_ble_eq_true rfl) (Nat.le_of_ble_eq_true rfl) dX11_copy_116 (fun H locs X => ?_)
                      replace X := sh_up2 (qs := [anP Z an x0 x1 x2 x3 x4 x5 x6 x7 x8 x9 hi sb (ρ.2 41)]) (g := shF Z sb sc (zcpT ρ jd ji jd jj jn)) hjd (shF_cpy hzs q_37 hv1 hv2 hzd.2) X
                      refine lv_iload hx hb dX11_copy_119 (lv_at hl 7 rfl) ?_
                      exact cfin_I (()) (trivial) (congrArg (fun z => wcat [anP Z an x0 x1 x2 x3 x4 x5 x6 x7 x8 x9 hi sb (z.2 41), shOn (shF Z sb sc z) 8]) (zcop_5 hzs hjd hjd c_21 c_29 ⟨q_37, q_37, rfl⟩ hv1 hv2).2) ((zcop_5 hzs hjd hjd c_21 c_29 ⟨q_37, q_37, rfl⟩ hv1 hv2).1) X dX11_copy_121 fin
                    ·
                      replace X := sh_in (qs := [anP Z an x0 x1 x2 x3 x4 x5 x6 x7 x8 x9 hi sb (ρ.2 41)]) hjd (shF_2 (show ρ.2 41 jd = 2 from q_37)) X
                      refine lv_bipush (v := (-13)) hx hb dX11_copy_98 (by decide) ?_
                      exact cfin_I (()) (trivial) (congrArg (fun z => wcat [anP Z an x0 x1 x2 x3 x4 x5 x6 x7 x8 x9 hi sb (z.2 41), shOn (shF Z sb sc z) 8]) (zcop_4 (i := xi) (j := xj) (n := xn) hzs hjd hjd c_21 c_29 ⟨q_37, q_37, rfl⟩ (by first | exact fun q => c_83 q.1 | exact fun q => c_95 q.2)).2) ((zcop_4 (i := xi) (j := xj) (n := xn) hzs hjd hjd c_21 c_29 ⟨q_37, q_37, rfl⟩ (by first | exact fun q => c_83 q.1 | exact fun q => c_95 q.2)).1) X dX11_copy_100 fin
                ·
                  replace X := sh_in (qs := [anP Z an x0 x1 x2 x3 x4 x5 x6 x7 x8 x9 hi sb (ρ.2 41)]) hjd (shF_2 (show ρ.2 41 jd = 2 from q_37)) X
                  refine lv_bipush (v := (-12)) hx hb dX11_copy_72 (by decide) ?_
                  exact cfin_I (()) (trivial) (congrArg (fun z => wcat [anP Z an x0 x1 x2 x3 x4 x5 x6 x7 x8 x9 hi sb (z.2 41), shOn (shF Z sb sc z) 8]) (zcop_3 (i := xi) (j := xj) (n := xn) hzs hjd hjd c_21 c_29 (by first | exact fun q => q_37 q.1 | exact fun q => q_44 q.2.1 | (rintro ⟨-, -, q⟩; omega))).2) ((zcop_3 (i := xi) (j := xj) (n := xn) hzs hjd hjd c_21 c_29 (by first | exact fun q => q_37 q.1 | exact fun q => q_44 q.2.1 | (rintro ⟨-, -, q⟩; omega))).1) X dX11_copy_74 fin
              · skip
                replace X := sh_out (qs := [anP Z an x0 x1 x2 x3 x4 x5 x6 x7 x8 x9 hi sb (ρ.2 41)]) hjd (shF_2 (show ρ.2 41 jd = 2 from q_37)) X
                replace X := sh_out (f := shNo (shF Z sb sc ρ) jd) (qs := [anP Z an x0 x1 x2 x3 x4 x5 x6 x7 x8 x9 hi sb (ρ.2 41), roP Z (sb jd, sc jd) (ρ.2 44 jd) (ρ.2 45 jd) (sel ρ jd)]) hje ((if_neg (fun q => hde q.symm)).trans (shF_2 (show ρ.2 41 je = 2 from q_44))) X
                refine lv_astore (lv' := [(7, .ref (sb je)), (6, .ref (sb jd)), (0, .ref an.1), (1, .int (nI jd)), (2, .int xi), (3, .int (nI je)), (4, .int xj), (5, .int xn)]) hx hb dX11_copy_47 hl (by decide) rfl (fun ls hl => ?_)
                refine lv_aload hx hb dX11_copy_49 (lv_at hl 1 rfl) ?_
                refine lv_ifnull hx hb dX11_copy_51 ?_
                refine lv_aload hx hb dX11_copy_54 (lv_at hl 0 rfl) ?_
                refine lv_ifnull hx hb dX11_copy_56 ?_
                refine lv_aload hx hb dX11_copy_59 (lv_at hl 1 rfl) ?_
                refine cg_5 G X 1 0 rfl rfl 0 (by decide) (G.2.2.2.1 _ ck_541) rfl rfl dX11_copy_61 ?_
                refine lv_aload hx hb dX11_copy_64 (lv_at hl 0 rfl) ?_
                refine cg_5 G X 2 0 rfl rfl 0 (by decide) (G.2.2.2.1 _ ck_541) rfl rfl dX11_copy_66 ?_
                refine gn_icmp_eq (tgt := 75) hx hb dX11_copy_69 (by decide) (by omega) (by omega) (fun c_69 => ?_) (fun c_69 => ?_)
                ·
                  refine lv_aload hx hb dX11_copy_75 (lv_at hl 1 rfl) ?_
                  refine lv_iload_n hx hb dX11_copy_77 rfl (lv_at hl 4 rfl) ?_
                  refine lv_iload hx hb dX11_copy_78 (lv_at hl 7 rfl) ?_
                  refine dtI_go (w := wcat [roP Z (sb jd, sc jd) (ρ.2 44 jd) (ρ.2 45 jd) (sel ρ jd)]) (wf := wcat [anP Z an x0 x1 x2 x3 x4 x5 x6 x7 x8 x9 hi sb (ρ.2 41), roP Z (sb je, sc je) (ρ.2 44 je) (ρ.2 45 je) (sel ρ je), shOn (shNo (shNo (shF Z sb sc ρ) jd) je) 8]) (W1 := fun _ => wcat [anP Z an x0 x1 x2 x3 x4 x5 x6 x7 x8 x9 hi sb (ρ.2 41), roP Z (sb jd, sc jd) (ρ.2 44 jd) (ρ.2 45 jd) (sel ρ jd), roP Z (sb je, sc je) (ρ.2 44 je) (ρ.2 45 je) (sel ρ je), shOn (shNo (shNo (shF Z sb sc ρ) jd) je) 8]) G X (wsel [1, 0, 2, 3] rfl rfl) (run_V (As := [.int xi, .int xn]) (rest := []) (n := 2) G hml hts hl.1 (p_recv G X 1 0 rfl rfl rfl) (k5_hasPlaces hE (ro := (sb jd, sc jd)) xi xn hzd.2 _) (cwV 2 hts (cg_V ck_278 ck_720 ck_721 ck_722 ck_616) rfl rfl rfl (by decide +kernel) ⟨Nat.le_of_ble_eq_true rfl, Nat.le_of_ble_eq_true rfl⟩) rfl (Nat.le_of_ble_eq_true rfl) dX11_copy_80 ⟨Nat.le_refl _, Nat.le_refl _⟩) (fun _ => wback [1, 0, 2, 3] rfl rfl) (fun H locs _ _ X => ?_)
                  refine gb_if_eq (tgt := 98) hx hb dX11_copy_83 (by decide) (fun c_83 => ?_) (fun c_83 => ?_)
                  ·
                    replace X := sh_in (f := shNo (shF Z sb sc ρ) jd) (qs := [anP Z an x0 x1 x2 x3 x4 x5 x6 x7 x8 x9 hi sb (ρ.2 41), roP Z (sb jd, sc jd) (ρ.2 44 jd) (ρ.2 45 jd) (sel ρ jd)]) hje ((if_neg (fun q => hde q.symm)).trans (shF_2 (show ρ.2 41 je = 2 from q_44))) X
                    replace X := sh_in (qs := [anP Z an x0 x1 x2 x3 x4 x5 x6 x7 x8 x9 hi sb (ρ.2 41)]) hjd (shF_2 (show ρ.2 41 jd = 2 from q_37)) X
                    refine lv_bipush (v := (-13)) hx hb dX11_copy_98 (by decide) ?_
                    exact cfin_I (()) (trivial) (congrArg (fun z => wcat [anP Z an x0 x1 x2 x3 x4 x5 x6 x7 x8 x9 hi sb (z.2 41), shOn (shF Z sb sc z) 8]) (zcop_4 (i := xi) (j := xj) (n := xn) hzs hjd hje c_21 c_29 ⟨q_37, q_44, by omega⟩ (by first | exact fun q => c_83 q.1 | exact fun q => c_95 q.2)).2) ((zcop_4 (i := xi) (j := xj) (n := xn) hzs hjd hje c_21 c_29 ⟨q_37, q_44, by omega⟩ (by first | exact fun q => c_83 q.1 | exact fun q => c_95 q.2)).1) X dX11_copy_100 fin
                  ·
                    refine lv_aload hx hb dX11_copy_86 (lv_at hl 0 rfl) ?_
                    refine lv_iload hx hb dX11_copy_88 (lv_at hl 6 rfl) ?_
                    refine lv_iload hx hb dX11_copy_90 (lv_at hl 7 rfl) ?_
                    refine dtI_go (w := wcat [roP Z (sb je, sc je) (ρ.2 44 je) (ρ.2 45 je) (sel ρ je)]) (wf := wcat [anP Z an x0 x1 x2 x3 x4 x5 x6 x7 x8 x9 hi sb (ρ.2 41), roP Z (sb jd, sc jd) (ρ.2 44 jd) (ρ.2 45 jd) (sel ρ jd), shOn (shNo (shNo (shF Z sb sc ρ) jd) je) 8]) (W1 := fun _ => wcat [anP Z an x0 x1 x2 x3 x4 x5 x6 x7 x8 x9 hi sb (ρ.2 41), roP Z (sb jd, sc jd) (ρ.2 44 jd) (ρ.2 45 jd) (sel ρ jd), roP Z (sb je, sc je) (ρ.2 44 je) (ρ.2 45 je) (sel ρ je), shOn (shNo (shNo (shF Z sb sc ρ) jd) je) 8]) G X (wsel [2, 0, 1, 3] rfl rfl) (run_V (As := [.int xj, .int xn]) (rest := []) (n := 2) G hml hts hl.1 (p_recv G X 2 0 rfl rfl rfl) (k5_hasPlaces hE (ro := (sb je, sc je)) xj xn (by first | exact hze.2 | exact hzd.2) _) (cwV 2 hts (cg_V ck_278 ck_720 ck_721 ck_722 ck_616) rfl rfl rfl (by decide +kernel) ⟨Nat.le_of_ble_eq_true rfl, Nat.le_of_ble_eq_true rfl⟩) rfl (Nat.le_of_ble_eq_true rfl) dX11_copy_92 ⟨Nat.le_refl _, Nat.le_refl _⟩) (fun _ => wback [2, 0, 1, 3] rfl rfl) (fun H locs _ _ X => ?_)
                    refine gb_if_ne (tgt := 101) hx hb dX11_copy_95 (by decide) (fun c_95 => ?_) (fun c_95 => ?_)
                    ·
                      have hv1 := c_83
                      have hv2 := c_95
                      obtain ⟨ji, jn, h0i, rfl, rfl⟩ := zhs_of (by omega) c_83
                      obtain ⟨jj, jn2, h0j, rfl, hjn2⟩ := zhs_of (by omega) c_95
                      rw [zhs_n (by omega) (by omega)] at hv1
                      rw [zhs_n (show jj < 2147483648 by omega) (show jn < 2147483648 by omega)] at hv2
                      refine lv_aload hx hb dX11_copy_101 (lv_at hl 1 rfl) ?_
                      refine cg_5 G X 1 0 rfl rfl 1 (by decide) (G.2.2.2.1 _ ck_611) rfl rfl dX11_copy_103 ?_
                      refine lv_iload_n hx hb dX11_copy_106 rfl (lv_at hl 4 rfl) ?_
                      refine lv_aload hx hb dX11_copy_107 (lv_at hl 0 rfl) ?_
                      refine cg_5 G X 2 0 rfl rfl 1 (by decide) (G.2.2.2.1 _ ck_611) rfl rfl dX11_copy_109 ?_
                      refine lv_iload hx hb dX11_copy_112 (lv_at hl 6 rfl) ?_
                      refine lv_iload hx hb dX11_copy_114 (lv_at hl 7 rfl) ?_
                      refine cr_copyr (ps' := [anP Z an x0 x1 x2 x3 x4 x5 x6 x7 x8 x9 hi sb (ρ.2 41), roP Z (sb jd, sc jd) (ρ.2 44 jd) (ρ.2 45 jd) (sel ρ jd), roP Z (sb je, sc je) (ρ.2 44 je) (ρ.2 45 je) (va_cpy (sel ρ jd) (sel ρ je) ji jj jn), shOn (shNo (shNo (shF Z sb sc ρ) jd) je) 8]) (hml.trans hl.1.symm) G X 1 1 2 1 rfl rfl rfl rfl hv1 hv2 ⟨by omega, by omega⟩ (G.2.2.2.1 _ ck_719) rfl (Nat.le_of_ble_eq_true rfl) (Nat.le_of_ble_eq_true rfl) dX11_copy_116 (fun H locs X => ?_)
                      replace X := sh_up2 (qs := [anP Z an x0 x1 x2 x3 x4 x5 x6 x7 x8 x9 hi sb (ρ.2 41), roP Z (sb jd, sc jd) (ρ.2 44 jd) (ρ.2 45 jd) (sel ρ jd)]) (g := shNo (shF Z sb sc (zcpT ρ jd ji je jj jn)) jd) hje (shF_cpy2 hde hzs q_44 hv1 hv2 hze.2) X
                      replace X := sh_in (f := shF Z sb sc (zcpT ρ jd ji je jj jn)) (qs := [anP Z an x0 x1 x2 x3 x4 x5 x6 x7 x8 x9 hi sb (ρ.2 41)]) hjd (shF_cpd hde hjd hzs q_37 hv2 hze.2) X
                      refine lv_iload hx hb dX11_copy_119 (lv_at hl 7 rfl) ?_
                      exact cfin_I (()) (trivial) (congrArg (fun z => wcat [anP Z an x0 x1 x2 x3 x4 x5 x6 x7 x8 x9 hi sb (z.2 41), shOn (shF Z sb sc z) 8]) (zcop_5 hzs hjd hje c_21 c_29 ⟨q_37, q_44, by omega⟩ hv1 hv2).2) ((zcop_5 hzs hjd hje c_21 c_29 ⟨q_37, q_44, by omega⟩ hv1 hv2).1) X dX11_copy_121 fin
                    ·
                      replace X := sh_in (f := shNo (shF Z sb sc ρ) jd) (qs := [anP Z an x0 x1 x2 x3 x4 x5 x6 x7 x8 x9 hi sb (ρ.2 41), roP Z (sb jd, sc jd) (ρ.2 44 jd) (ρ.2 45 jd) (sel ρ jd)]) hje ((if_neg (fun q => hde q.symm)).trans (shF_2 (show ρ.2 41 je = 2 from q_44))) X
                      replace X := sh_in (qs := [anP Z an x0 x1 x2 x3 x4 x5 x6 x7 x8 x9 hi sb (ρ.2 41)]) hjd (shF_2 (show ρ.2 41 jd = 2 from q_37)) X
                      refine lv_bipush (v := (-13)) hx hb dX11_copy_98 (by decide) ?_
                      exact cfin_I (()) (trivial) (congrArg (fun z => wcat [anP Z an x0 x1 x2 x3 x4 x5 x6 x7 x8 x9 hi sb (z.2 41), shOn (shF Z sb sc z) 8]) (zcop_4 (i := xi) (j := xj) (n := xn) hzs hjd hje c_21 c_29 ⟨q_37, q_44, by omega⟩ (by first | exact fun q => c_83 q.1 | exact fun q => c_95 q.2)).2) ((zcop_4 (i := xi) (j := xj) (n := xn) hzs hjd hje c_21 c_29 ⟨q_37, q_44, by omega⟩ (by first | exact fun q => c_83 q.1 | exact fun q => c_95 q.2)).1) X dX11_copy_100 fin
                ·
                  replace X := sh_in (f := shNo (shF Z sb sc ρ) jd) (qs := [anP Z an x0 x1 x2 x3 x4 x5 x6 x7 x8 x9 hi sb (ρ.2 41), roP Z (sb jd, sc jd) (ρ.2 44 jd) (ρ.2 45 jd) (sel ρ jd)]) hje ((if_neg (fun q => hde q.symm)).trans (shF_2 (show ρ.2 41 je = 2 from q_44))) X
                  replace X := sh_in (qs := [anP Z an x0 x1 x2 x3 x4 x5 x6 x7 x8 x9 hi sb (ρ.2 41)]) hjd (shF_2 (show ρ.2 41 jd = 2 from q_37)) X
                  refine lv_bipush (v := (-12)) hx hb dX11_copy_72 (by decide) ?_
                  exact cfin_I (()) (trivial) (congrArg (fun z => wcat [anP Z an x0 x1 x2 x3 x4 x5 x6 x7 x8 x9 hi sb (z.2 41), shOn (shF Z sb sc z) 8]) (zcop_3 (i := xi) (j := xj) (n := xn) hzs hjd hje c_21 c_29 (by first | exact fun q => q_37 q.1 | exact fun q => q_44 q.2.1 | (rintro ⟨-, -, q⟩; omega))).2) ((zcop_3 (i := xi) (j := xj) (n := xn) hzs hjd hje c_21 c_29 (by first | exact fun q => q_37 q.1 | exact fun q => q_44 q.2.1 | (rintro ⟨-, -, q⟩; omega))).1) X dX11_copy_74 fin
            · refine gq_n (by rw [shQ_j (by omega)]; exact shR_n q_44) ?_
              refine lv_astoreN (lv' := [(7, .null), (6, .ref (sb jd)), (0, .ref an.1), (1, .int (nI jd)), (2, .int xi), (3, .int (nI je)), (4, .int xj), (5, .int xn)]) hx hb dX11_copy_47 hl (by decide) rfl (fun ls hl => ?_)
              refine lv_aload hx hb dX11_copy_49 (lv_at hl 1 rfl) ?_
              refine lv_ifnull hx hb dX11_copy_51 ?_
              refine lv_aloadN hx hb dX11_copy_54 (lv_at hl 0 rfl) ?_
              refine lv_ifnullN (tgt := 72) hx hb dX11_copy_56 (by decide) ?_
              refine lv_bipush (v := (-12)) hx hb dX11_copy_72 (by decide) ?_
              exact cfin_I (()) (trivial) (congrArg (fun z => wcat [anP Z an x0 x1 x2 x3 x4 x5 x6 x7 x8 x9 hi sb (z.2 41), shOn (shF Z sb sc z) 8]) (zcop_3 (i := xi) (j := xj) (n := xn) hzs hjd hje c_21 c_29 (by first | exact fun q => q_37 q.1 | exact fun q => q_44 q.2.1 | (rintro ⟨-, -, q⟩; omega))).2) ((zcop_3 (i := xi) (j := xj) (n := xn) hzs hjd hje c_21 c_29 (by first | exact fun q => q_37 q.1 | exact fun q => q_44 q.2.1 | (rintro ⟨-, -, q⟩; omega))).1) X dX11_copy_74 fin
          · refine gq_n (by rw [shQ_j (by omega)]; exact shR_n q_37) ?_
            refine lv_astoreN (lv' := [(6, .null), (0, .ref an.1), (1, .int (nI jd)), (2, .int xi), (3, .int (nI je)), (4, .int xj), (5, .int xn)]) hx hb dX11_copy_40 hl (by decide) rfl (fun ls hl => ?_)
            refine lv_aload_n hx hb dX11_copy_42 rfl (lv_at hl 1 rfl) ?_
            refine lv_iload_n hx hb dX11_copy_43 rfl (lv_at hl 4 rfl) ?_
            refine dtQ_go (w := wcat [anP Z an x0 x1 x2 x3 x4 x5 x6 x7 x8 x9 hi sb (ρ.2 41)]) (wf := wcat [shOn (shF Z sb sc ρ) 8]) (W1 := fun _ => wcat [anP Z an x0 x1 x2 x3 x4 x5 x6 x7 x8 x9 hi sb (ρ.2 41), shOn (shF Z sb sc ρ) 8]) G X (wsel [0, 1] rfl rfl) (run_V (As := [.int (nI je)]) (rest := []) (n := 1) G hml hts hl.1 (p_recv G X 0 0 rfl rfl rfl) (k11_rowOn hE (nI je) _) (cwV 1 hts (cg_V ck_526 ck_534 ck_535 ck_536 ck_89) rfl rfl rfl (by decide +kernel) ⟨Nat.le_of_ble_eq_true rfl, Nat.le_of_ble_eq_true rfl⟩) rfl (Nat.le_of_ble_eq_true rfl) dX11_copy_44 ⟨Nat.le_refl _, Nat.le_refl _⟩) (fun _ => wback [0, 1] rfl rfl) (fun H locs _ _ X => ?_)
            by_cases q_44 : ρ.2 41 je = 2
            · refine gq_s (shQ_s (by omega) q_44) ?_
              refine lv_astore (lv' := [(7, .ref (sb je)), (6, .null), (0, .ref an.1), (1, .int (nI jd)), (2, .int xi), (3, .int (nI je)), (4, .int xj), (5, .int xn)]) hx hb dX11_copy_47 hl (by decide) rfl (fun ls hl => ?_)
              refine lv_aloadN hx hb dX11_copy_49 (lv_at hl 1 rfl) ?_
              refine lv_ifnullN (tgt := 72) hx hb dX11_copy_51 (by decide) ?_
              refine lv_bipush (v := (-12)) hx hb dX11_copy_72 (by decide) ?_
              exact cfin_I (()) (trivial) (congrArg (fun z => wcat [anP Z an x0 x1 x2 x3 x4 x5 x6 x7 x8 x9 hi sb (z.2 41), shOn (shF Z sb sc z) 8]) (zcop_3 (i := xi) (j := xj) (n := xn) hzs hjd hje c_21 c_29 (by first | exact fun q => q_37 q.1 | exact fun q => q_44 q.2.1 | (rintro ⟨-, -, q⟩; omega))).2) ((zcop_3 (i := xi) (j := xj) (n := xn) hzs hjd hje c_21 c_29 (by first | exact fun q => q_37 q.1 | exact fun q => q_44 q.2.1 | (rintro ⟨-, -, q⟩; omega))).1) X dX11_copy_74 fin
            · refine gq_n (by rw [shQ_j (by omega)]; exact shR_n q_44) ?_
              refine lv_astoreN (lv' := [(7, .null), (6, .null), (0, .ref an.1), (1, .int (nI jd)), (2, .int xi), (3, .int (nI je)), (4, .int xj), (5, .int xn)]) hx hb dX11_copy_47 hl (by decide) rfl (fun ls hl => ?_)
              refine lv_aloadN hx hb dX11_copy_49 (lv_at hl 1 rfl) ?_
              refine lv_ifnullN (tgt := 72) hx hb dX11_copy_51 (by decide) ?_
              refine lv_bipush (v := (-12)) hx hb dX11_copy_72 (by decide) ?_
              exact cfin_I (()) (trivial) (congrArg (fun z => wcat [anP Z an x0 x1 x2 x3 x4 x5 x6 x7 x8 x9 hi sb (z.2 41), shOn (shF Z sb sc z) 8]) (zcop_3 (i := xi) (j := xj) (n := xn) hzs hjd hje c_21 c_29 (by first | exact fun q => q_37 q.1 | exact fun q => q_44 q.2.1 | (rintro ⟨-, -, q⟩; omega))).2) ((zcop_3 (i := xi) (j := xj) (n := xn) hzs hjd hje c_21 c_29 (by first | exact fun q => q_37 q.1 | exact fun q => q_44 q.2.1 | (rintro ⟨-, -, q⟩; omega))).1) X dX11_copy_74 fin
        ·
          refine lv_bipush (v := (-11)) hx hb dX11_copy_32 (by decide) ?_
          exact cfin_I (()) (trivial) (congrArg (fun z => wcat [anP Z an x0 x1 x2 x3 x4 x5 x6 x7 x8 x9 hi sb (z.2 41), shOn (shF Z sb sc z) 8]) (zcop_2 (i := xi) (j := xj) (n := xn) hzs hjd hje (by first | exact Or.inl c_21 | exact Or.inr c_29)).2) ((zcop_2 (i := xi) (j := xj) (n := xn) hzs hjd hje (by first | exact Or.inl c_21 | exact Or.inr c_29)).1) X dX11_copy_34 fin
    ·
      refine lv_iconst (v := (-1)) hx hb dX11_copy_14 (by decide) ?_
      exact cfin_I (()) (trivial) (congrArg (fun z => wcat [anP Z an x0 x1 x2 x3 x4 x5 x6 x7 x8 x9 hi sb (z.2 41), shOn (shF Z sb sc z) 8]) (zcop_1 (d := nI jd) (i := xi) (e := xe) (j := xj) (n := xn) (by first | exact fun q => c_4 q.1 | exact fun q => c_11 q.2)).2) ((zcop_1 (d := nI jd) (i := xi) (e := xe) (j := xj) (n := xn) (by first | exact fun q => c_4 q.1 | exact fun q => c_11 q.2)).1) X dX11_copy_15 fin
