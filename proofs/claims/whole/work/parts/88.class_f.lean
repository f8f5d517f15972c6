set_option maxHeartbeats 4000000 in
set_option maxRecDepth 100000 in
theorem k2_addRoad {E : (Nat → Prop) → State → Heap → Prop} (hE : cEok E) {l : Launch} {D : va_G} {Z : Nat → ClassId} {La : LA} {τ : MS} (xa : Nat) (xb : Nat) (xc : Nat) (hok : mOk τ) (bxa : xa < 100000) (bxb : xb < 100000) (bxc : xc < 100000) : dtI E l D Z yX2_addRoad (Cond.code yX2_addRoad cX2_addRoad 4 (some .boolean) :: cW) { frames := 1, cells := 0, slots := 0, locals := 20 } [.ref La.1, .int (nI xa), .int (nI xb), .int (nI xc)] (wcat [landP Z La τ]) (S := Unit) (fun _ => wcat [landP Z La (zaRT τ xa xb xc)]) (fun _ => if zaR τ xa xb xc then 1 else 0) (fun _ => True) := by
  refine dtZ_of hE (cc := cX2_addRoad) (maxL := 4) (hnar := fun _ _ => zb_ite) (by decide +kernel) (fun w h => List.mem_cons_of_mem _ h) (Nat.le_of_ble_eq_true rfl) ?_
  intro p e s m args below meth c A Q ls hx hb hml hown hts G X hl fin
  replace hl : lv_has ls 4 [(0, .ref La.1), (1, .int (nI xa)), (2, .int (nI xb)), (3, .int (nI xc))] := hl
  obtain ⟨k0, k4, k8, kr, kw, ks, kmet, kmt, k12, k13⟩ := id hok
  refine lv_aload_n hx hb dX2_addRoad_0 rfl (lv_at hl 0 rfl) ?_
  refine cg_2 G X 0 0 rfl rfl 0 (by decide) (G.2.2.2.1 _ ck_51) rfl rfl dX2_addRoad_1 ?_
  refine lv_bipush (v := nI 16) hx hb dX2_addRoad_4 (by decide) ?_
  refine gn_icmp_ge (tgt := 28) hx hb dX2_addRoad_6 (by decide) (by omega) (by omega) (fun c_6 => ?_) (fun c_6 => ?_)
  ·
    refine lv_iconst (v := nI 0) hx hb dX2_addRoad_28 (by decide) ?_
    exact cfin_I (()) (trivial) (congrArg (fun z => wcat [landP Z La z]) (by unfold zaRT; first | exact (if_pos (show zaR τ xa xb xc by omega)).symm | exact (if_neg (show ¬ (zaR τ xa xb xc) by omega)).symm)) (by first | exact zb_t (show zaR τ xa xb xc by omega) | exact zb_f (show ¬ (zaR τ xa xb xc) by omega)) X dX2_addRoad_29 fin
  ·
    refine lv_iload_n hx hb dX2_addRoad_9 rfl (lv_at hl 1 rfl) ?_
    refine dtI_go (w := wcat []) (wf := wcat [landP Z La τ]) (W1 := fun _ => wcat [landP Z La τ]) G X (wsel [0] rfl rfl) (run_SN (As := [.int (nI xa)]) (rest := []) (n := 1) G hml hts hl.1 (k11_isCrossing hE (nI xa) _) ⟨va_cnB 1 hts (cg_0 ck_86) rfl rfl rfl (G.2.2.2.2.2.1.2.2.2.2 _ _ _ G.2.2.2.2.2.2.1).1 (G.2.2.2.1 _ ck_89) (by decide +kernel) ⟨Nat.le_of_ble_eq_true rfl, Nat.le_of_ble_eq_true rfl⟩, (G.2.2.2.1 _ ck_88), trivial⟩ rfl (Nat.le_of_ble_eq_true rfl) dX2_addRoad_10 ⟨Nat.le_refl _, Nat.le_refl _⟩) (fun _ => wback [0] rfl rfl) (fun H locs _ _ X => ?_)
    refine gb_if_eq (tgt := 28) hx hb dX2_addRoad_13 (by decide) (fun c_13 => ?_) (fun c_13 => ?_)
    ·
      rw [zir_n (by omega)] at c_13
      refine lv_iconst (v := nI 0) hx hb dX2_addRoad_28 (by decide) ?_
      exact cfin_I (()) (trivial) (congrArg (fun z => wcat [landP Z La z]) (by unfold zaRT; first | exact (if_pos (show zaR τ xa xb xc by omega)).symm | exact (if_neg (show ¬ (zaR τ xa xb xc) by omega)).symm)) (by first | exact zb_t (show zaR τ xa xb xc by omega) | exact zb_f (show ¬ (zaR τ xa xb xc) by omega)) X dX2_addRoad_29 fin
    ·
      rw [zir_n (by omega)] at c_13
      refine lv_iload_n hx hb dX2_addRoad_16 rfl (lv_at hl 2 rfl) ?_
      refine dtI_go (w := wcat []) (wf := wcat [landP Z La τ]) (W1 := fun _ => wcat [landP Z La τ]) G X (wsel [0] rfl rfl) (run_SN (As := [.int (nI xb)]) (rest := []) (n := 1) G hml hts hl.1 (k11_isCrossing hE (nI xb) _) ⟨va_cnB 1 hts (cg_0 ck_86) rfl rfl rfl (G.2.2.2.2.2.1.2.2.2.2 _ _ _ G.2.2.2.2.2.2.1).1 (G.2.2.2.1 _ ck_89) (by decide +kernel) ⟨Nat.le_of_ble_eq_true rfl, Nat.le_of_ble_eq_true rfl⟩, (G.2.2.2.1 _ ck_88), trivial⟩ rfl (Nat.le_of_ble_eq_true rfl) dX2_addRoad_17 ⟨Nat.le_refl _, Nat.le_refl _⟩) (fun _ => wback [0] rfl rfl) (fun H locs _ _ X => ?_)
      refine gb_if_eq (tgt := 28) hx hb dX2_addRoad_20 (by decide) (fun c_20 => ?_) (fun c_20 => ?_)
      ·
        rw [zir_n (by omega)] at c_20
        refine lv_iconst (v := nI 0) hx hb dX2_addRoad_28 (by decide) ?_
        exact cfin_I (()) (trivial) (congrArg (fun z => wcat [landP Z La z]) (by unfold zaRT; first | exact (if_pos (show zaR τ xa xb xc by omega)).symm | exact (if_neg (show ¬ (zaR τ xa xb xc) by omega)).symm)) (by first | exact zb_t (show zaR τ xa xb xc by omega) | exact zb_f (show ¬ (zaR τ xa xb xc) by omega)) X dX2_addRoad_29 fin
      ·
        rw [zir_n (by omega)] at c_20
        refine lv_iload_n hx hb dX2_addRoad_23 rfl (lv_at hl 1 rfl) ?_
        refine lv_iload_n hx hb dX2_addRoad_24 rfl (lv_at hl 2 rfl) ?_
        refine gn_icmp_ne (tgt := 30) hx hb dX2_addRoad_25 (by decide) (by omega) (by omega) (fun c_25 => ?_) (fun c_25 => ?_)
        ·
          refine lv_iload_n hx hb dX2_addRoad_30 rfl (lv_at hl 3 rfl) ?_
          refine lv_iconst (v := nI 1) hx hb dX2_addRoad_31 (by decide) ?_
          refine gn_icmp_lt (tgt := 41) hx hb dX2_addRoad_32 (by decide) (by omega) (by omega) (fun c_32 => ?_) (fun c_32 => ?_)
          ·
            refine lv_iconst (v := nI 0) hx hb dX2_addRoad_41 (by decide) ?_
            exact cfin_I (()) (trivial) (congrArg (fun z => wcat [landP Z La z]) (by unfold zaRT; first | exact (if_pos (show zaR τ xa xb xc by omega)).symm | exact (if_neg (show ¬ (zaR τ xa xb xc) by omega)).symm)) (by first | exact zb_t (show zaR τ xa xb xc by omega) | exact zb_f (show ¬ (zaR τ xa xb xc) by omega)) X dX2_addRoad_42 fin
          ·
            refine lv_iload_n hx hb dX2_addRoad_35 rfl (lv_at hl 3 rfl) ?_
            refine lv_bipush (v := nI 60) hx hb dX2_addRoad_36 (by decide) ?_
            refine gn_icmp_le (tgt := 43) hx hb dX2_addRoad_38 (by decide) (by omega) (by omega) (fun c_38 => ?_) (fun c_38 => ?_)
            ·
              refine lv_aload_n hx hb dX2_addRoad_43 rfl (lv_at hl 0 rfl) ?_
              refine cg_2 G X 0 0 rfl rfl 1 (by decide) (G.2.2.2.1 _ ck_53) rfl rfl dX2_addRoad_44 ?_
              refine lv_aload_n hx hb dX2_addRoad_47 rfl (lv_at hl 0 rfl) ?_
              refine cg_2 G X 0 0 rfl rfl 0 (by decide) (G.2.2.2.1 _ ck_51) rfl rfl dX2_addRoad_48 ?_
              refine lv_iload_n hx hb dX2_addRoad_51 rfl (lv_at hl 1 rfl) ?_
              refine cr_iast (ps' := [landP Z La (sE τ 1 (τ.1 0) xa)]) G X 0 1 rfl rfl (by omega) (by decide) (congrArg (fun z => [z]) (landP_s1 (by omega))) dX2_addRoad_52 (fun H locs X => ?_)
              refine lv_aload_n hx hb dX2_addRoad_53 rfl (lv_at hl 0 rfl) ?_
              refine cg_2 G X 0 0 rfl rfl 2 (by decide) (G.2.2.2.1 _ ck_54) rfl rfl dX2_addRoad_54 ?_
              refine lv_aload_n hx hb dX2_addRoad_57 rfl (lv_at hl 0 rfl) ?_
              refine cg_2 G X 0 0 rfl rfl 0 (by decide) (G.2.2.2.1 _ ck_51) rfl rfl dX2_addRoad_58 ?_
              refine gi_eq (a := (τ.1 0)) rfl ?_
              refine lv_iload_n hx hb dX2_addRoad_61 rfl (lv_at hl 2 rfl) ?_
              refine cr_iast (ps' := [landP Z La (sE (sE τ 1 (τ.1 0) xa) 2 (τ.1 0) xb)]) G X 0 2 rfl rfl (by omega) (by decide) (congrArg (fun z => [z]) (landP_s2 (by omega))) dX2_addRoad_62 (fun H locs X => ?_)
              refine lv_aload_n hx hb dX2_addRoad_63 rfl (lv_at hl 0 rfl) ?_
              refine cg_2 G X 0 0 rfl rfl 3 (by decide) (G.2.2.2.1 _ ck_55) rfl rfl dX2_addRoad_64 ?_
              refine lv_aload_n hx hb dX2_addRoad_67 rfl (lv_at hl 0 rfl) ?_
              refine cg_2 G X 0 0 rfl rfl 0 (by decide) (G.2.2.2.1 _ ck_51) rfl rfl dX2_addRoad_68 ?_
              refine gi_eq (a := (τ.1 0)) rfl ?_
              refine lv_iload_n hx hb dX2_addRoad_71 rfl (lv_at hl 3 rfl) ?_
              refine cr_iast (ps' := [landP Z La (sE (sE (sE τ 1 (τ.1 0) xa) 2 (τ.1 0) xb) 3 (τ.1 0) xc)]) G X 0 3 rfl rfl (by omega) (by decide) (congrArg (fun z => [z]) (landP_s3 (by omega))) dX2_addRoad_72 (fun H locs X => ?_)
              refine lv_aload_n hx hb dX2_addRoad_73 rfl (lv_at hl 0 rfl) ?_
              refine lv_dup hx hb dX2_addRoad_74 rfl ?_
              refine cg_2 G X 0 0 rfl rfl 0 (by decide) (G.2.2.2.1 _ ck_51) rfl rfl dX2_addRoad_75 ?_
              refine gi_eq (a := (τ.1 0)) rfl ?_
              refine lv_iconst (v := nI 1) hx hb dX2_addRoad_78 (by decide) ?_
              refine gn_iadd hx hb dX2_addRoad_79  ?_
              refine cp_2 (ps' := [landP Z La (sF (sE (sE (sE τ 1 (τ.1 0) xa) 2 (τ.1 0) xb) 3 (τ.1 0) xc) 0 ((τ.1 0) + 1))]) G X 0 0 rfl rfl 0 (by decide) (G.2.2.2.1 _ ck_51) rfl rfl (ty := .int) (by decide +kernel) rfl rfl (Nat.le_of_ble_eq_true rfl) rfl dX2_addRoad_80 (fun H locs X => ?_)
              refine lv_iconst (v := nI 1) hx hb dX2_addRoad_83 (by decide) ?_
              exact cfin_I (()) (trivial) (congrArg (fun z => wcat [landP Z La z]) (by unfold zaRT; first | exact (if_pos (show zaR τ xa xb xc by omega)).symm | exact (if_neg (show ¬ (zaR τ xa xb xc) by omega)).symm)) (by first | exact zb_t (show zaR τ xa xb xc by omega) | exact zb_f (show ¬ (zaR τ xa xb xc) by omega)) X dX2_addRoad_84 fin
            ·
              refine lv_iconst (v := nI 0) hx hb dX2_addRoad_41 (by decide) ?_
              exact cfin_I (()) (trivial) (congrArg (fun z => wcat [landP Z La z]) (by unfold zaRT; first | exact (if_pos (show zaR τ xa xb xc by omega)).symm | exact (if_neg (show ¬ (zaR τ xa xb xc) by omega)).symm)) (by first | exact zb_t (show zaR τ xa xb xc by omega) | exact zb_f (show ¬ (zaR τ xa xb xc) by omega)) X dX2_addRoad_42 fin
        ·
          refine lv_iconst (v := nI 0) hx hb dX2_addRoad_28 (by decide) ?_
          exact cfin_I (()) (trivial) (congrArg (fun z => wcat [landP Z La z]) (by unfold zaRT; first | exact (if_pos (show zaR τ xa xb xc by omega)).symm | exact (if_neg (show ¬ (zaR τ xa xb xc) by omega)).symm)) (by first | exact zb_t (show zaR τ xa xb xc by omega) | exact zb_f (show ¬ (zaR τ xa xb xc) by omega)) X dX2_addRoad_29 fin
set_option maxHeartbeats 4000000 in
set_option maxRecDepth 100000 in
theorem k2_addWorld {E : (Nat → Prop) → State → Heap → Prop} (hE : cEok E) {l : Launch} {D : va_G} {Z : Nat → ClassId} {La : LA} {τ : MS} (xa : Nat) (xb : Nat) (xc : Nat) (hok : mOk τ) (bxa : xa < 100000) (bxb : xb < 100000) (bxc : xc < 100000) (hs1 : zsum (τ.2 5) (τ.1 4) ≤ 100) : dtI E l D Z yX2_addWorld (Cond.code yX2_addWorld cX2_addWorld 4 (some .boolean) :: cW) { frames := 1, cells := 0, slots := 0, locals := 22 } [.ref La.1, .int (nI xa), .int (nI xb), .int (nI xc)] (wcat [landP Z La τ]) (S := Unit) (fun _ => wcat [landP Z La (zaWT τ xa xb xc)]) (fun _ => if zaW τ xa xb xc then 1 else 0) (fun _ => True) := by
  refine dtZ_of hE (cc := cX2_addWorld) (maxL := 4) (hnar := fun _ _ => zb_ite) (by decide +kernel) (fun w h => List.mem_cons_of_mem _ h) (Nat.le_of_ble_eq_true rfl) ?_
  intro p e s m args below meth c A Q ls hx hb hml hown hts G X hl fin
  replace hl : lv_has ls 4 [(0, .ref La.1), (1, .int (nI xa)), (2, .int (nI xb)), (3, .int (nI xc))] := hl
  obtain ⟨k0, k4, k8, kr, kw, ks, kmet, kmt, k12, k13⟩ := id hok
  refine lv_aload_n hx hb dX2_addWorld_0 rfl (lv_at hl 0 rfl) ?_
  refine cg_2 G X 0 0 rfl rfl 4 (by decide) (G.2.2.2.1 _ ck_56) rfl rfl dX2_addWorld_1 ?_
  refine lv_iconst (v := nI 5) hx hb dX2_addWorld_4 (by decide) ?_
  refine gn_icmp_ge (tgt := 25) hx hb dX2_addWorld_5 (by decide) (by omega) (by omega) (fun c_5 => ?_) (fun c_5 => ?_)
  ·
    refine lv_iconst (v := nI 0) hx hb dX2_addWorld_25 (by decide) ?_
    exact cfin_I (()) (trivial) (congrArg (fun z => wcat [landP Z La z]) (by unfold zaWT; first | exact (if_pos (show zaW τ xa xb xc by omega)).symm | exact (if_neg (show ¬ (zaW τ xa xb xc) by omega)).symm)) (by first | exact zb_t (show zaW τ xa xb xc by omega) | exact zb_f (show ¬ (zaW τ xa xb xc) by omega)) X dX2_addWorld_26 fin
  ·
    refine lv_iload_n hx hb dX2_addWorld_8 rfl (lv_at hl 2 rfl) ?_
    refine dtI_go (w := wcat []) (wf := wcat [landP Z La τ]) (W1 := fun _ => wcat [landP Z La τ]) G X (wsel [0] rfl rfl) (run_SN (As := [.int (nI xb)]) (rest := []) (n := 1) G hml hts hl.1 (k11_isCrossing hE (nI xb) _) ⟨va_cnB 1 hts (cg_0 ck_86) rfl rfl rfl (G.2.2.2.2.2.1.2.2.2.2 _ _ _ G.2.2.2.2.2.2.1).1 (G.2.2.2.1 _ ck_89) (by decide +kernel) ⟨Nat.le_of_ble_eq_true rfl, Nat.le_of_ble_eq_true rfl⟩, (G.2.2.2.1 _ ck_88), trivial⟩ rfl (Nat.le_of_ble_eq_true rfl) dX2_addWorld_9 ⟨Nat.le_refl _, Nat.le_refl _⟩) (fun _ => wback [0] rfl rfl) (fun H locs _ _ X => ?_)
    refine gb_if_eq (tgt := 25) hx hb dX2_addWorld_12 (by decide) (fun c_12 => ?_) (fun c_12 => ?_)
    ·
      rw [zir_n (by omega)] at c_12
      refine lv_iconst (v := nI 0) hx hb dX2_addWorld_25 (by decide) ?_
      exact cfin_I (()) (trivial) (congrArg (fun z => wcat [landP Z La z]) (by unfold zaWT; first | exact (if_pos (show zaW τ xa xb xc by omega)).symm | exact (if_neg (show ¬ (zaW τ xa xb xc) by omega)).symm)) (by first | exact zb_t (show zaW τ xa xb xc by omega) | exact zb_f (show ¬ (zaW τ xa xb xc) by omega)) X dX2_addWorld_26 fin
    ·
      rw [zir_n (by omega)] at c_12
      refine lv_iload_n hx hb dX2_addWorld_15 rfl (lv_at hl 3 rfl) ?_
      refine gn_if_lt (tgt := 25) hx hb dX2_addWorld_16 (by decide) (by omega) ?_
      refine lv_iload_n hx hb dX2_addWorld_19 rfl (lv_at hl 3 rfl) ?_
      refine gn_ldc (v := 65535) (k := 65535) hx hb G.2.2.1 (G.2.2.2.1 _ ck_91) (by decide) dX2_addWorld_20 ?_
      refine gn_icmp_le (tgt := 27) hx hb dX2_addWorld_22 (by decide) (by omega) (by omega) (fun c_22 => ?_) (fun c_22 => ?_)
      ·
        refine lv_iload_n hx hb dX2_addWorld_27 rfl (lv_at hl 1 rfl) ?_
        refine lv_iconst (v := nI 1) hx hb dX2_addWorld_28 (by decide) ?_
        refine gn_icmp_lt (tgt := 43) hx hb dX2_addWorld_29 (by decide) (by omega) (by omega) (fun c_29 => ?_) (fun c_29 => ?_)
        ·
          refine lv_iconst (v := nI 0) hx hb dX2_addWorld_43 (by decide) ?_
          exact cfin_I (()) (trivial) (congrArg (fun z => wcat [landP Z La z]) (by unfold zaWT; first | exact (if_pos (show zaW τ xa xb xc by omega)).symm | exact (if_neg (show ¬ (zaW τ xa xb xc) by omega)).symm)) (by first | exact zb_t (show zaW τ xa xb xc by omega) | exact zb_f (show ¬ (zaW τ xa xb xc) by omega)) X dX2_addWorld_44 fin
        ·
          refine lv_iload_n hx hb dX2_addWorld_32 rfl (lv_at hl 1 rfl) ?_
          refine lv_bipush (v := nI 100) hx hb dX2_addWorld_33 (by decide) ?_
          refine lv_aload_n hx hb dX2_addWorld_35 rfl (lv_at hl 0 rfl) ?_
          refine dtI_go (w := wcat [landP Z La τ]) (wf := wcat []) (W1 := fun _ => wcat [landP Z La τ]) G X (wsel [0] rfl rfl) (run_V (As := []) (rest := [.int (nI 100), .int (nI xa)]) (n := 0) G hml hts hl.1 (p_recv G X 0 0 rfl rfl rfl) (k2_chancesTogether hE hok _) (cwV 0 hts (cg_V ck_74 ck_76 ck_77 ck_78 ck_79) rfl rfl rfl (by decide +kernel) ⟨Nat.le_of_ble_eq_true rfl, Nat.le_of_ble_eq_true rfl⟩) rfl (Nat.le_of_ble_eq_true rfl) dX2_addWorld_36 ⟨Nat.le_refl _, Nat.le_refl _⟩) (fun _ => wback [0] rfl rfl) (fun H locs _ _ X => ?_)
          refine gn_isub hx hb dX2_addWorld_39 (by omega) ?_
          refine gn_icmp_le (tgt := 45) hx hb dX2_addWorld_40 (by decide) (by omega) (by omega) (fun c_40 => ?_) (fun c_40 => ?_)
          ·
            refine lv_aload_n hx hb dX2_addWorld_45 rfl (lv_at hl 0 rfl) ?_
            refine cg_2 G X 0 0 rfl rfl 5 (by decide) (G.2.2.2.1 _ ck_57) rfl rfl dX2_addWorld_46 ?_
            refine lv_aload_n hx hb dX2_addWorld_49 rfl (lv_at hl 0 rfl) ?_
            refine cg_2 G X 0 0 rfl rfl 4 (by decide) (G.2.2.2.1 _ ck_56) rfl rfl dX2_addWorld_50 ?_
            refine lv_iload_n hx hb dX2_addWorld_53 rfl (lv_at hl 1 rfl) ?_
            refine cr_iast (ps' := [landP Z La (sE τ 5 (τ.1 4) xa)]) G X 0 4 rfl rfl (by omega) (by decide) (congrArg (fun z => [z]) (landP_s5 (by omega))) dX2_addWorld_54 (fun H locs X => ?_)
            refine lv_aload_n hx hb dX2_addWorld_55 rfl (lv_at hl 0 rfl) ?_
            refine cg_2 G X 0 0 rfl rfl 6 (by decide) (G.2.2.2.1 _ ck_58) rfl rfl dX2_addWorld_56 ?_
            refine lv_aload_n hx hb dX2_addWorld_59 rfl (lv_at hl 0 rfl) ?_
            refine cg_2 G X 0 0 rfl rfl 4 (by decide) (G.2.2.2.1 _ ck_56) rfl rfl dX2_addWorld_60 ?_
            refine gi_eq (a := (τ.1 4)) rfl ?_
            refine lv_iload_n hx hb dX2_addWorld_63 rfl (lv_at hl 2 rfl) ?_
            refine cr_iast (ps' := [landP Z La (sE (sE τ 5 (τ.1 4) xa) 6 (τ.1 4) xb)]) G X 0 5 rfl rfl (by omega) (by decide) (congrArg (fun z => [z]) (landP_s6 (by omega))) dX2_addWorld_64 (fun H locs X => ?_)
            refine lv_aload_n hx hb dX2_addWorld_65 rfl (lv_at hl 0 rfl) ?_
            refine cg_2 G X 0 0 rfl rfl 7 (by decide) (G.2.2.2.1 _ ck_59) rfl rfl dX2_addWorld_66 ?_
            refine lv_aload_n hx hb dX2_addWorld_69 rfl (lv_at hl 0 rfl) ?_
            refine cg_2 G X 0 0 rfl rfl 4 (by decide) (G.2.2.2.1 _ ck_56) rfl rfl dX2_addWorld_70 ?_
            refine gi_eq (a := (τ.1 4)) rfl ?_
            refine lv_iload_n hx hb dX2_addWorld_73 rfl (lv_at hl 3 rfl) ?_
            refine cr_iast (ps' := [landP Z La (sE (sE (sE τ 5 (τ.1 4) xa) 6 (τ.1 4) xb) 7 (τ.1 4) xc)]) G X 0 6 rfl rfl (by omega) (by decide) (congrArg (fun z => [z]) (landP_s7 (by omega))) dX2_addWorld_74 (fun H locs X => ?_)
            refine lv_aload_n hx hb dX2_addWorld_75 rfl (lv_at hl 0 rfl) ?_
            refine lv_dup hx hb dX2_addWorld_76 rfl ?_
            refine cg_2 G X 0 0 rfl rfl 4 (by decide) (G.2.2.2.1 _ ck_56) rfl rfl dX2_addWorld_77 ?_
            refine gi_eq (a := (τ.1 4)) rfl ?_
            refine lv_iconst (v := nI 1) hx hb dX2_addWorld_80 (by decide) ?_
            refine gn_iadd hx hb dX2_addWorld_81  ?_
            refine cp_2 (ps' := [landP Z La (sF (sE (sE (sE τ 5 (τ.1 4) xa) 6 (τ.1 4) xb) 7 (τ.1 4) xc) 4 ((τ.1 4) + 1))]) G X 0 0 rfl rfl 4 (by decide) (G.2.2.2.1 _ ck_56) rfl rfl (ty := .int) (by decide +kernel) rfl rfl (Nat.le_of_ble_eq_true rfl) rfl dX2_addWorld_82 (fun H locs X => ?_)
            refine lv_iconst (v := nI 1) hx hb dX2_addWorld_85 (by decide) ?_
            exact cfin_I (()) (trivial) (congrArg (fun z => wcat [landP Z La z]) (by unfold zaWT; first | exact (if_pos (show zaW τ xa xb xc by omega)).symm | exact (if_neg (show ¬ (zaW τ xa xb xc) by omega)).symm)) (by first | exact zb_t (show zaW τ xa xb xc by omega) | exact zb_f (show ¬ (zaW τ xa xb xc) by omega)) X dX2_addWorld_86 fin
          ·
            refine lv_iconst (v := nI 0) hx hb dX2_addWorld_43 (by decide) ?_
            exact cfin_I (()) (trivial) (congrArg (fun z => wcat [landP Z La z]) (by unfold zaWT; first | exact (if_pos (show zaW τ xa xb xc by omega)).symm | exact (if_neg (show ¬ (zaW τ xa xb xc) by omega)).symm)) (by first | exact zb_t (show zaW τ xa xb xc by omega) | exact zb_f (show ¬ (zaW τ xa xb xc) by omega)) X dX2_addWorld_44 fin
      ·
        refine lv_iconst (v := nI 0) hx hb dX2_addWorld_25 (by decide) ?_
        exact cfin_I (()) (trivial) (congrArg (fun z => wcat [landP Z La z]) (by unfold zaWT; first | exact (if_pos (show zaW τ xa xb xc by omega)).symm | exact (if_neg (show ¬ (zaW τ xa xb xc) by omega)).symm)) (by first | exact zb_t (show zaW τ xa xb xc by omega) | exact zb_f (show ¬ (zaW τ xa xb xc) by omega)) X dX2_addWorld_26 fin
set_option maxHeartbeats 4000000 in
set_option maxRecDepth 100000 in
theorem k2_addSort {E : (Nat → Prop) → State → Heap → Prop} (hE : cEok E) {l : Launch} {D : va_G} {Z : Nat → ClassId} {La : LA} {τ : MS} (xa : Nat) (xb : Nat) (hok : mOk τ) (bxa : xa < 100000) (bxb : xb < 100000) : dtI E l D Z yX2_addSort (Cond.code yX2_addSort cX2_addSort 3 (some .boolean) :: cW) { frames := 1, cells := 0, slots := 0, locals := 20 } [.ref La.1, .int (nI xa), .int (nI xb)] (wcat [landP Z La τ]) (S := Unit) (fun _ => wcat [landP Z La (zaST τ xa xb)]) (fun _ => if zaS τ xa xb then 1 else 0) (fun _ => True) := by
  refine dtZ_of hE (cc := cX2_addSort) (maxL := 3) (hnar := fun _ _ => zb_ite) (by decide +kernel) (fun w h => List.mem_cons_of_mem _ h) (Nat.le_of_ble_eq_true rfl) ?_
  intro p e s m args below meth c A Q ls hx hb hml hown hts G X hl fin
  replace hl : lv_has ls 3 [(0, .ref La.1), (1, .int (nI xa)), (2, .int (nI xb))] := hl
  obtain ⟨k0, k4, k8, kr, kw, ks, kmet, kmt, k12, k13⟩ := id hok
  refine lv_aload_n hx hb dX2_addSort_0 rfl (lv_at hl 0 rfl) ?_
  refine cg_2 G X 0 0 rfl rfl 8 (by decide) (G.2.2.2.1 _ ck_60) rfl rfl dX2_addSort_1 ?_
  refine lv_bipush (v := nI 6) hx hb dX2_addSort_4 (by decide) ?_
  refine gn_icmp_ge (tgt := 25) hx hb dX2_addSort_6 (by decide) (by omega) (by omega) (fun c_6 => ?_) (fun c_6 => ?_)
  ·
    refine lv_iconst (v := nI 0) hx hb dX2_addSort_25 (by decide) ?_
    exact cfin_I (()) (trivial) (congrArg (fun z => wcat [landP Z La z]) (by unfold zaST; first | exact (if_pos (show zaS τ xa xb by omega)).symm | exact (if_neg (show ¬ (zaS τ xa xb) by omega)).symm)) (by first | exact zb_t (show zaS τ xa xb by omega) | exact zb_f (show ¬ (zaS τ xa xb) by omega)) X dX2_addSort_26 fin
  ·
    refine lv_iload_n hx hb dX2_addSort_9 rfl (lv_at hl 1 rfl) ?_
    refine gn_if_lt (tgt := 25) hx hb dX2_addSort_10 (by decide) (by omega) ?_
    refine lv_iload_n hx hb dX2_addSort_13 rfl (lv_at hl 1 rfl) ?_
    refine lv_iconst (v := nI 5) hx hb dX2_addSort_14 (by decide) ?_
    refine gn_icmp_ge (tgt := 25) hx hb dX2_addSort_15 (by decide) (by omega) (by omega) (fun c_15 => ?_) (fun c_15 => ?_)
    ·
      refine lv_iconst (v := nI 0) hx hb dX2_addSort_25 (by decide) ?_
      exact cfin_I (()) (trivial) (congrArg (fun z => wcat [landP Z La z]) (by unfold zaST; first | exact (if_pos (show zaS τ xa xb by omega)).symm | exact (if_neg (show ¬ (zaS τ xa xb) by omega)).symm)) (by first | exact zb_t (show zaS τ xa xb by omega) | exact zb_f (show ¬ (zaS τ xa xb) by omega)) X dX2_addSort_26 fin
    ·
      refine lv_iload_n hx hb dX2_addSort_18 rfl (lv_at hl 2 rfl) ?_
      refine dtI_go (w := wcat []) (wf := wcat [landP Z La τ]) (W1 := fun _ => wcat [landP Z La τ]) G X (wsel [0] rfl rfl) (run_SN (As := [.int (nI xb)]) (rest := []) (n := 1) G hml hts hl.1 (k11_isFigure hE (nI xb) _) ⟨va_cnB 1 hts (cg_0 ck_92) rfl rfl rfl (G.2.2.2.2.2.1.2.2.2.2 _ _ _ G.2.2.2.2.2.2.1).2.1 (G.2.2.2.1 _ ck_89) (by decide +kernel) ⟨Nat.le_of_ble_eq_true rfl, Nat.le_of_ble_eq_true rfl⟩, (G.2.2.2.1 _ ck_94), trivial⟩ rfl (Nat.le_of_ble_eq_true rfl) dX2_addSort_19 ⟨Nat.le_refl _, Nat.le_refl _⟩) (fun _ => wback [0] rfl rfl) (fun H locs _ _ X => ?_)
      refine gb_if_ne (tgt := 27) hx hb dX2_addSort_22 (by decide) (fun c_22 => ?_) (fun c_22 => ?_)
      ·
        rw [zir_n (by omega)] at c_22
        refine lv_aload_n hx hb dX2_addSort_27 rfl (lv_at hl 0 rfl) ?_
        refine cg_2 G X 0 0 rfl rfl 9 (by decide) (G.2.2.2.1 _ ck_61) rfl rfl dX2_addSort_28 ?_
        refine lv_aload_n hx hb dX2_addSort_31 rfl (lv_at hl 0 rfl) ?_
        refine cg_2 G X 0 0 rfl rfl 8 (by decide) (G.2.2.2.1 _ ck_60) rfl rfl dX2_addSort_32 ?_
        refine lv_iload_n hx hb dX2_addSort_35 rfl (lv_at hl 1 rfl) ?_
        refine cr_iast (ps' := [landP Z La (sE τ 9 (τ.1 8) xa)]) G X 0 7 rfl rfl (by omega) (by decide) (congrArg (fun z => [z]) (landP_s9 (by omega))) dX2_addSort_36 (fun H locs X => ?_)
        refine lv_aload_n hx hb dX2_addSort_37 rfl (lv_at hl 0 rfl) ?_
        refine cg_2 G X 0 0 rfl rfl 10 (by decide) (G.2.2.2.1 _ ck_62) rfl rfl dX2_addSort_38 ?_
        refine lv_aload_n hx hb dX2_addSort_41 rfl (lv_at hl 0 rfl) ?_
        refine cg_2 G X 0 0 rfl rfl 8 (by decide) (G.2.2.2.1 _ ck_60) rfl rfl dX2_addSort_42 ?_
        refine gi_eq (a := (τ.1 8)) rfl ?_
        refine lv_iload_n hx hb dX2_addSort_45 rfl (lv_at hl 2 rfl) ?_
        refine cr_iast (ps' := [landP Z La (sE (sE τ 9 (τ.1 8) xa) 10 (τ.1 8) xb)]) G X 0 8 rfl rfl (by omega) (by decide) (congrArg (fun z => [z]) (landP_s10 (by omega))) dX2_addSort_46 (fun H locs X => ?_)
        refine lv_aload_n hx hb dX2_addSort_47 rfl (lv_at hl 0 rfl) ?_
        refine lv_dup hx hb dX2_addSort_48 rfl ?_
        refine cg_2 G X 0 0 rfl rfl 8 (by decide) (G.2.2.2.1 _ ck_60) rfl rfl dX2_addSort_49 ?_
        refine gi_eq (a := (τ.1 8)) rfl ?_
        refine lv_iconst (v := nI 1) hx hb dX2_addSort_52 (by decide) ?_
        refine gn_iadd hx hb dX2_addSort_53  ?_
        refine cp_2 (ps' := [landP Z La (sF (sE (sE τ 9 (τ.1 8) xa) 10 (τ.1 8) xb) 8 ((τ.1 8) + 1))]) G X 0 0 rfl rfl 8 (by decide) (G.2.2.2.1 _ ck_60) rfl rfl (ty := .int) (by decide +kernel) rfl rfl (Nat.le_of_ble_eq_true rfl) rfl dX2_addSort_54 (fun H locs X => ?_)
        refine lv_iconst (v := nI 1) hx hb dX2_addSort_57 (by decide) ?_
        exact cfin_I (()) (trivial) (congrArg (fun z => wcat [landP Z La z]) (by unfold zaST; first | exact (if_pos (show zaS τ xa xb by omega)).symm | exact (if_neg (show ¬ (zaS τ xa xb) by omega)).symm)) (by first | exact zb_t (show zaS τ xa xb by omega) | exact zb_f (show ¬ (zaS τ xa xb) by omega)) X dX2_addSort_58 fin
      ·
        rw [zir_n (by omega)] at c_22
        refine lv_iconst (v := nI 0) hx hb dX2_addSort_25 (by decide) ?_
        exact cfin_I (()) (trivial) (congrArg (fun z => wcat [landP Z La z]) (by unfold zaST; first | exact (if_pos (show zaS τ xa xb by omega)).symm | exact (if_neg (show ¬ (zaS τ xa xb) by omega)).symm)) (by first | exact zb_t (show zaS τ xa xb by omega) | exact zb_f (show ¬ (zaS τ xa xb) by omega)) X dX2_addSort_26 fin
set_option maxHeartbeats 4000000 in
set_option maxRecDepth 100000 in
theorem k2_meet {E : (Nat → Prop) → State → Heap → Prop} (hE : cEok E) {l : Launch} {D : va_G} {Z : Nat → ClassId} {La : LA} {τ : MS} (xa : Nat) (xb : Nat) (xc : Nat) (hok : mOk τ) (bxa : xa < 100000) (bxb : xb < 100000) (bxc : xc < 100000) : dtI E l D Z yX2_meet (Cond.code yX2_meet cX2_meet 4 (some .boolean) :: cW) { frames := 1, cells := 0, slots := 0, locals := 23 } [.ref La.1, .int (nI xa), .int (nI xb), .int (nI xc)] (wcat [landP Z La τ]) (S := Unit) (fun _ => wcat [landP Z La (zaMT τ xa xb xc)]) (fun _ => if zaM τ xa xb xc then 1 else 0) (fun _ => True) := by
  refine dtZ_of hE (cc := cX2_meet) (maxL := 4) (hnar := fun _ _ => zb_ite) (by decide +kernel) (fun w h => List.mem_cons_of_mem _ h) (Nat.le_of_ble_eq_true rfl) ?_
  intro p e s m args below meth c A Q ls hx hb hml hown hts G X hl fin
  replace hl : lv_has ls 4 [(0, .ref La.1), (1, .int (nI xa)), (2, .int (nI xb)), (3, .int (nI xc))] := hl
  obtain ⟨k0, k4, k8, kr, kw, ks, kmet, kmt, k12, k13⟩ := id hok
  have hmt := fun h : xa < 8 => Nat.le_trans (zsum_mono (fun s => τ.2 11 (6 * xa + s)) k8) (kmt xa h)
  refine lv_iload_n hx hb dX2_meet_0 rfl (lv_at hl 1 rfl) ?_
  refine dtI_go (w := wcat []) (wf := wcat [landP Z La τ]) (W1 := fun _ => wcat [landP Z La τ]) G X (wsel [0] rfl rfl) (run_SN (As := [.int (nI xa)]) (rest := []) (n := 1) G hml hts hl.1 (k11_isCrossing hE (nI xa) _) ⟨va_cnB 1 hts (cg_0 ck_86) rfl rfl rfl (G.2.2.2.2.2.1.2.2.2.2 _ _ _ G.2.2.2.2.2.2.1).1 (G.2.2.2.1 _ ck_89) (by decide +kernel) ⟨Nat.le_of_ble_eq_true rfl, Nat.le_of_ble_eq_true rfl⟩, (G.2.2.2.1 _ ck_88), trivial⟩ rfl (Nat.le_of_ble_eq_true rfl) dX2_meet_1 ⟨Nat.le_refl _, Nat.le_refl _⟩) (fun _ => wback [0] rfl rfl) (fun H locs _ _ X => ?_)
  refine gb_if_eq (tgt := 19) hx hb dX2_meet_4 (by decide) (fun c_4 => ?_) (fun c_4 => ?_)
  ·
    rw [zir_n (by omega)] at c_4
    refine lv_iconst (v := nI 0) hx hb dX2_meet_19 (by decide) ?_
    exact cfin_I (()) (trivial) (congrArg (fun z => wcat [landP Z La z]) (by unfold zaMT; first | exact (if_pos (show zaM τ xa xb xc by omega)).symm | exact (if_neg (show ¬ (zaM τ xa xb xc) by omega)).symm)) (by first | exact zb_t (show zaM τ xa xb xc by omega) | exact zb_f (show ¬ (zaM τ xa xb xc) by omega)) X dX2_meet_20 fin
  ·
    rw [zir_n (by omega)] at c_4
    refine lv_aload_n hx hb dX2_meet_7 rfl (lv_at hl 0 rfl) ?_
    refine lv_iload_n hx hb dX2_meet_8 rfl (lv_at hl 2 rfl) ?_
    refine dtI_go (w := wcat [landP Z La τ]) (wf := wcat []) (W1 := fun _ => wcat [landP Z La τ]) G X (wsel [0] rfl rfl) (run_V (As := [.int (nI xb)]) (rest := []) (n := 1) G hml hts hl.1 (p_recv G X 0 0 rfl rfl rfl) (k2_hasSort hE (nI xb) hok _) (cwV 1 hts (cg_V ck_73 ck_97 ck_98 ck_99 ck_79) rfl rfl rfl (by decide +kernel) ⟨Nat.le_of_ble_eq_true rfl, Nat.le_of_ble_eq_true rfl⟩) rfl (Nat.le_of_ble_eq_true rfl) dX2_meet_9 ⟨Nat.le_refl _, Nat.le_refl _⟩) (fun _ => wback [0] rfl rfl) (fun H locs _ _ X => ?_)
    refine gb_if_eq (tgt := 19) hx hb dX2_meet_12 (by decide) (fun c_12 => ?_) (fun c_12 => ?_)
    ·
      rw [zir_n (by omega)] at c_12
      refine lv_iconst (v := nI 0) hx hb dX2_meet_19 (by decide) ?_
      exact cfin_I (()) (trivial) (congrArg (fun z => wcat [landP Z La z]) (by unfold zaMT; first | exact (if_pos (show zaM τ xa xb xc by omega)).symm | exact (if_neg (show ¬ (zaM τ xa xb xc) by omega)).symm)) (by first | exact zb_t (show zaM τ xa xb xc by omega) | exact zb_f (show ¬ (zaM τ xa xb xc) by omega)) X dX2_meet_20 fin
    ·
      rw [zir_n (by omega)] at c_12
      refine lv_iload_n hx hb dX2_meet_15 rfl (lv_at hl 3 rfl) ?_
      refine gn_if_ge (tgt := 21) hx hb dX2_meet_16 (by decide) (by omega) ?_
      have hmt2 := hmt c_4
      have hk1 := kmet (6 * xa + xb) (by omega)
      refine lv_iload_n hx hb dX2_meet_21 rfl (lv_at hl 3 rfl) ?_
      refine lv_bipush (v := nI 100) hx hb dX2_meet_22 (by decide) ?_
      refine lv_aload_n hx hb dX2_meet_24 rfl (lv_at hl 0 rfl) ?_
      refine lv_iload_n hx hb dX2_meet_25 rfl (lv_at hl 1 rfl) ?_
      refine dtI_go (w := wcat [landP Z La τ]) (wf := wcat []) (W1 := fun _ => wcat [landP Z La τ]) G X (wsel [0] rfl rfl) (run_V (As := [.int (nI xa)]) (rest := [.int (nI 100), .int (nI xc)]) (n := 1) G hml hts hl.1 (p_recv G X 0 0 rfl rfl rfl) (k2_metTogether hE xa hok (by omega) _) (cwV 1 hts (cg_V ck_95 ck_100 ck_101 ck_102 ck_79) rfl rfl rfl (by decide +kernel) ⟨Nat.le_of_ble_eq_true rfl, Nat.le_of_ble_eq_true rfl⟩) rfl (Nat.le_of_ble_eq_true rfl) dX2_meet_26 ⟨Nat.le_refl _, Nat.le_refl _⟩) (fun _ => wback [0] rfl rfl) (fun H locs _ _ X => ?_)
      refine gn_isub hx hb dX2_meet_29 (by omega) ?_
      refine lv_aload_n hx hb dX2_meet_30 rfl (lv_at hl 0 rfl) ?_
      refine cg_2 G X 0 0 rfl rfl 11 (by decide) (G.2.2.2.1 _ ck_64) rfl rfl dX2_meet_31 ?_
      refine lv_iload_n hx hb dX2_meet_34 rfl (lv_at hl 1 rfl) ?_
      refine cr_aald G X 0 10 rfl rfl (by omega) (by decide) (if_pos (by omega)) dX2_meet_35 ?_
      refine lv_iload_n hx hb dX2_meet_36 rfl (lv_at hl 2 rfl) ?_
      refine cr_iald G X 0 (xa + 14) rfl (landP_r11 (by omega)) (by omega) (by decide) dX2_meet_37 ?_
      refine gi_eq (a := (τ.2 11 (6 * xa + xb))) (zrow_in (by omega)) ?_
      refine gn_iadd hx hb dX2_meet_38  ?_
      refine gn_icmp_le (tgt := 44) hx hb dX2_meet_39 (by decide) (by omega) (by omega) (fun c_39 => ?_) (fun c_39 => ?_)
      ·
        refine lv_aload_n hx hb dX2_meet_44 rfl (lv_at hl 0 rfl) ?_
        refine cg_2 G X 0 0 rfl rfl 11 (by decide) (G.2.2.2.1 _ ck_64) rfl rfl dX2_meet_45 ?_
        refine lv_iload_n hx hb dX2_meet_48 rfl (lv_at hl 1 rfl) ?_
        refine cr_aald G X 0 10 rfl rfl (by omega) (by decide) (if_pos (by omega)) dX2_meet_49 ?_
        refine lv_iload_n hx hb dX2_meet_50 rfl (lv_at hl 2 rfl) ?_
        refine lv_iload_n hx hb dX2_meet_51 rfl (lv_at hl 3 rfl) ?_
        refine cr_iast (ps' := [landP Z La (sE τ 11 (6 * xa + xb) xc)]) G X 0 (xa + 14) rfl (landP_r11 (by omega)) (by omega) (by decide) (congrArg (fun z => [z]) (landP_rs11 (by omega) (by omega))) dX2_meet_52 (fun H locs X => ?_)
        refine lv_iconst (v := nI 1) hx hb dX2_meet_53 (by decide) ?_
        exact cfin_I (()) (trivial) (congrArg (fun z => wcat [landP Z La z]) (by unfold zaMT; first | exact (if_pos (show zaM τ xa xb xc by omega)).symm | exact (if_neg (show ¬ (zaM τ xa xb xc) by omega)).symm)) (by first | exact zb_t (show zaM τ xa xb xc by omega) | exact zb_f (show ¬ (zaM τ xa xb xc) by omega)) X dX2_meet_54 fin
      ·
        refine lv_iconst (v := nI 0) hx hb dX2_meet_42 (by decide) ?_
        exact cfin_I (()) (trivial) (congrArg (fun z => wcat [landP Z La z]) (by unfold zaMT; first | exact (if_pos (show zaM τ xa xb xc by omega)).symm | exact (if_neg (show ¬ (zaM τ xa xb xc) by omega)).symm)) (by first | exact zb_t (show zaM τ xa xb xc by omega) | exact zb_f (show ¬ (zaM τ xa xb xc) by omega)) X dX2_meet_43 fin
set_option maxHeartbeats 4000000 in
set_option maxRecDepth 100000 in
theorem k2_beginAt {E : (Nat → Prop) → State → Heap → Prop} (hE : cEok E) {l : Launch} {D : va_G} {Z : Nat → ClassId} {La : LA} {τ : MS} (xa : Nat) (hok : mOk τ) (bxa : xa < 100000) : dtI E l D Z yX2_beginAt (Cond.code yX2_beginAt cX2_beginAt 2 (some .boolean) :: cW) { frames := 1, cells := 0, slots := 0, locals := 20 } [.ref La.1, .int (nI xa)] (wcat [landP Z La τ]) (S := Unit) (fun _ => wcat [landP Z La (zaBT τ xa)]) (fun _ => if xa < 8 then 1 else 0) (fun _ => True) := by
  refine dtZ_of hE (cc := cX2_beginAt) (maxL := 2) (hnar := fun _ _ => zb_ite) (by decide +kernel) (fun w h => List.mem_cons_of_mem _ h) (Nat.le_of_ble_eq_true rfl) ?_
  intro p e s m args below meth c A Q ls hx hb hml hown hts G X hl fin
  replace hl : lv_has ls 2 [(0, .ref La.1), (1, .int (nI xa))] := hl
  obtain ⟨k0, k4, k8, kr, kw, ks, kmet, kmt, k12, k13⟩ := id hok
  refine lv_iload_n hx hb dX2_beginAt_0 rfl (lv_at hl 1 rfl) ?_
  refine dtI_go (w := wcat []) (wf := wcat [landP Z La τ]) (W1 := fun _ => wcat [landP Z La τ]) G X (wsel [0] rfl rfl) (run_SN (As := [.int (nI xa)]) (rest := []) (n := 1) G hml hts hl.1 (k11_isCrossing hE (nI xa) _) ⟨va_cnB 1 hts (cg_0 ck_86) rfl rfl rfl (G.2.2.2.2.2.1.2.2.2.2 _ _ _ G.2.2.2.2.2.2.1).1 (G.2.2.2.1 _ ck_89) (by decide +kernel) ⟨Nat.le_of_ble_eq_true rfl, Nat.le_of_ble_eq_true rfl⟩, (G.2.2.2.1 _ ck_88), trivial⟩ rfl (Nat.le_of_ble_eq_true rfl) dX2_beginAt_1 ⟨Nat.le_refl _, Nat.le_refl _⟩) (fun _ => wback [0] rfl rfl) (fun H locs _ _ X => ?_)
  refine gb_if_ne (tgt := 9) hx hb dX2_beginAt_4 (by decide) (fun c_4 => ?_) (fun c_4 => ?_)
  ·
    rw [zir_n (by omega)] at c_4
    refine lv_aload_n hx hb dX2_beginAt_9 rfl (lv_at hl 0 rfl) ?_
    refine lv_iload_n hx hb dX2_beginAt_10 rfl (lv_at hl 1 rfl) ?_
    refine cp_2 (ps' := [landP Z La (sF τ 12 xa)]) G X 0 0 rfl rfl 12 (by decide) (G.2.2.2.1 _ ck_65) rfl rfl (ty := .int) (by decide +kernel) rfl rfl (Nat.le_of_ble_eq_true rfl) rfl dX2_beginAt_11 (fun H locs X => ?_)
    refine lv_iconst (v := nI 1) hx hb dX2_beginAt_14 (by decide) ?_
    exact cfin_I (()) (trivial) (congrArg (fun z => wcat [landP Z La z]) (by unfold zaBT; first | exact (if_pos (show xa < 8 by omega)).symm | exact (if_neg (show ¬ (xa < 8) by omega)).symm)) (by first | exact zb_t (show xa < 8 by omega) | exact zb_f (show ¬ (xa < 8) by omega)) X dX2_beginAt_15 fin
  ·
    rw [zir_n (by omega)] at c_4
    refine lv_iconst (v := nI 0) hx hb dX2_beginAt_7 (by decide) ?_
    exact cfin_I (()) (trivial) (congrArg (fun z => wcat [landP Z La z]) (by unfold zaBT; first | exact (if_pos (show xa < 8 by omega)).symm | exact (if_neg (show ¬ (xa < 8) by omega)).symm)) (by first | exact zb_t (show xa < 8 by omega) | exact zb_f (show ¬ (xa < 8) by omega)) X dX2_beginAt_8 fin
set_option maxHeartbeats 4000000 in
set_option maxRecDepth 100000 in
theorem k2_askFor {E : (Nat → Prop) → State → Heap → Prop} (hE : cEok E) {l : Launch} {D : va_G} {Z : Nat → ClassId} {La : LA} {τ : MS} (xa : Nat) (hok : mOk τ) (bxa : xa < 100000) : dtI E l D Z yX2_askFor (Cond.code yX2_askFor cX2_askFor 2 (some .boolean) :: cW) { frames := 0, cells := 0, slots := 0, locals := 0 } [.ref La.1, .int (nI xa)] (wcat [landP Z La τ]) (S := Unit) (fun _ => wcat [landP Z La (zaAT τ xa)]) (fun _ => if xa ≤ 30 then 1 else 0) (fun _ => True) := by
  refine dtZ_of hE (cc := cX2_askFor) (maxL := 2) (hnar := fun _ _ => zb_ite) (by decide +kernel) (fun w h => List.mem_cons_of_mem _ h) (Nat.le_of_ble_eq_true rfl) ?_
  intro p e s m args below meth c A Q ls hx hb hml hown hts G X hl fin
  replace hl : lv_has ls 2 [(0, .ref La.1), (1, .int (nI xa))] := hl
  obtain ⟨k0, k4, k8, kr, kw, ks, kmet, kmt, k12, k13⟩ := id hok
  refine lv_iload_n hx hb dX2_askFor_0 rfl (lv_at hl 1 rfl) ?_
  refine gn_if_lt (tgt := 10) hx hb dX2_askFor_1 (by decide) (by omega) ?_
  refine lv_iload_n hx hb dX2_askFor_4 rfl (lv_at hl 1 rfl) ?_
  refine lv_bipush (v := nI 30) hx hb dX2_askFor_5 (by decide) ?_
  refine gn_icmp_le (tgt := 12) hx hb dX2_askFor_7 (by decide) (by omega) (by omega) (fun c_7 => ?_) (fun c_7 => ?_)
  ·
    refine lv_aload_n hx hb dX2_askFor_12 rfl (lv_at hl 0 rfl) ?_
    refine lv_iload_n hx hb dX2_askFor_13 rfl (lv_at hl 1 rfl) ?_
    refine cp_2 (ps' := [landP Z La (sF τ 13 xa)]) G X 0 0 rfl rfl 13 (by decide) (G.2.2.2.1 _ ck_66) rfl rfl (ty := .int) (by decide +kernel) rfl rfl (Nat.le_of_ble_eq_true rfl) rfl dX2_askFor_14 (fun H locs X => ?_)
    refine lv_iconst (v := nI 1) hx hb dX2_askFor_17 (by decide) ?_
    exact cfin_I (()) (trivial) (congrArg (fun z => wcat [landP Z La z]) (by unfold zaAT; first | exact (if_pos (show xa ≤ 30 by omega)).symm | exact (if_neg (show ¬ (xa ≤ 30) by omega)).symm)) (by first | exact zb_t (show xa ≤ 30 by omega) | exact zb_f (show ¬ (xa ≤ 30) by omega)) X dX2_askFor_18 fin
  ·
    refine lv_iconst (v := nI 0) hx hb dX2_askFor_10 (by decide) ?_
    exact cfin_I (()) (trivial) (congrArg (fun z => wcat [landP Z La z]) (by unfold zaAT; first | exact (if_pos (show xa ≤ 30 by omega)).symm | exact (if_neg (show ¬ (xa ≤ 30) by omega)).symm)) (by first | exact zb_t (show xa ≤ 30 by omega) | exact zb_f (show ¬ (xa ≤ 30) by omega)) X dX2_askFor_11 fin
set_option maxHeartbeats 4000000 in
set_option maxRecDepth 100000 in
theorem k2_becomeLike {E : (Nat → Prop) → State → Heap → Prop} (hE : cEok E) {l : Launch} {D : va_G} {Z : Nat → ClassId} {La Lb : LA} {τ τb : MS}  : dtV E l D Z yX2_becomeLike (Cond.code yX2_becomeLike cX2_becomeLike 3 none :: cW) { frames := 1, cells := 0, slots := 0, locals := 40 } [.ref La.1, .ref Lb.1] (wcat [landP Z La τ, landP Z Lb τb]) (S := Unit) (fun _ => wcat [landP Z La (zlike τ τb), landP Z Lb τb]) (fun _ => True) := by
  refine dtV_of hE (cc := cX2_becomeLike) (maxL := 3) (by decide +kernel) (fun w h => List.mem_cons_of_mem _ h) (Nat.le_of_ble_eq_true rfl) ?_
  intro p e s m args below meth c A Q ls hx hb hml hown hts G X hl fin
  replace hl : lv_has ls 3 [(0, .ref La.1), (1, .ref Lb.1)] := hl
  refine lv_aload_n hx hb dX2_becomeLike_0 rfl (lv_at hl 0 rfl) ?_
  refine lv_aload_n hx hb dX2_becomeLike_1 rfl (lv_at hl 1 rfl) ?_
  refine cg_2 G X 1 0 rfl rfl 0 (by decide) (G.2.2.2.1 _ ck_51) rfl rfl dX2_becomeLike_2 ?_
  refine cp_2 (ps' := [landP Z La (sF τ 0 (τb.1 0)), landP Z Lb τb]) G X 0 0 rfl rfl 0 (by decide) (G.2.2.2.1 _ ck_51) rfl rfl (ty := .int) (by decide +kernel) rfl rfl (Nat.le_of_ble_eq_true rfl) rfl dX2_becomeLike_5 (fun H locs X => ?_)
  refine lv_aload_n hx hb dX2_becomeLike_8 rfl (lv_at hl 1 rfl) ?_
  refine cg_2 G X 1 0 rfl rfl 1 (by decide) (G.2.2.2.1 _ ck_53) rfl rfl dX2_becomeLike_9 ?_
  refine lv_iconst (v := nI 0) hx hb dX2_becomeLike_12 (by decide) ?_
  refine lv_aload_n hx hb dX2_becomeLike_13 rfl (lv_at hl 0 rfl) ?_
  refine cg_2 G X 0 0 rfl rfl 1 (by decide) (G.2.2.2.1 _ ck_53) rfl rfl dX2_becomeLike_14 ?_
  refine lv_iconst (v := nI 0) hx hb dX2_becomeLike_17 (by decide) ?_
  refine lv_bipush (v := nI 16) hx hb dX2_becomeLike_18 (by decide) ?_
  refine cr_copyi (ps' := [landP Z La (sA (sF τ 0 (τb.1 0)) 1 (τb.2 1)), landP Z Lb τb]) (hml.trans hl.1.symm) G X 1 1 0 1 rfl rfl rfl rfl (fun k hk => zcl_out hk) (fun k hk => zcl_out hk) (by decide) (G.2.2.2.1 _ ck_82) rfl (Nat.le_of_ble_eq_true rfl) (Nat.le_of_ble_eq_true rfl) dX2_becomeLike_20 (fun H locs X => ?_)
  refine lv_aload_n hx hb dX2_becomeLike_23 rfl (lv_at hl 1 rfl) ?_
  refine cg_2 G X 1 0 rfl rfl 2 (by decide) (G.2.2.2.1 _ ck_54) rfl rfl dX2_becomeLike_24 ?_
  refine lv_iconst (v := nI 0) hx hb dX2_becomeLike_27 (by decide) ?_
  refine lv_aload_n hx hb dX2_becomeLike_28 rfl (lv_at hl 0 rfl) ?_
  refine cg_2 G X 0 0 rfl rfl 2 (by decide) (G.2.2.2.1 _ ck_54) rfl rfl dX2_becomeLike_29 ?_
  refine lv_iconst (v := nI 0) hx hb dX2_becomeLike_32 (by decide) ?_
  refine lv_bipush (v := nI 16) hx hb dX2_becomeLike_33 (by decide) ?_
  refine cr_copyi (ps' := [landP Z La (sA (sA (sF τ 0 (τb.1 0)) 1 (τb.2 1)) 2 (τb.2 2)), landP Z Lb τb]) (hml.trans hl.1.symm) G X 1 2 0 2 rfl rfl rfl rfl (fun k hk => zcl_out hk) (fun k hk => zcl_out hk) (by decide) (G.2.2.2.1 _ ck_82) rfl (Nat.le_of_ble_eq_true rfl) (Nat.le_of_ble_eq_true rfl) dX2_becomeLike_35 (fun H locs X => ?_)
  refine lv_aload_n hx hb dX2_becomeLike_38 rfl (lv_at hl 1 rfl) ?_
  refine cg_2 G X 1 0 rfl rfl 3 (by decide) (G.2.2.2.1 _ ck_55) rfl rfl dX2_becomeLike_39 ?_
  refine lv_iconst (v := nI 0) hx hb dX2_becomeLike_42 (by decide) ?_
  refine lv_aload_n hx hb dX2_becomeLike_43 rfl (lv_at hl 0 rfl) ?_
  refine cg_2 G X 0 0 rfl rfl 3 (by decide) (G.2.2.2.1 _ ck_55) rfl rfl dX2_becomeLike_44 ?_
  refine lv_iconst (v := nI 0) hx hb dX2_becomeLike_47 (by decide) ?_
  refine lv_bipush (v := nI 16) hx hb dX2_becomeLike_48 (by decide) ?_
  refine cr_copyi (ps' := [landP Z La (sA (sA (sA (sF τ 0 (τb.1 0)) 1 (τb.2 1)) 2 (τb.2 2)) 3 (τb.2 3)), landP Z Lb τb]) (hml.trans hl.1.symm) G X 1 3 0 3 rfl rfl rfl rfl (fun k hk => zcl_out hk) (fun k hk => zcl_out hk) (by decide) (G.2.2.2.1 _ ck_82) rfl (Nat.le_of_ble_eq_true rfl) (Nat.le_of_ble_eq_true rfl) dX2_becomeLike_50 (fun H locs X => ?_)
  refine lv_aload_n hx hb dX2_becomeLike_53 rfl (lv_at hl 0 rfl) ?_
  refine lv_aload_n hx hb dX2_becomeLike_54 rfl (lv_at hl 1 rfl) ?_
  refine cg_2 G X 1 0 rfl rfl 4 (by decide) (G.2.2.2.1 _ ck_56) rfl rfl dX2_becomeLike_55 ?_
  refine cp_2 (ps' := [landP Z La (sF (sA (sA (sA (sF τ 0 (τb.1 0)) 1 (τb.2 1)) 2 (τb.2 2)) 3 (τb.2 3)) 4 (τb.1 4)), landP Z Lb τb]) G X 0 0 rfl rfl 4 (by decide) (G.2.2.2.1 _ ck_56) rfl rfl (ty := .int) (by decide +kernel) rfl rfl (Nat.le_of_ble_eq_true rfl) rfl dX2_becomeLike_58 (fun H locs X => ?_)
  refine lv_aload_n hx hb dX2_becomeLike_61 rfl (lv_at hl 1 rfl) ?_
  refine cg_2 G X 1 0 rfl rfl 5 (by decide) (G.2.2.2.1 _ ck_57) rfl rfl dX2_becomeLike_62 ?_
  refine lv_iconst (v := nI 0) hx hb dX2_becomeLike_65 (by decide) ?_
  refine lv_aload_n hx hb dX2_becomeLike_66 rfl (lv_at hl 0 rfl) ?_
  refine cg_2 G X 0 0 rfl rfl 5 (by decide) (G.2.2.2.1 _ ck_57) rfl rfl dX2_becomeLike_67 ?_
  refine lv_iconst (v := nI 0) hx hb dX2_becomeLike_70 (by decide) ?_
  refine lv_iconst (v := nI 5) hx hb dX2_becomeLike_71 (by decide) ?_
  refine cr_copyi (ps' := [landP Z La (sA (sF (sA (sA (sA (sF τ 0 (τb.1 0)) 1 (τb.2 1)) 2 (τb.2 2)) 3 (τb.2 3)) 4 (τb.1 4)) 5 (τb.2 5)), landP Z Lb τb]) (hml.trans hl.1.symm) G X 1 4 0 4 rfl rfl rfl rfl (fun k hk => zcl_out hk) (fun k hk => zcl_out hk) (by decide) (G.2.2.2.1 _ ck_82) rfl (Nat.le_of_ble_eq_true rfl) (Nat.le_of_ble_eq_true rfl) dX2_becomeLike_72 (fun H locs X => ?_)
  refine lv_aload_n hx hb dX2_becomeLike_75 rfl (lv_at hl 1 rfl) ?_
  refine cg_2 G X 1 0 rfl rfl 6 (by decide) (G.2.2.2.1 _ ck_58) rfl rfl dX2_becomeLike_76 ?_
  refine lv_iconst (v := nI 0) hx hb dX2_becomeLike_79 (by decide) ?_
  refine lv_aload_n hx hb dX2_becomeLike_80 rfl (lv_at hl 0 rfl) ?_
  refine cg_2 G X 0 0 rfl rfl 6 (by decide) (G.2.2.2.1 _ ck_58) rfl rfl dX2_becomeLike_81 ?_
  refine lv_iconst (v := nI 0) hx hb dX2_becomeLike_84 (by decide) ?_
  refine lv_iconst (v := nI 5) hx hb dX2_becomeLike_85 (by decide) ?_
  refine cr_copyi (ps' := [landP Z La (sA (sA (sF (sA (sA (sA (sF τ 0 (τb.1 0)) 1 (τb.2 1)) 2 (τb.2 2)) 3 (τb.2 3)) 4 (τb.1 4)) 5 (τb.2 5)) 6 (τb.2 6)), landP Z Lb τb]) (hml.trans hl.1.symm) G X 1 5 0 5 rfl rfl rfl rfl (fun k hk => zcl_out hk) (fun k hk => zcl_out hk) (by decide) (G.2.2.2.1 _ ck_82) rfl (Nat.le_of_ble_eq_true rfl) (Nat.le_of_ble_eq_true rfl) dX2_becomeLike_86 (fun H locs X => ?_)
  refine lv_aload_n hx hb dX2_becomeLike_89 rfl (lv_at hl 1 rfl) ?_
  refine cg_2 G X 1 0 rfl rfl 7 (by decide) (G.2.2.2.1 _ ck_59) rfl rfl dX2_becomeLike_90 ?_
  refine lv_iconst (v := nI 0) hx hb dX2_becomeLike_93 (by decide) ?_
  refine lv_aload_n hx hb dX2_becomeLike_94 rfl (lv_at hl 0 rfl) ?_
  refine cg_2 G X 0 0 rfl rfl 7 (by decide) (G.2.2.2.1 _ ck_59) rfl rfl dX2_becomeLike_95 ?_
  refine lv_iconst (v := nI 0) hx hb dX2_becomeLike_98 (by decide) ?_
  refine lv_iconst (v := nI 5) hx hb dX2_becomeLike_99 (by decide) ?_
  refine cr_copyi (ps' := [landP Z La (sA (sA (sA (sF (sA (sA (sA (sF τ 0 (τb.1 0)) 1 (τb.2 1)) 2 (τb.2 2)) 3 (τb.2 3)) 4 (τb.1 4)) 5 (τb.2 5)) 6 (τb.2 6)) 7 (τb.2 7)), landP Z Lb τb]) (hml.trans hl.1.symm) G X 1 6 0 6 rfl rfl rfl rfl (fun k hk => zcl_out hk) (fun k hk => zcl_out hk) (by decide) (G.2.2.2.1 _ ck_82) rfl (Nat.le_of_ble_eq_true rfl) (Nat.le_of_ble_eq_true rfl) dX2_becomeLike_100 (fun H locs X => ?_)
  refine lv_aload_n hx hb dX2_becomeLike_103 rfl (lv_at hl 0 rfl) ?_
  refine lv_aload_n hx hb dX2_becomeLike_104 rfl (lv_at hl 1 rfl) ?_
  refine cg_2 G X 1 0 rfl rfl 8 (by decide) (G.2.2.2.1 _ ck_60) rfl rfl dX2_becomeLike_105 ?_
  refine cp_2 (ps' := [landP Z La (sF (sA (sA (sA (sF (sA (sA (sA (sF τ 0 (τb.1 0)) 1 (τb.2 1)) 2 (τb.2 2)) 3 (τb.2 3)) 4 (τb.1 4)) 5 (τb.2 5)) 6 (τb.2 6)) 7 (τb.2 7)) 8 (τb.1 8)), landP Z Lb τb]) G X 0 0 rfl rfl 8 (by decide) (G.2.2.2.1 _ ck_60) rfl rfl (ty := .int) (by decide +kernel) rfl rfl (Nat.le_of_ble_eq_true rfl) rfl dX2_becomeLike_108 (fun H locs X => ?_)
  refine lv_aload_n hx hb dX2_becomeLike_111 rfl (lv_at hl 1 rfl) ?_
  refine cg_2 G X 1 0 rfl rfl 9 (by decide) (G.2.2.2.1 _ ck_61) rfl rfl dX2_becomeLike_112 ?_
  refine lv_iconst (v := nI 0) hx hb dX2_becomeLike_115 (by decide) ?_
  refine lv_aload_n hx hb dX2_becomeLike_116 rfl (lv_at hl 0 rfl) ?_
  refine cg_2 G X 0 0 rfl rfl 9 (by decide) (G.2.2.2.1 _ ck_61) rfl rfl dX2_becomeLike_117 ?_
  refine lv_iconst (v := nI 0) hx hb dX2_becomeLike_120 (by decide) ?_
  refine lv_bipush (v := nI 6) hx hb dX2_becomeLike_121 (by decide) ?_
  refine cr_copyi (ps' := [landP Z La (sA (sF (sA (sA (sA (sF (sA (sA (sA (sF τ 0 (τb.1 0)) 1 (τb.2 1)) 2 (τb.2 2)) 3 (τb.2 3)) 4 (τb.1 4)) 5 (τb.2 5)) 6 (τb.2 6)) 7 (τb.2 7)) 8 (τb.1 8)) 9 (τb.2 9)), landP Z Lb τb]) (hml.trans hl.1.symm) G X 1 7 0 7 rfl rfl rfl rfl (fun k hk => zcl_out hk) (fun k hk => zcl_out hk) (by decide) (G.2.2.2.1 _ ck_82) rfl (Nat.le_of_ble_eq_true rfl) (Nat.le_of_ble_eq_true rfl) dX2_becomeLike_123 (fun H locs X => ?_)
  refine lv_aload_n hx hb dX2_becomeLike_126 rfl (lv_at hl 1 rfl) ?_
  refine cg_2 G X 1 0 rfl rfl 10 (by decide) (G.2.2.2.1 _ ck_62) rfl rfl dX2_becomeLike_127 ?_
  refine lv_iconst (v := nI 0) hx hb dX2_becomeLike_130 (by decide) ?_
  refine lv_aload_n hx hb dX2_becomeLike_131 rfl (lv_at hl 0 rfl) ?_
  refine cg_2 G X 0 0 rfl rfl 10 (by decide) (G.2.2.2.1 _ ck_62) rfl rfl dX2_becomeLike_132 ?_
  refine lv_iconst (v := nI 0) hx hb dX2_becomeLike_135 (by decide) ?_
  refine lv_bipush (v := nI 6) hx hb dX2_becomeLike_136 (by decide) ?_
  refine cr_copyi (ps' := [landP Z La (sA (sA (sF (sA (sA (sA (sF (sA (sA (sA (sF τ 0 (τb.1 0)) 1 (τb.2 1)) 2 (τb.2 2)) 3 (τb.2 3)) 4 (τb.1 4)) 5 (τb.2 5)) 6 (τb.2 6)) 7 (τb.2 7)) 8 (τb.1 8)) 9 (τb.2 9)) 10 (τb.2 10)), landP Z Lb τb]) (hml.trans hl.1.symm) G X 1 8 0 8 rfl rfl rfl rfl (fun k hk => zcl_out hk) (fun k hk => zcl_out hk) (by decide) (G.2.2.2.1 _ ck_82) rfl (Nat.le_of_ble_eq_true rfl) (Nat.le_of_ble_eq_true rfl) dX2_becomeLike_138 (fun H locs X => ?_)
  refine lv_iconst (v := nI 0) hx hb dX2_becomeLike_141 (by decide) ?_
  refine lv_istore_n (lv' := [(2, .int (nI 0)), (0, .ref La.1), (1, .ref Lb.1)]) hx hb dX2_becomeLike_142 rfl hl (by decide) rfl (fun ls hl => ?_)
  have cut_143 : ∀ (NN : Nat) (w1 : Nat) (h1 : w1 ≤ 8), 8 - w1 < NN → ∀ (H : Heap) (locs : List Loc) (ls : Array Slot), wH D vwCl A s.heap H locs (wcat [landP Z La (sA (sA (sA (sF (sA (sA (sA (sF (sA (sA (sA (sF τ 0 (τb.1 0)) 1 (τb.2 1)) 2 (τb.2 2)) 3 (τb.2 3)) 4 (τb.1 4)) 5 (τb.2 5)) 6 (τb.2 6)) 7 (τb.2 7)) 8 (τb.1 8)) 9 (τb.2 9)) 10 (τb.2 10)) 11 (zcp (τb.2 11) ((sA (sA (sF (sA (sA (sA (sF (sA (sA (sA (sF τ 0 (τb.1 0)) 1 (τb.2 1)) 2 (τb.2 2)) 3 (τb.2 3)) 4 (τb.1 4)) 5 (τb.2 5)) 6 (τb.2 6)) 7 (τb.2 7)) 8 (τb.1 8)) 9 (τb.2 9)) 10 (τb.2 10)).2 11) (6 * w1))), landP Z Lb τb]) → lv_has ls 3 [(0, .ref La.1), (1, .ref Lb.1), (2, .int (nI w1))] → W p l e { frames := 1, cells := 0, slots := 0, locals := 40 } s m args below meth c H locs 0 0 Q (F0 m 143 ls []) := by
    intro NN
    induction NN with
    | zero => intro w1 h1 hNN; exact absurd hNN (Nat.not_lt_zero _)
    | succ NN ih_143 =>
      intro w1 h1 hNN H locs ls X hl
      refine lv_iload_n hx hb dX2_becomeLike_143 rfl (lv_at hl 2 rfl) ?_
      refine lv_bipush (v := nI 8) hx hb dX2_becomeLike_144 (by decide) ?_
      refine gn_icmp_ge (tgt := 174) hx hb dX2_becomeLike_146 (by decide) (by omega) (by omega) (fun c_146 => ?_) (fun c_146 => ?_)
      ·
        refine lv_aload_n hx hb dX2_becomeLike_174 rfl (lv_at hl 0 rfl) ?_
        refine lv_aload_n hx hb dX2_becomeLike_175 rfl (lv_at hl 1 rfl) ?_
        refine cg_2 G X 1 0 rfl rfl 12 (by decide) (G.2.2.2.1 _ ck_65) rfl rfl dX2_becomeLike_176 ?_
        refine cp_2 (ps' := [landP Z La (sF (sA (sA (sA (sF (sA (sA (sA (sF (sA (sA (sA (sF τ 0 (τb.1 0)) 1 (τb.2 1)) 2 (τb.2 2)) 3 (τb.2 3)) 4 (τb.1 4)) 5 (τb.2 5)) 6 (τb.2 6)) 7 (τb.2 7)) 8 (τb.1 8)) 9 (τb.2 9)) 10 (τb.2 10)) 11 (zcp (τb.2 11) ((sA (sA (sF (sA (sA (sA (sF (sA (sA (sA (sF τ 0 (τb.1 0)) 1 (τb.2 1)) 2 (τb.2 2)) 3 (τb.2 3)) 4 (τb.1 4)) 5 (τb.2 5)) 6 (τb.2 6)) 7 (τb.2 7)) 8 (τb.1 8)) 9 (τb.2 9)) 10 (τb.2 10)).2 11) (6 * w1))) 12 (τb.1 12)), landP Z Lb τb]) G X 0 0 rfl rfl 12 (by decide) (G.2.2.2.1 _ ck_65) rfl rfl (ty := .int) (by decide +kernel) rfl rfl (Nat.le_of_ble_eq_true rfl) rfl dX2_becomeLike_179 (fun H locs X => ?_)
        refine lv_aload_n hx hb dX2_becomeLike_182 rfl (lv_at hl 0 rfl) ?_
        refine lv_aload_n hx hb dX2_becomeLike_183 rfl (lv_at hl 1 rfl) ?_
        refine cg_2 G X 1 0 rfl rfl 13 (by decide) (G.2.2.2.1 _ ck_66) rfl rfl dX2_becomeLike_184 ?_
        refine cp_2 (ps' := [landP Z La (sF (sF (sA (sA (sA (sF (sA (sA (sA (sF (sA (sA (sA (sF τ 0 (τb.1 0)) 1 (τb.2 1)) 2 (τb.2 2)) 3 (τb.2 3)) 4 (τb.1 4)) 5 (τb.2 5)) 6 (τb.2 6)) 7 (τb.2 7)) 8 (τb.1 8)) 9 (τb.2 9)) 10 (τb.2 10)) 11 (zcp (τb.2 11) ((sA (sA (sF (sA (sA (sA (sF (sA (sA (sA (sF τ 0 (τb.1 0)) 1 (τb.2 1)) 2 (τb.2 2)) 3 (τb.2 3)) 4 (τb.1 4)) 5 (τb.2 5)) 6 (τb.2 6)) 7 (τb.2 7)) 8 (τb.1 8)) 9 (τb.2 9)) 10 (τb.2 10)).2 11) (6 * w1))) 12 (τb.1 12)) 13 (τb.1 13)), landP Z Lb τb]) G X 0 0 rfl rfl 13 (by decide) (G.2.2.2.1 _ ck_66) rfl rfl (ty := .int) (by decide +kernel) rfl rfl (Nat.le_of_ble_eq_true rfl) rfl dX2_becomeLike_187 (fun H locs X => ?_)
        exact cfin_V (()) (trivial) (congrArg (fun z => wcat [z, landP Z Lb τb]) (landP_cong (τ := (sF (sF (sA (sA (sA (sF (sA (sA (sA (sF (sA (sA (sA (sF τ 0 (τb.1 0)) 1 (τb.2 1)) 2 (τb.2 2)) 3 (τb.2 3)) 4 (τb.1 4)) 5 (τb.2 5)) 6 (τb.2 6)) 7 (τb.2 7)) 8 (τb.1 8)) 9 (τb.2 9)) 10 (τb.2 10)) 11 (zcp (τb.2 11) ((sA (sA (sF (sA (sA (sA (sF (sA (sA (sA (sF τ 0 (τb.1 0)) 1 (τb.2 1)) 2 (τb.2 2)) 3 (τb.2 3)) 4 (τb.1 4)) 5 (τb.2 5)) 6 (τb.2 6)) 7 (τb.2 7)) 8 (τb.1 8)) 9 (τb.2 9)) 10 (τb.2 10)).2 11) (6 * w1))) 12 (τb.1 12)) 13 (τb.1 13))) (τ' := zlike τ τb) ⟨⟨rfl, rfl, rfl, rfl, rfl⟩, fun i hi => ⟨rfl, rfl, rfl⟩, fun i hi => ⟨rfl, rfl, rfl⟩, fun i hi => ⟨rfl, rfl⟩, fun i hi => (show zcp (τb.2 11) _ (6 * w1) i = τb.2 11 i from zcp_in (by omega)), fun i hi => ⟨rfl, rfl⟩, fun i hi => rfl, fun i hi => rfl⟩)) X dX2_becomeLike_190 fin
      ·
        refine lv_aload_n hx hb dX2_becomeLike_149 rfl (lv_at hl 1 rfl) ?_
        refine cg_2 G X 1 0 rfl rfl 11 (by decide) (G.2.2.2.1 _ ck_64) rfl rfl dX2_becomeLike_150 ?_
        refine lv_iload_n hx hb dX2_becomeLike_153 rfl (lv_at hl 2 rfl) ?_
        refine cr_aald G X 1 10 rfl rfl (by omega) (by decide) (if_pos (by omega)) dX2_becomeLike_154 ?_
        refine lv_iconst (v := nI 0) hx hb dX2_becomeLike_155 (by decide) ?_
        refine lv_aload_n hx hb dX2_becomeLike_156 rfl (lv_at hl 0 rfl) ?_
        refine cg_2 G X 0 0 rfl rfl 11 (by decide) (G.2.2.2.1 _ ck_64) rfl rfl dX2_becomeLike_157 ?_
        refine lv_iload_n hx hb dX2_becomeLike_160 rfl (lv_at hl 2 rfl) ?_
        refine cr_aald G X 0 10 rfl rfl (by omega) (by decide) (if_pos (by omega)) dX2_becomeLike_161 ?_
        refine lv_iconst (v := nI 0) hx hb dX2_becomeLike_162 (by decide) ?_
        refine lv_bipush (v := nI 6) hx hb dX2_becomeLike_163 (by decide) ?_
        refine cr_copyi (ps' := [landP Z La (sA (sA (sA (sF (sA (sA (sA (sF (sA (sA (sA (sF τ 0 (τb.1 0)) 1 (τb.2 1)) 2 (τb.2 2)) 3 (τb.2 3)) 4 (τb.1 4)) 5 (τb.2 5)) 6 (τb.2 6)) 7 (τb.2 7)) 8 (τb.1 8)) 9 (τb.2 9)) 10 (τb.2 10)) 11 (zcp (τb.2 11) ((sA (sA (sF (sA (sA (sA (sF (sA (sA (sA (sF τ 0 (τb.1 0)) 1 (τb.2 1)) 2 (τb.2 2)) 3 (τb.2 3)) 4 (τb.1 4)) 5 (τb.2 5)) 6 (τb.2 6)) 7 (τb.2 7)) 8 (τb.1 8)) 9 (τb.2 9)) 10 (τb.2 10)).2 11) (6 * (w1 + 1)))), landP Z Lb τb]) (hml.trans hl.1.symm) G X 1 (w1 + 14) 0 (w1 + 14) rfl (landP_r11 (by omega)) rfl (landP_r11 (by omega)) (fun k hk => zrow_out hk) (fun k hk => zrow_out hk) (by decide) (G.2.2.2.1 _ ck_82) (congrArg (fun z => [z, landP Z Lb τb]) (landP_rr (by omega))) (Nat.le_of_ble_eq_true rfl) (Nat.le_of_ble_eq_true rfl) dX2_becomeLike_165 (fun H locs X => ?_)
        refine lv_iinc (v := nI (w1 + 1)) (lv' := [(2, .int (nI (w1 + 1))), (0, .ref La.1), (1, .ref Lb.1)]) hx hb dX2_becomeLike_168 hl (k := 2) rfl (zn_inc _) (by decide) rfl (fun ls hl => ?_)
        refine lv_goto (tgt := 143) hx hb dX2_becomeLike_171 (by decide) ?_
        refine ih_143 (w1 + 1) (by omega) (by omega) _ _ _ (by exact X) (by exact lv_sub hl [1, 2, 0] rfl)
  refine cut_143 _ 0 (Nat.zero_le _) (Nat.lt_succ_self _) _ _ _ (by exact wx_eq (congrArg (fun z => wcat [landP Z La z, landP Z Lb τb]) (sA_f0 (sA (sA (sF (sA (sA (sA (sF (sA (sA (sA (sF τ 0 (τb.1 0)) 1 (τb.2 1)) 2 (τb.2 2)) 3 (τb.2 3)) 4 (τb.1 4)) 5 (τb.2 5)) 6 (τb.2 6)) 7 (τb.2 7)) 8 (τb.1 8)) 9 (τb.2 9)) 10 (τb.2 10)) 11 (τb.2 11))) X) (by exact lv_sub hl [1, 2, 0] rfl)
