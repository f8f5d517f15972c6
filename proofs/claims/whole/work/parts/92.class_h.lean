set_option maxHeartbeats 4000000 in
set_option maxRecDepth 100000 in
theorem k2_workOutOdds {E : (Nat → Prop) → State → Heap → Prop} (hE : cEok E) {l : Launch} {D : va_G} {Z : Nat → ClassId} {La : LA} {τ : MS} (xc : Nat) (hok : mOk τ) (hpl : zpl τ) (hmz : mZ τ) (hc : xc < 8) : dtV E l D Z yX2_workOutOdds (Cond.code yX2_workOutOdds cX2_workOutOdds 4 none :: cW) { frames := 1, cells := 0, slots := 0, locals := 24 } [.ref La.1, .int (nI xc)] (wcat [landP Z La τ]) (S := Unit) (fun _ => wcat [landP Z La (sA τ 62 (zod τ xc (τ.1 4) (τ.2 62)))]) (fun _ => True) := by
  refine dtV_of hE (cc := cX2_workOutOdds) (maxL := 4) (by decide +kernel) (fun w h => List.mem_cons_of_mem _ h) (Nat.le_of_ble_eq_true rfl) ?_
  intro p e s m args below meth c A Q ls hx hb hml hown hts G X hl fin
  replace hl : lv_has ls 4 [(0, .ref La.1), (1, .int (nI xc))] := hl
  obtain ⟨k0, k4, k8, kr, kw, ks, kmet, kmt, k12, k13⟩ := id hok
  have hmt := Nat.le_trans (zsum_mono (fun s => τ.2 11 (6 * xc + s)) k8) (kmt xc hc)
  refine lv_iconst (v := nI 0) hx hb dX2_workOutOdds_0 (by decide) ?_
  refine lv_istore_n (lv' := [(2, .int (nI 0)), (0, .ref La.1), (1, .int (nI xc))]) hx hb dX2_workOutOdds_1 rfl hl (by decide) rfl (fun ls hl => ?_)
  have cut_2 : ∀ (NN : Nat) (w1 : Nat) (h1 : w1 ≤ τ.1 4), τ.1 4 - w1 < NN → ∀ (H : Heap) (locs : List Loc) (ls : Array Slot), wH D vwCl A s.heap H locs (wcat [landP Z La (sA τ 62 (zod τ xc w1 (τ.2 62)))]) → lv_has ls 4 [(0, .ref La.1), (1, .int (nI xc)), (2, .int (nI w1))] → W p l e { frames := 1, cells := 0, slots := 0, locals := 24 } s m args below meth c H locs 0 0 Q (F0 m 2 ls []) := by
    intro NN
    induction NN with
    | zero => intro w1 h1 hNN; exact absurd hNN (Nat.not_lt_zero _)
    | succ NN ih_2 =>
      intro w1 h1 hNN H locs ls X hl
      refine lv_iload_n hx hb dX2_workOutOdds_2 rfl (lv_at hl 2 rfl) ?_
      refine lv_aload_n hx hb dX2_workOutOdds_3 rfl (lv_at hl 0 rfl) ?_
      refine cg_2 G X 0 0 rfl rfl 4 (by decide) (G.2.2.2.1 _ ck_56) rfl rfl dX2_workOutOdds_4 ?_
      refine gi_eq (a := (τ.1 4)) rfl ?_
      refine gn_icmp_ge (tgt := 107) hx hb dX2_workOutOdds_7 (by decide) (by omega) (by omega) (fun c_7 => ?_) (fun c_7 => ?_)
      ·
        exact cfin_V (()) (trivial) (congrArg (fun z => wcat [landP Z La (sA τ 62 (zod τ xc z (τ.2 62)))]) (show w1 = τ.1 4 by omega)) X dX2_workOutOdds_107 fin
      ·
        refine lv_iconst (v := nI 4294967295) hx hb dX2_workOutOdds_10 (by decide) ?_
        refine lv_istore_n (lv' := [(3, .int (nI 4294967295)), (0, .ref La.1), (1, .int (nI xc)), (2, .int (nI w1))]) hx hb dX2_workOutOdds_11 rfl hl (by decide) rfl (fun ls hl => ?_)
        have cut_12 : ∀ (NN : Nat) (j1 : Nat) (hj : j1 ≤ 6), 6 - j1 < NN → ∀ (H : Heap) (locs : List Loc) (ls : Array Slot), wH D vwCl A s.heap H locs (wcat [landP Z La (sA τ 62 (zoA τ xc w1 j1 (τ.2 62)))]) → lv_has ls 4 [(0, .ref La.1), (1, .int (nI xc)), (2, .int (nI w1)), (3, .int (nI (zac j1)))] → W p l e { frames := 1, cells := 0, slots := 0, locals := 24 } s m args below meth c H locs 0 0 Q (F0 m 12 ls []) := by
          intro NN
          induction NN with
          | zero => intro j1 hj hNN; exact absurd hNN (Nat.not_lt_zero _)
          | succ NN ih_12 =>
            intro j1 hj hNN H locs ls X hl
            refine lv_iload_n hx hb dX2_workOutOdds_12 rfl (lv_at hl 3 rfl) ?_
            refine lv_iconst (v := nI 5) hx hb dX2_workOutOdds_13 (by decide) ?_
            refine lv_icmp_ge (tgt := 36) hx hb dX2_workOutOdds_14 (by decide) (fun c_14 => ?_) (fun c_14 => ?_)
            ·
              rw [zac_ge (by decide) (by omega)] at c_14
              refine lv_aload_n hx hb dX2_workOutOdds_36 rfl (lv_at hl 0 rfl) ?_
              refine cg_2 G X 0 0 rfl rfl 17 (by decide) (G.2.2.2.1 _ ck_70) rfl rfl dX2_workOutOdds_37 ?_
              refine lv_iload_n hx hb dX2_workOutOdds_40 rfl (lv_at hl 1 rfl) ?_
              refine lv_iconst (v := nI 4294967295) hx hb dX2_workOutOdds_41 (by decide) ?_
              refine dtI_go (w := wcat []) (wf := wcat [landP Z La (sA τ 62 (zoA τ xc w1 j1 (τ.2 62)))]) (W1 := fun _ => wcat [landP Z La (sA τ 62 (zoA τ xc w1 j1 (τ.2 62)))]) G X (wsel [0] rfl rfl) (run_S (As := [.int (nI xc), .int (nI 4294967295)]) (rest := [.ref (La.2.1 17)]) (n := 2) G hml hts hl.1 (k2_oddsPlace hE xc 4294967295 _) (va_cwS 2 hts (cg_S ck_109 ck_124 ck_125 ck_79) rfl rfl rfl (by decide +kernel) ⟨Nat.le_of_ble_eq_true rfl, Nat.le_of_ble_eq_true rfl⟩) rfl (Nat.le_of_ble_eq_true rfl) dX2_workOutOdds_42 ⟨Nat.le_refl _, Nat.le_refl _⟩) (fun _ => wback [0] rfl rfl) (fun H locs _ _ X => ?_)
              refine gi_to (a := 6 * xc) ((zplc_nI _ _).trans (by rw [show zplc xc 4294967295 = 6 * xc from if_pos rfl])) ?_
              refine cr_aald G X 0 13 rfl rfl (by omega) (by decide) (if_pos (by omega)) dX2_workOutOdds_45 ?_
              refine lv_iload_n hx hb dX2_workOutOdds_46 rfl (lv_at hl 2 rfl) ?_
              refine lv_bipush (v := nI 100) hx hb dX2_workOutOdds_47 (by decide) ?_
              refine lv_aload_n hx hb dX2_workOutOdds_49 rfl (lv_at hl 0 rfl) ?_
              refine lv_iload_n hx hb dX2_workOutOdds_50 rfl (lv_at hl 1 rfl) ?_
              refine dtI_go (w := wcat [landP Z La (sA τ 62 (zoA τ xc w1 j1 (τ.2 62)))]) (wf := wcat []) (W1 := fun _ => wcat [landP Z La (sA τ 62 (zoA τ xc w1 j1 (τ.2 62)))]) G X (wsel [0] rfl rfl) (run_V (As := [.int (nI xc)]) (rest := [.int (nI 100), .int (nI w1), .ref (La.2.2 17 (6 * xc))]) (n := 1) G hml hts hl.1 (p_recv G X 0 0 rfl rfl rfl) (k2_metTogether hE (τ := (sA τ 62 (zoA τ xc w1 j1 (τ.2 62)))) xc hok (by omega) _) (cwV 1 hts (cg_V ck_95 ck_100 ck_101 ck_102 ck_79) rfl rfl rfl (by decide +kernel) ⟨Nat.le_of_ble_eq_true rfl, Nat.le_of_ble_eq_true rfl⟩) rfl (Nat.le_of_ble_eq_true rfl) dX2_workOutOdds_51 ⟨Nat.le_refl _, Nat.le_refl _⟩) (fun _ => wback [0] rfl rfl) (fun H locs _ _ X => ?_)
              refine gi_eq (a := zsum (fun s => τ.2 11 (6 * xc + s)) (τ.1 8)) rfl ?_
              refine gn_isub hx hb dX2_workOutOdds_54 (by omega) ?_
              refine cr_iast (ps' := [landP Z La (sE (sA τ 62 (zoA τ xc w1 j1 (τ.2 62))) 62 (5 * (6 * xc) + w1) (100 - (zsum (fun s => τ.2 11 (6 * xc + s)) (τ.1 8))))]) G X 0 (6 * xc + 32) rfl (landP_r17 (by omega)) (by omega) (by decide) (congrArg (fun z => [z]) (landP_rs17 (by omega) (by omega))) dX2_workOutOdds_55 (fun H locs X => ?_)
              refine lv_iconst (v := nI 0) hx hb dX2_workOutOdds_56 (by decide) ?_
              refine lv_istore_n (lv' := [(3, .int (nI 0)), (0, .ref La.1), (1, .int (nI xc)), (2, .int (nI w1))]) hx hb dX2_workOutOdds_57 rfl hl (by decide) rfl (fun ls hl => ?_)
              have cut_58 : ∀ (NN : Nat) (s1 : Nat) (hs1 : s1 ≤ τ.1 8), τ.1 8 - s1 < NN → ∀ (H : Heap) (locs : List Loc) (ls : Array Slot), wH D vwCl A s.heap H locs (wcat [landP Z La (sA τ 62 (zoB τ xc w1 s1 (τ.2 62)))]) → lv_has ls 4 [(0, .ref La.1), (1, .int (nI xc)), (2, .int (nI w1)), (3, .int (nI s1))] → W p l e { frames := 1, cells := 0, slots := 0, locals := 24 } s m args below meth c H locs 0 0 Q (F0 m 58 ls []) := by
                intro NN
                induction NN with
                | zero => intro s1 hs1 hNN; exact absurd hNN (Nat.not_lt_zero _)
                | succ NN ih_58 =>
                  intro s1 hs1 hNN H locs ls X hl
                  refine lv_iload_n hx hb dX2_workOutOdds_58 rfl (lv_at hl 3 rfl) ?_
                  refine lv_aload_n hx hb dX2_workOutOdds_59 rfl (lv_at hl 0 rfl) ?_
                  refine cg_2 G X 0 0 rfl rfl 8 (by decide) (G.2.2.2.1 _ ck_60) rfl rfl dX2_workOutOdds_60 ?_
                  refine gi_eq (a := (τ.1 8)) rfl ?_
                  refine gn_icmp_ge (tgt := 101) hx hb dX2_workOutOdds_63 (by decide) (by omega) (by omega) (fun c_63 => ?_) (fun c_63 => ?_)
                  ·
                    refine lv_iinc (v := nI (w1 + 1)) (lv' := [(2, .int (nI (w1 + 1))), (0, .ref La.1), (1, .int (nI xc)), (3, .int (nI s1))]) hx hb dX2_workOutOdds_101 hl (k := 2) rfl (zn_inc _) (by decide) rfl (fun ls hl => ?_)
                    refine lv_goto (tgt := 2) hx hb dX2_workOutOdds_104 (by decide) ?_
                    refine ih_2 (w1 + 1) (by omega) (by omega) _ _ _ (by exact wx_eq (congrArg (fun z => wcat [landP Z La (sA τ 62 z)]) (by rw [show s1 = τ.1 8 by omega]; exact zoB_e hok hmz hc (by omega))) X) (by exact lv_sub hl [1, 2, 0] rfl)
                  ·
                    have q9 := ks s1 c_63
                    have hsd : zsaid τ s1 xc w1 < τ.1 4 := zsaid_lt c_7
                    have qm := kmet (6 * xc + s1) (by omega)
                    refine lv_aload_n hx hb dX2_workOutOdds_66 rfl (lv_at hl 0 rfl) ?_
                    refine cg_2 G X 0 0 rfl rfl 17 (by decide) (G.2.2.2.1 _ ck_70) rfl rfl dX2_workOutOdds_67 ?_
                    refine lv_iload_n hx hb dX2_workOutOdds_70 rfl (lv_at hl 1 rfl) ?_
                    refine lv_aload_n hx hb dX2_workOutOdds_71 rfl (lv_at hl 0 rfl) ?_
                    refine lv_iload_n hx hb dX2_workOutOdds_72 rfl (lv_at hl 3 rfl) ?_
                    refine lv_iload_n hx hb dX2_workOutOdds_73 rfl (lv_at hl 1 rfl) ?_
                    refine lv_iload_n hx hb dX2_workOutOdds_74 rfl (lv_at hl 2 rfl) ?_
                    refine dtI_go (w := wcat [landP Z La (sA τ 62 (zoB τ xc w1 s1 (τ.2 62)))]) (wf := wcat []) (W1 := fun _ => wcat [landP Z La (sA τ 62 (zoB τ xc w1 s1 (τ.2 62)))]) G X (wsel [0] rfl rfl) (run_V (As := [.int (nI s1), .int (nI xc), .int (nI w1)]) (rest := [.int (nI xc), .ref (La.2.1 17)]) (n := 3) G hml hts hl.1 (p_recv G X 0 0 rfl rfl rfl) (k2_saidBy hE (τ := (sA τ 62 (zoB τ xc w1 s1 (τ.2 62)))) s1 xc w1 hok hpl c_63 (by omega) c_7 _) (cwV 3 hts (cg_V ck_107 ck_126 ck_127 ck_128 ck_79) rfl rfl rfl (by decide +kernel) ⟨Nat.le_of_ble_eq_true rfl, Nat.le_of_ble_eq_true rfl⟩) rfl (Nat.le_of_ble_eq_true rfl) dX2_workOutOdds_75 ⟨Nat.le_refl _, Nat.le_refl _⟩) (fun _ => wback [0] rfl rfl) (fun H locs _ _ X => ?_)
                    refine gi_eq (a := zsaid τ s1 xc w1) rfl ?_
                    refine dtI_go (w := wcat []) (wf := wcat [landP Z La (sA τ 62 (zoB τ xc w1 s1 (τ.2 62)))]) (W1 := fun _ => wcat [landP Z La (sA τ 62 (zoB τ xc w1 s1 (τ.2 62)))]) G X (wsel [0] rfl rfl) (run_S (As := [.int (nI xc), .int (nI (zsaid τ s1 xc w1))]) (rest := [.ref (La.2.1 17)]) (n := 2) G hml hts hl.1 (k2_oddsPlace hE xc (zsaid τ s1 xc w1) _) (va_cwS 2 hts (cg_S ck_109 ck_124 ck_125 ck_79) rfl rfl rfl (by decide +kernel) ⟨Nat.le_of_ble_eq_true rfl, Nat.le_of_ble_eq_true rfl⟩) rfl (Nat.le_of_ble_eq_true rfl) dX2_workOutOdds_78 ⟨Nat.le_refl _, Nat.le_refl _⟩) (fun _ => wback [0] rfl rfl) (fun H locs _ _ X => ?_)
                    refine gi_to (a := 6 * xc + 1 + zsaid τ s1 xc w1) ((zplc_nI _ _).trans (by rw [show zplc xc (zsaid τ s1 xc w1) = 6 * xc + 1 + zsaid τ s1 xc w1 from if_neg (by omega)])) ?_
                    refine cr_aald G X 0 13 rfl rfl (by omega) (by decide) (if_pos (by omega)) dX2_workOutOdds_81 ?_
                    refine lv_iload_n hx hb dX2_workOutOdds_82 rfl (lv_at hl 2 rfl) ?_
                    refine lv_dup2_11 hx hb dX2_workOutOdds_83 rfl rfl ?_
                    refine cr_iald G X 0 (6 * xc + 1 + zsaid τ s1 xc w1 + 32) rfl (landP_r17 (by omega)) (by omega) (by decide) dX2_workOutOdds_84 ?_
                    refine gi_eq (a := ((zoB τ xc w1 s1 (τ.2 62)) (5 * (6 * xc + 1 + zsaid τ s1 xc w1) + w1))) (zrow_in (by omega)) ?_
                    refine lv_aload_n hx hb dX2_workOutOdds_85 rfl (lv_at hl 0 rfl) ?_
                    refine cg_2 G X 0 0 rfl rfl 11 (by decide) (G.2.2.2.1 _ ck_64) rfl rfl dX2_workOutOdds_86 ?_
                    refine lv_iload_n hx hb dX2_workOutOdds_89 rfl (lv_at hl 1 rfl) ?_
                    refine cr_aald G X 0 10 rfl rfl (by omega) (by decide) (if_pos (by omega)) dX2_workOutOdds_90 ?_
                    refine lv_iload_n hx hb dX2_workOutOdds_91 rfl (lv_at hl 3 rfl) ?_
                    refine cr_iald G X 0 (xc + 14) rfl (landP_r11 (by omega)) (by omega) (by decide) dX2_workOutOdds_92 ?_
                    refine gi_eq (a := (τ.2 11 (6 * xc + s1))) (zrow_in (by omega)) ?_
                    refine gn_iadd hx hb dX2_workOutOdds_93  ?_
                    refine cr_iast (ps' := [landP Z La (sE (sA τ 62 (zoB τ xc w1 s1 (τ.2 62))) 62 (5 * (6 * xc + 1 + zsaid τ s1 xc w1) + w1) (((zoB τ xc w1 s1 (τ.2 62)) (5 * (6 * xc + 1 + zsaid τ s1 xc w1) + w1)) + (τ.2 11 (6 * xc + s1))))]) G X 0 (6 * xc + 1 + zsaid τ s1 xc w1 + 32) rfl (landP_r17 (by omega)) (by omega) (by decide) (congrArg (fun z => [z]) (landP_rs17 (by omega) (by omega))) dX2_workOutOdds_94 (fun H locs X => ?_)
                    refine lv_iinc (v := nI (s1 + 1)) (lv' := [(3, .int (nI (s1 + 1))), (0, .ref La.1), (1, .int (nI xc)), (2, .int (nI w1))]) hx hb dX2_workOutOdds_95 hl (k := 3) rfl (zn_inc _) (by decide) rfl (fun ls hl => ?_)
                    refine lv_goto (tgt := 58) hx hb dX2_workOutOdds_98 (by decide) ?_
                    refine ih_58 (s1 + 1) (by omega) (by omega) _ _ _ (by exact wx_eq (congrArg (fun z => wcat [landP Z La z]) ((sA_e1 τ 62 _ _ _).trans (congrArg (sA τ 62) (zoB_1 (by omega) (by omega))))) X) (by exact lv_sub hl [1, 2, 3, 0] rfl)
              refine cut_58 _ 0 (Nat.zero_le _) (Nat.lt_succ_self _) _ _ _ (by exact wx_eq (congrArg (fun z => wcat [landP Z La z]) ((sA_e1 τ 62 _ _ _).trans (congrArg (sA τ 62) (by rw [show j1 = 6 by omega]; exact zoB_0 (by omega))))) X) (by exact lv_sub hl [1, 2, 3, 0] rfl)
            ·
              rw [zac_ge (by decide) (by omega)] at c_14
              refine lv_aload_n hx hb dX2_workOutOdds_17 rfl (lv_at hl 0 rfl) ?_
              refine cg_2 G X 0 0 rfl rfl 17 (by decide) (G.2.2.2.1 _ ck_70) rfl rfl dX2_workOutOdds_18 ?_
              refine lv_iload_n hx hb dX2_workOutOdds_21 rfl (lv_at hl 1 rfl) ?_
              refine lv_iload_n hx hb dX2_workOutOdds_22 rfl (lv_at hl 3 rfl) ?_
              refine dtI_go (w := wcat []) (wf := wcat [landP Z La (sA τ 62 (zoA τ xc w1 j1 (τ.2 62)))]) (W1 := fun _ => wcat [landP Z La (sA τ 62 (zoA τ xc w1 j1 (τ.2 62)))]) G X (wsel [0] rfl rfl) (run_S (As := [.int (nI xc), .int (nI (zac j1))]) (rest := [.ref (La.2.1 17)]) (n := 2) G hml hts hl.1 (k2_oddsPlace hE xc (zac j1) _) (va_cwS 2 hts (cg_S ck_109 ck_124 ck_125 ck_79) rfl rfl rfl (by decide +kernel) ⟨Nat.le_of_ble_eq_true rfl, Nat.le_of_ble_eq_true rfl⟩) rfl (Nat.le_of_ble_eq_true rfl) dX2_workOutOdds_23 ⟨Nat.le_refl _, Nat.le_refl _⟩) (fun _ => wback [0] rfl rfl) (fun H locs _ _ X => ?_)
              refine gi_to (a := 6 * xc + j1) ((zplc_nI _ _).trans (by rw [zplc_ac (by omega)])) ?_
              refine cr_aald G X 0 13 rfl rfl (by omega) (by decide) (if_pos (by omega)) dX2_workOutOdds_26 ?_
              refine lv_iload_n hx hb dX2_workOutOdds_27 rfl (lv_at hl 2 rfl) ?_
              refine lv_iconst (v := nI 0) hx hb dX2_workOutOdds_28 (by decide) ?_
              refine cr_iast (ps' := [landP Z La (sE (sA τ 62 (zoA τ xc w1 j1 (τ.2 62))) 62 (5 * (6 * xc + j1) + w1) 0)]) G X 0 (6 * xc + j1 + 32) rfl (landP_r17 (by omega)) (by omega) (by decide) (congrArg (fun z => [z]) (landP_rs17 (by omega) (by omega))) dX2_workOutOdds_29 (fun H locs X => ?_)
              refine lv_iinc (v := nI ((zac j1) + 1)) (lv' := [(3, .int (nI ((zac j1) + 1))), (0, .ref La.1), (1, .int (nI xc)), (2, .int (nI w1))]) hx hb dX2_workOutOdds_30 hl (k := 3) rfl (zn_inc _) (by decide) rfl (fun ls hl => ?_)
              refine lv_goto (tgt := 12) hx hb dX2_workOutOdds_33 (by decide) ?_
              refine ih_12 (j1 + 1) (by omega) (by omega) _ _ _ (by exact wx_eq (congrArg (fun z => wcat [landP Z La z]) ((sA_e1 τ 62 _ _ _).trans (congrArg (sA τ 62) (zoA_1 (by omega))))) X) (by rw [zac_inc] at hl; exact lv_sub hl [1, 2, 3, 0] rfl)
        refine cut_12 _ 0 (Nat.zero_le _) (Nat.lt_succ_self _) _ _ _ (by exact wx_eq (congrArg (fun z => wcat [landP Z La (sA τ 62 z)]) (zoA_0 τ xc w1 (τ.2 62)).symm) X) (by exact lv_sub hl [1, 2, 3, 0] rfl)
  refine cut_2 _ 0 (Nat.zero_le _) (Nat.lt_succ_self _) _ _ _ (by exact wx_eq (congrArg (fun z => wcat [landP Z La z]) (show τ = sA τ 62 (zod τ xc 0 (τ.2 62)) by rw [zod_0, sA_self])) X) (by exact lv_sub hl [1, 2, 0] rfl)
set_option maxHeartbeats 4000000 in
set_option maxRecDepth 100000 in
theorem k2_workOut {E : (Nat → Prop) → State → Heap → Prop} (hE : cEok E) {l : Launch} {D : va_G} {Z : Nat → ClassId} {La : LA} {τ : MS} (hok : mOk τ) (hW : zWok (τ.2 27)) (hmz : mZ τ) : dtV E l D Z yX2_workOut (Cond.code yX2_workOut cX2_workOut 3 none :: cW) { frames := 2, cells := 0, slots := 0, locals := 47 } [.ref La.1] (wcat [landP Z La τ]) (S := Unit) (fun _ => wcat [landP Z La (zwork τ)]) (fun _ => True) := by
  refine dtV_of hE (cc := cX2_workOut) (maxL := 3) (by decide +kernel) (fun w h => List.mem_cons_of_mem _ h) (Nat.le_of_ble_eq_true rfl) ?_
  intro p e s m args below meth c A Q ls hx hb hml hown hts G X hl fin
  replace hl : lv_has ls 3 [(0, .ref La.1)] := hl
  obtain ⟨k0, k4, k8, kr, kw, ks, kmet, kmt, k12, k13⟩ := id hok
  refine lv_iconst (v := nI 0) hx hb dX2_workOut_0 (by decide) ?_
  refine lv_istore_n (lv' := [(1, .int (nI 0)), (0, .ref La.1)]) hx hb dX2_workOut_1 rfl hl (by decide) rfl (fun ls hl => ?_)
  have cut_2 : ∀ (NN : Nat) (w1 : Nat) (h1 : w1 ≤ τ.1 4), τ.1 4 - w1 < NN → ∀ (H : Heap) (locs : List Loc) (ls : Array Slot), wH D vwCl A s.heap H locs (wcat [landP Z La (zw2 τ w1 (8 * w1))]) → lv_has ls 3 [(0, .ref La.1), (1, .int (nI w1))] → W p l e { frames := 2, cells := 0, slots := 0, locals := 47 } s m args below meth c H locs 0 0 Q (F0 m 2 ls []) := by
    intro NN
    induction NN with
    | zero => intro w1 h1 hNN; exact absurd hNN (Nat.not_lt_zero _)
    | succ NN ih_2 =>
      intro w1 h1 hNN H locs ls X hl
      refine lv_iload_n hx hb dX2_workOut_2 rfl (lv_at hl 1 rfl) ?_
      refine lv_aload_n hx hb dX2_workOut_3 rfl (lv_at hl 0 rfl) ?_
      refine cg_2 G X 0 0 rfl rfl 4 (by decide) (G.2.2.2.1 _ ck_56) rfl rfl dX2_workOut_4 ?_
      refine gi_eq (a := (τ.1 4)) (rfl) ?_
      refine gn_icmp_ge (tgt := 49) hx hb dX2_workOut_7 (by decide) (by omega) (by omega) (fun c_7 => ?_) (fun c_7 => ?_)
      ·
        refine lv_iconst (v := nI 0) hx hb dX2_workOut_49 (by decide) ?_
        refine lv_istore_n (lv' := [(1, .int (nI 0)), (0, .ref La.1)]) hx hb dX2_workOut_50 rfl hl (by decide) rfl (fun ls hl => ?_)
        have cut_51 : ∀ (NN : Nat) (b1 : Nat) (h3 : b1 ≤ 8), 8 - b1 < NN → ∀ (H : Heap) (locs : List Loc) (ls : Array Slot), wH D vwCl A s.heap H locs (wcat [landP Z La (zw3 τ b1)]) → lv_has ls 3 [(0, .ref La.1), (1, .int (nI b1))] → W p l e { frames := 2, cells := 0, slots := 0, locals := 47 } s m args below meth c H locs 0 0 Q (F0 m 51 ls []) := by
          intro NN
          induction NN with
          | zero => intro b1 h3 hNN; exact absurd hNN (Nat.not_lt_zero _)
          | succ NN ih_51 =>
            intro b1 h3 hNN H locs ls X hl
            refine lv_iload_n hx hb dX2_workOut_51 rfl (lv_at hl 1 rfl) ?_
            refine lv_bipush (v := nI 8) hx hb dX2_workOut_52 (by decide) ?_
            refine gn_icmp_ge (tgt := 74) hx hb dX2_workOut_54 (by decide) (by omega) (by omega) (fun c_54 => ?_) (fun c_54 => ?_)
            ·
              refine lv_iconst (v := nI 0) hx hb dX2_workOut_74 (by decide) ?_
              refine lv_istore_n (lv' := [(1, .int (nI 0)), (0, .ref La.1)]) hx hb dX2_workOut_75 rfl hl (by decide) rfl (fun ls hl => ?_)
              have cut_76 : ∀ (NN : Nat) (d1 : Nat) (h4 : d1 ≤ 8), 8 - d1 < NN → ∀ (H : Heap) (locs : List Loc) (ls : Array Slot), wH D vwCl A s.heap H locs (wcat [landP Z La (zw4 τ d1)]) → lv_has ls 3 [(0, .ref La.1), (1, .int (nI d1))] → W p l e { frames := 2, cells := 0, slots := 0, locals := 47 } s m args below meth c H locs 0 0 Q (F0 m 76 ls []) := by
                intro NN
                induction NN with
                | zero => intro d1 h4 hNN; exact absurd hNN (Nat.not_lt_zero _)
                | succ NN ih_76 =>
                  intro d1 h4 hNN H locs ls X hl
                  refine lv_iload_n hx hb dX2_workOut_76 rfl (lv_at hl 1 rfl) ?_
                  refine lv_bipush (v := nI 8) hx hb dX2_workOut_77 (by decide) ?_
                  refine gn_icmp_ge (tgt := 93) hx hb dX2_workOut_79 (by decide) (by omega) (by omega) (fun c_79 => ?_) (fun c_79 => ?_)
                  ·
                    exact cfin_V (()) (trivial) (congrArg (fun z => wcat [landP Z La (zw4 τ z)]) (show d1 = 8 by omega)) X dX2_workOut_93 fin
                  ·
                    refine lv_aload_n hx hb dX2_workOut_82 rfl (lv_at hl 0 rfl) ?_
                    refine lv_iload_n hx hb dX2_workOut_83 rfl (lv_at hl 1 rfl) ?_
                    refine dtV_go (w := wcat [landP Z La (zw4 τ d1)]) (wf := wcat []) (W1 := fun _ => wcat [landP Z La (sA (zw4 τ d1) 62 (zod (zw4 τ d1) d1 (((zw4 τ d1).1 4)) ((zw4 τ d1).2 62)))]) G X (wsel [0] rfl rfl) (run_V (As := [.int (nI d1)]) (rest := []) (n := 1) G hml hts hl.1 (p_recv G X 0 0 rfl rfl rfl) (k2_workOutOdds hE (τ := (zw4 τ d1)) d1 (show mOk (zw4 τ d1) from hok) (fun c hc => (show zcp (fun c => zleast (fun o => zwc τ (τ.2 27) (τ.1 4) (8 * o + c)) (τ.1 4)) (τ.2 61) 8 c = (fun c => zleast (fun o => zwc τ (τ.2 27) (τ.1 4) (8 * o + c)) (τ.1 4)) c from zcp_in hc)) (show mZ (zw4 τ d1) from hmz) (by omega) _) (cwV 1 hts (cg_V ck_123 ck_138 ck_139 ck_140 ck_79) rfl rfl rfl (by decide +kernel) ⟨Nat.le_of_ble_eq_true rfl, Nat.le_of_ble_eq_true rfl⟩) rfl (Nat.le_of_ble_eq_true rfl) dX2_workOut_84 ⟨Nat.le_refl _, Nat.le_refl _⟩) (fun _ => wback [0] rfl rfl) (fun H locs _ _ X => ?_)
                    refine lv_iinc (v := nI (d1 + 1)) (lv' := [(1, .int (nI (d1 + 1))), (0, .ref La.1)]) hx hb dX2_workOut_87 hl (k := 1) rfl (zn_inc _) (by decide) rfl (fun ls hl => ?_)
                    refine lv_goto (tgt := 76) hx hb dX2_workOut_90 (by decide) ?_
                    refine ih_76 (d1 + 1) (by omega) (by omega) _ _ _ (by exact X) (by exact lv_sub hl [1, 0] rfl)
              refine cut_76 _ 0 (Nat.zero_le _) (Nat.lt_succ_self _) _ _ _ (by exact wx_eq (congrArg (fun z => wcat [landP Z La z]) (show zw3 τ b1 = zw4 τ 0 by rw [show b1 = 8 by omega]; exact (sA_self (zw3 τ 8) 62).symm)) X) (by exact lv_sub hl [1, 0] rfl)
            ·
              refine lv_aload_n hx hb dX2_workOut_57 rfl (lv_at hl 0 rfl) ?_
              refine cg_2 G X 0 0 rfl rfl 16 (by decide) (G.2.2.2.1 _ ck_69) rfl rfl dX2_workOut_58 ?_
              refine lv_iload_n hx hb dX2_workOut_61 rfl (lv_at hl 1 rfl) ?_
              refine lv_aload_n hx hb dX2_workOut_62 rfl (lv_at hl 0 rfl) ?_
              refine lv_iload_n hx hb dX2_workOut_63 rfl (lv_at hl 1 rfl) ?_
              refine dtI_go (w := wcat [landP Z La (zw3 τ b1)]) (wf := wcat []) (W1 := fun _ => wcat [landP Z La (zw3 τ b1)]) G X (wsel [0] rfl rfl) (run_V (As := [.int (nI b1)]) (rest := [.int (nI b1), .ref (La.2.1 16)]) (n := 1) G hml hts hl.1 (p_recv G X 0 0 rfl rfl rfl) (k2_searchPleasing hE (τ := (zw3 τ b1)) b1 (show mOk (zw3 τ b1) from hok) (show zWok (zwc τ (τ.2 27) (τ.1 4)) from zWok_wc hW _) (by omega) _) (cwV 1 hts (cg_V ck_122 ck_135 ck_136 ck_137 ck_79) rfl rfl rfl (by decide +kernel) ⟨Nat.le_of_ble_eq_true rfl, Nat.le_of_ble_eq_true rfl⟩) rfl (Nat.le_of_ble_eq_true rfl) dX2_workOut_64 ⟨Nat.le_refl _, Nat.le_refl _⟩) (fun _ => wback [0] rfl rfl) (fun H locs _ _ X => ?_)
              refine cr_iast (ps' := [landP Z La (sE (zw3 τ b1) 61 b1 (zleast (fun o => (zw3 τ b1).2 27 (8 * o + b1)) (((zw3 τ b1).1 4))))]) G X 0 9 rfl rfl (by omega) (by decide) (congrArg (fun z => [z]) (landP_s16 (by omega))) dX2_workOut_67 (fun H locs X => ?_)
              refine lv_iinc (v := nI (b1 + 1)) (lv' := [(1, .int (nI (b1 + 1))), (0, .ref La.1)]) hx hb dX2_workOut_68 hl (k := 1) rfl (zn_inc _) (by decide) rfl (fun ls hl => ?_)
              refine lv_goto (tgt := 51) hx hb dX2_workOut_71 (by decide) ?_
              refine ih_51 (b1 + 1) (by omega) (by omega) _ _ _ (by exact wx_eq (congrArg (fun z => wcat [landP Z La z]) ((sA_e1 (zw2 τ (τ.1 4) (8 * τ.1 4)) 61 _ _ _).trans (congrArg (sA (zw2 τ (τ.1 4) (8 * τ.1 4)) 61) (zcp_1 rfl)))) X) (by exact lv_sub hl [1, 0] rfl)
        refine cut_51 _ 0 (Nat.zero_le _) (Nat.lt_succ_self _) _ _ _ (by exact wx_eq (congrArg (fun z => wcat [landP Z La z]) (show zw2 τ w1 (8 * w1) = zw3 τ 0 by rw [show w1 = τ.1 4 by omega]; exact sA_f0 _ 61 _)) X) (by exact lv_sub hl [1, 0] rfl)
      ·
        refine lv_aload_n hx hb dX2_workOut_10 rfl (lv_at hl 0 rfl) ?_
        refine lv_iload_n hx hb dX2_workOut_11 rfl (lv_at hl 1 rfl) ?_
        refine dtV_go (w := wcat [landP Z La (zw2 τ w1 (8 * w1))]) (wf := wcat []) (W1 := fun _ => wcat [landP Z La (sA (zw2 τ w1 (8 * w1)) 27 (zts (zw2 τ w1 (8 * w1)) w1 (zinit ((zw2 τ w1 (8 * w1)).2 27) w1 ((zw2 τ w1 (8 * w1)).2 6 w1) 8) 7))]) G X (wsel [0] rfl rfl) (run_V (As := [.int (nI w1)]) (rest := []) (n := 1) G hml hts hl.1 (p_recv G X 0 0 rfl rfl rfl) (k2_workOutWays hE (τ := (zw2 τ w1 (8 * w1))) w1 (show mOk (zw2 τ w1 (8 * w1)) from hok) (show zWok (zwc τ (τ.2 27) w1) from zWok_wc hW _) c_7 _) (cwV 1 hts (cg_V ck_112 ck_129 ck_130 ck_131 ck_79) rfl rfl rfl (by decide +kernel) ⟨Nat.le_of_ble_eq_true rfl, Nat.le_of_ble_eq_true rfl⟩) rfl (Nat.le_of_ble_eq_true rfl) dX2_workOut_12 ⟨Nat.le_refl _, Nat.le_refl _⟩) (fun _ => wback [0] rfl rfl) (fun H locs _ _ X => ?_)
        replace X := wx_eq (congrArg (fun z => wcat [landP Z La z]) (zw2_w hok)) X
        refine lv_iconst (v := nI 0) hx hb dX2_workOut_15 (by decide) ?_
        refine lv_istore_n (lv' := [(2, .int (nI 0)), (0, .ref La.1), (1, .int (nI w1))]) hx hb dX2_workOut_16 rfl hl (by decide) rfl (fun ls hl => ?_)
        have cut_17 : ∀ (NN : Nat) (c1 : Nat) (h2 : c1 ≤ 8), 8 - c1 < NN → ∀ (H : Heap) (locs : List Loc) (ls : Array Slot), wH D vwCl A s.heap H locs (wcat [landP Z La (zw2 τ (w1 + 1) (8 * w1 + c1))]) → lv_has ls 3 [(0, .ref La.1), (1, .int (nI w1)), (2, .int (nI c1))] → W p l e { frames := 2, cells := 0, slots := 0, locals := 47 } s m args below meth c H locs 0 0 Q (F0 m 17 ls []) := by
          intro NN
          induction NN with
          | zero => intro c1 h2 hNN; exact absurd hNN (Nat.not_lt_zero _)
          | succ NN ih_17 =>
            intro c1 h2 hNN H locs ls X hl
            refine lv_iload_n hx hb dX2_workOut_17 rfl (lv_at hl 2 rfl) ?_
            refine lv_bipush (v := nI 8) hx hb dX2_workOut_18 (by decide) ?_
            refine gn_icmp_ge (tgt := 43) hx hb dX2_workOut_20 (by decide) (by omega) (by omega) (fun c_20 => ?_) (fun c_20 => ?_)
            ·
              refine lv_iinc (v := nI (w1 + 1)) (lv' := [(1, .int (nI (w1 + 1))), (0, .ref La.1), (2, .int (nI c1))]) hx hb dX2_workOut_43 hl (k := 1) rfl (zn_inc _) (by decide) rfl (fun ls hl => ?_)
              refine lv_goto (tgt := 2) hx hb dX2_workOut_46 (by decide) ?_
              refine ih_2 (w1 + 1) (by omega) (by omega) _ _ _ (by exact wx_eq (congrArg (fun z => wcat [landP Z La (zw2 τ (w1 + 1) z)]) (show 8 * w1 + c1 = 8 * (w1 + 1) by omega)) X) (by exact lv_sub hl [1, 0] rfl)
            ·
              refine lv_aload_n hx hb dX2_workOut_23 rfl (lv_at hl 0 rfl) ?_
              refine cg_2 G X 0 0 rfl rfl 15 (by decide) (G.2.2.2.1 _ ck_68) rfl rfl dX2_workOut_24 ?_
              refine lv_iload_n hx hb dX2_workOut_27 rfl (lv_at hl 1 rfl) ?_
              refine cr_aald G X 0 12 rfl rfl (by omega) (by decide) (if_pos (by omega)) dX2_workOut_28 ?_
              refine lv_iload_n hx hb dX2_workOut_29 rfl (lv_at hl 2 rfl) ?_
              refine lv_aload_n hx hb dX2_workOut_30 rfl (lv_at hl 0 rfl) ?_
              refine lv_iload_n hx hb dX2_workOut_31 rfl (lv_at hl 1 rfl) ?_
              refine lv_iload_n hx hb dX2_workOut_32 rfl (lv_at hl 2 rfl) ?_
              refine dtI_go (w := wcat [landP Z La (zw2 τ (w1 + 1) (8 * w1 + c1))]) (wf := wcat []) (W1 := fun _ => wcat [landP Z La (zw2 τ (w1 + 1) (8 * w1 + c1))]) G X (wsel [0] rfl rfl) (run_V (As := [.int (nI w1), .int (nI c1)]) (rest := [.int (nI c1), .ref (La.2.2 15 w1)]) (n := 2) G hml hts hl.1 (p_recv G X 0 0 rfl rfl rfl) (k2_searchNext hE (τ := (zw2 τ (w1 + 1) (8 * w1 + c1))) w1 c1 (show mOk (zw2 τ (w1 + 1) (8 * w1 + c1)) from hok) (show zWok (zwc τ (τ.2 27) (w1 + 1)) from zWok_wc hW _) c_7 (by omega) _) (cwV 2 hts (cg_V ck_118 ck_132 ck_133 ck_134 ck_79) rfl rfl rfl (by decide +kernel) ⟨Nat.le_of_ble_eq_true rfl, Nat.le_of_ble_eq_true rfl⟩) rfl (Nat.le_of_ble_eq_true rfl) dX2_workOut_33 ⟨Nat.le_refl _, Nat.le_refl _⟩) (fun _ => wback [0] rfl rfl) (fun H locs _ _ X => ?_)
              refine cr_iast (ps' := [landP Z La (sE (zw2 τ (w1 + 1) (8 * w1 + c1)) 60 (8 * w1 + c1) (znr (zw2 τ (w1 + 1) (8 * w1 + c1)) w1 c1))]) G X 0 (w1 + 27) rfl (landP_r15 (by omega)) (by omega) (by decide) (congrArg (fun z => [z]) (landP_rs15 (by omega) (by omega))) dX2_workOut_36 (fun H locs X => ?_)
              refine lv_iinc (v := nI (c1 + 1)) (lv' := [(2, .int (nI (c1 + 1))), (0, .ref La.1), (1, .int (nI w1))]) hx hb dX2_workOut_37 hl (k := 2) rfl (zn_inc _) (by decide) rfl (fun ls hl => ?_)
              refine lv_goto (tgt := 17) hx hb dX2_workOut_40 (by decide) ?_
              refine ih_17 (c1 + 1) (by omega) (by omega) _ _ _ (by exact wx_eq (congrArg (fun z => wcat [landP Z La z]) (zw2_s (by omega))) X) (by exact lv_sub hl [1, 2, 0] rfl)
        refine cut_17 _ 0 (Nat.zero_le _) (Nat.lt_succ_self _) _ _ _ (by exact X) (by exact lv_sub hl [1, 2, 0] rfl)
  refine cut_2 _ 0 (Nat.zero_le _) (Nat.lt_succ_self _) _ _ _ (by exact wx_eq (congrArg (fun z => wcat [landP Z La z]) (zw2_0 τ)) X) (by exact lv_sub hl [1, 0] rfl)
