set_option maxHeartbeats 4000000 in
set_option maxRecDepth 100000 in
theorem k11_firstMisjudged {E : (Nat → Prop) → State → Heap → Prop} (hE : cEok E) {l : Launch} {D : va_G} {Z : Nat → ClassId} {an : Nat × Nat × Nat} {x0 x2 x3 x5 x6 x7 x8 x9 hi : Nat} {sb sh : Nat → Nat} {La : LA} {τ : MS} {ta : Nat × Nat × Nat} {F K : Nat → Nat} {ro : Nat × Nat} {t n : Nat} {g : Nat → Int32} (hok : mOk τ) (hF : ∀ w, w < 5 → F w ≤ 100000000000) (hn : n ≤ 100) (ht3 : t < 3) : dtI E l D Z yX11_firstMisjudged (Cond.code yX11_firstMisjudged cX11_firstMisjudged 5 (some .int) :: cW) { frames := 2, cells := 0, slots := 0, locals := 46 } [.ref an.1, .ref ro.1] (wcat [anP Z an x0 La.1 x2 x3 ta.1 x5 x6 x7 x8 x9 hi sb sh, landP Z La τ, thP Z ta F K, roP Z ro t n g]) (S := Unit) (fun _ => wcat [anP Z an x0 La.1 x2 x3 ta.1 x5 x6 x7 x8 x9 hi sb sh, landP Z La τ, thP Z ta F K, roP Z ro t n g]) (fun _ => zfmC τ g n t F) (fun _ => True) := by
  refine dtI_of hE (cc := cX11_firstMisjudged) (maxL := 5) (by decide +kernel) (fun w h => List.mem_cons_of_mem _ h) (Nat.le_of_ble_eq_true rfl) ?_
  intro p e s m args below meth c A Q ls hx hb hml hown hts G X hl fin
  replace hl : lv_has ls 5 [(0, .ref an.1), (1, .ref ro.1)] := hl
  obtain ⟨k0, k4, k8, kr, kw, ks, kmet, kmt, k12, k13⟩ := id hok
  refine lv_aload_n hx hb dX11_firstMisjudged_0 rfl (lv_at hl 1 rfl) ?_
  refine cg_5 G X 3 0 rfl rfl 1 (by decide) (G.2.2.2.1 _ ck_611) rfl rfl dX11_firstMisjudged_1 ?_
  refine cr_alen 0 G X 3 1 (ty := .int) rfl rfl rfl dX11_firstMisjudged_4 ?_
  refine lv_istore_n (lv' := [(2, .int (nI n)), (0, .ref an.1), (1, .ref ro.1)]) hx hb dX11_firstMisjudged_5 rfl hl (by decide) rfl (fun ls hl => ?_)
  refine lv_iconst (v := nI 0) hx hb dX11_firstMisjudged_6 (by decide) ?_
  refine lv_istore_n (lv' := [(3, .int (nI 0)), (2, .int (nI n)), (0, .ref an.1), (1, .ref ro.1)]) hx hb dX11_firstMisjudged_7 rfl hl (by decide) rfl (fun ls hl => ?_)
  have cut_8 : ∀ (NN : Nat) (w1 : Nat) (h1 : w1 ≤ τ.1 4) (h5 : w1 ≤ n) (hno : ∀ j, j < w1 → zjuC g n t F j = false), τ.1 4 - w1 < NN → ∀ (H : Heap) (locs : List Loc) (ls : Array Slot), wH D vwCl A s.heap H locs (wcat [anP Z an x0 La.1 x2 x3 ta.1 x5 x6 x7 x8 x9 hi sb sh, landP Z La τ, thP Z ta F K, roP Z ro t n g]) → lv_has ls 5 [(0, .ref an.1), (1, .ref ro.1), (2, .int (nI n)), (3, .int (nI w1))] → W p l e { frames := 2, cells := 0, slots := 0, locals := 46 } s m args below meth c H locs 0 0 Q (F0 m 8 ls []) := by
    intro NN
    induction NN with
    | zero => intro w1 h1 h5 hno hNN; exact absurd hNN (Nat.not_lt_zero _)
    | succ NN ih_8 =>
      intro w1 h1 h5 hno hNN H locs ls X hl
      refine lv_iload_n hx hb dX11_firstMisjudged_8 rfl (lv_at hl 3 rfl) ?_
      refine lv_aload_n hx hb dX11_firstMisjudged_9 rfl (lv_at hl 0 rfl) ?_
      refine cg_11 G X 0 0 rfl rfl 1 (by decide) (G.2.2.2.1 _ ck_500) rfl rfl dX11_firstMisjudged_10 ?_
      refine cg_2 G X 1 0 rfl rfl 4 (by decide) (G.2.2.2.1 _ ck_612) rfl rfl dX11_firstMisjudged_13 ?_
      refine gn_icmp_ge (tgt := 66) hx hb dX11_firstMisjudged_16 (by decide) (by omega) (by omega) (fun c_16 => ?_) (fun c_16 => ?_)
      ·
        refine lv_iload_n hx hb dX11_firstMisjudged_66 rfl (lv_at hl 2 rfl) ?_
        refine lv_aload_n hx hb dX11_firstMisjudged_67 rfl (lv_at hl 0 rfl) ?_
        refine cg_11 G X 0 0 rfl rfl 1 (by decide) (G.2.2.2.1 _ ck_500) rfl rfl dX11_firstMisjudged_68 ?_
        refine cg_2 G X 1 0 rfl rfl 4 (by decide) (G.2.2.2.1 _ ck_612) rfl rfl dX11_firstMisjudged_71 ?_
        refine gn_icmp_le (tgt := 87) hx hb dX11_firstMisjudged_74 (by decide) (by omega) (by omega) (fun c_74 => ?_) (fun c_74 => ?_)
        ·
          refine lv_bipush (v := (-4)) hx hb dX11_firstMisjudged_87 (by decide) ?_
          exact cfin_I (()) (trivial) (rfl) (by rw [zfm_none (fun j hj => hno j (by omega))]; first | exact (if_pos c_74).symm | exact (if_neg (by omega)).symm) X dX11_firstMisjudged_89 fin
        ·
          refine lv_aload_n hx hb dX11_firstMisjudged_77 rfl (lv_at hl 0 rfl) ?_
          refine cg_11 G X 0 0 rfl rfl 1 (by decide) (G.2.2.2.1 _ ck_500) rfl rfl dX11_firstMisjudged_78 ?_
          refine cg_2 G X 1 0 rfl rfl 4 (by decide) (G.2.2.2.1 _ ck_612) rfl rfl dX11_firstMisjudged_81 ?_
          refine lv_goto (tgt := 89) hx hb dX11_firstMisjudged_84 (by decide) ?_
          exact cfin_I (()) (trivial) (rfl) (by rw [zfm_none (fun j hj => hno j (by omega))]; first | exact (if_pos c_74).symm | exact (if_neg (by omega)).symm) X dX11_firstMisjudged_89 fin
      ·
        refine lv_iload_n hx hb dX11_firstMisjudged_19 rfl (lv_at hl 3 rfl) ?_
        refine lv_iload_n hx hb dX11_firstMisjudged_20 rfl (lv_at hl 2 rfl) ?_
        refine gn_icmp_lt (tgt := 26) hx hb dX11_firstMisjudged_21 (by decide) (by omega) (by omega) (fun c_21 => ?_) (fun c_21 => ?_)
        ·
          refine lv_aload_n hx hb dX11_firstMisjudged_26 rfl (lv_at hl 1 rfl) ?_
          refine cg_5 G X 3 0 rfl rfl 1 (by decide) (G.2.2.2.1 _ ck_611) rfl rfl dX11_firstMisjudged_27 ?_
          refine lv_iload_n hx hb dX11_firstMisjudged_30 rfl (lv_at hl 3 rfl) ?_
          refine cr_ialdr G X 3 1 rfl rfl (by omega) (by omega) dX11_firstMisjudged_31 ?_
          refine lv_istore (lv' := [(4, .int (g w1)), (0, .ref an.1), (1, .ref ro.1), (2, .int (nI n)), (3, .int (nI w1))]) hx hb dX11_firstMisjudged_32 hl (by decide) rfl (fun ls hl => ?_)
          refine lv_iload hx hb dX11_firstMisjudged_34 (lv_at hl 0 rfl) ?_
          refine lv_aload_n hx hb dX11_firstMisjudged_36 rfl (lv_at hl 2 rfl) ?_
          refine dtI_go (w := wcat [roP Z ro t n g]) (wf := wcat [anP Z an x0 La.1 x2 x3 ta.1 x5 x6 x7 x8 x9 hi sb sh, landP Z La τ, thP Z ta F K]) (W1 := fun _ => wcat [anP Z an x0 La.1 x2 x3 ta.1 x5 x6 x7 x8 x9 hi sb sh, landP Z La τ, thP Z ta F K, roP Z ro t n g]) G X (wsel [3, 0, 1, 2] rfl rfl) (run_V (As := []) (rest := [.int (g w1)]) (n := 0) G hml hts hl.1 (p_recv G X 3 0 rfl rfl rfl) (k5_leastNumber hE (ro := ro) (by omega) _) (cwV 0 hts (cg_V ck_280 ck_613 ck_614 ck_615 ck_616) rfl rfl rfl (by decide +kernel) ⟨Nat.le_of_ble_eq_true rfl, Nat.le_of_ble_eq_true rfl⟩) rfl (Nat.le_of_ble_eq_true rfl) dX11_firstMisjudged_37 ⟨Nat.le_refl _, Nat.le_refl _⟩) (fun _ => wback [3, 0, 1, 2] rfl rfl) (fun H locs _ _ X => ?_)
          refine lv_icmp_eq (tgt := 60) hx hb dX11_firstMisjudged_40 (by decide) (fun c_40 => ?_) (fun c_40 => ?_)
          ·
            refine lv_iinc (v := nI (w1 + 1)) (lv' := [(3, .int (nI (w1 + 1))), (4, .int (g w1)), (0, .ref an.1), (1, .ref ro.1), (2, .int (nI n))]) hx hb dX11_firstMisjudged_60 hl (k := 4) rfl (zn_inc _) (by decide) rfl (fun ls hl => ?_)
            refine lv_goto (tgt := 8) hx hb dX11_firstMisjudged_63 (by decide) ?_
            refine ih_8 (w1 + 1) (by omega) (by omega) ((fun j hj => by rcases Nat.lt_or_ge j w1 with h9 | h9; exact hno j h9; rw [show j = w1 by omega]; exact zju_n (by omega) (by first | exact Or.inl c_40 | exact Or.inr c_54))) (by omega) _ _ _ (by exact X) (by exact lv_sub hl [2, 3, 4, 0] rfl)
          ·
            refine lv_iload hx hb dX11_firstMisjudged_43 (lv_at hl 0 rfl) ?_
            refine lv_i2l (v := (g w1).toInt64) hx hb dX11_firstMisjudged_45 rfl ?_
            refine lv_aload_n hx hb dX11_firstMisjudged_46 rfl (lv_at hl 1 rfl) ?_
            refine cg_11 G X 0 0 rfl rfl 4 (by decide) (G.2.2.2.1 _ ck_505) rfl rfl dX11_firstMisjudged_47 ?_
            refine lv_iload_n hx hb dX11_firstMisjudged_50 rfl (lv_at hl 4 rfl) ?_
            refine dtL_go (w := wcat [thP Z ta F K]) (wf := wcat [anP Z an x0 La.1 x2 x3 ta.1 x5 x6 x7 x8 x9 hi sb sh, landP Z La τ, roP Z ro t n g]) (W1 := fun _ => wcat [anP Z an x0 La.1 x2 x3 ta.1 x5 x6 x7 x8 x9 hi sb sh, landP Z La τ, thP Z ta F K, roP Z ro t n g]) G X (wsel [2, 0, 1, 3] rfl rfl) (run_V (As := [.int (nI w1)]) (rest := [.long ((g w1).toInt64)]) (n := 1) G hml hts hl.1 (p_recv G X 2 0 rfl rfl rfl) (k8_hundredthsOf hE w1 hF (by omega) _) (cwV 1 hts (cg_V ck_301 ck_617 ck_618 ck_619 ck_35) rfl rfl rfl (by decide +kernel) ⟨Nat.le_of_ble_eq_true rfl, Nat.le_of_ble_eq_true rfl⟩) rfl (Nat.le_of_ble_eq_true rfl) dX11_firstMisjudged_51 ⟨Nat.le_refl _, Nat.le_refl _⟩) (fun _ => wback [2, 0, 1, 3] rfl rfl) (fun H locs _ _ X => ?_)
            refine W.lcmp hx hb dX11_firstMisjudged_54 ?_
            refine lv_if_eq (tgt := 60) hx hb dX11_firstMisjudged_55 (by decide) (fun c_54 => ?_) (fun c_54 => ?_)
            · rw [zc_eq] at c_54
              refine lv_iinc (v := nI (w1 + 1)) (lv' := [(3, .int (nI (w1 + 1))), (4, .int (g w1)), (0, .ref an.1), (1, .ref ro.1), (2, .int (nI n))]) hx hb dX11_firstMisjudged_60 hl (k := 4) rfl (zn_inc _) (by decide) rfl (fun ls hl => ?_)
              refine lv_goto (tgt := 8) hx hb dX11_firstMisjudged_63 (by decide) ?_
              refine ih_8 (w1 + 1) (by omega) (by omega) ((fun j hj => by rcases Nat.lt_or_ge j w1 with h9 | h9; exact hno j h9; rw [show j = w1 by omega]; exact zju_n (by omega) (by first | exact Or.inl c_40 | exact Or.inr c_54))) (by omega) _ _ _ (by exact X) (by exact lv_sub hl [2, 3, 4, 0] rfl)
            · rw [zc_eq] at c_54
              refine lv_iload_n hx hb dX11_firstMisjudged_58 rfl (lv_at hl 4 rfl) ?_
              exact cfin_I (()) (trivial) (rfl) ((zfm_at hno (decide_eq_true (Or.inr ⟨c_40, c_54⟩)) (by omega)).symm) X dX11_firstMisjudged_59 fin
        ·
          refine lv_iload_n hx hb dX11_firstMisjudged_24 rfl (lv_at hl 2 rfl) ?_
          exact cfin_I (()) (trivial) (rfl) (by rw [zfm_at hno (decide_eq_true (Or.inl (by omega))) (by omega)]; exact congrArg nI (by omega)) X dX11_firstMisjudged_25 fin
  refine cut_8 _ 0 (Nat.zero_le _) (Nat.zero_le _) (fun j hj => absurd hj (Nat.not_lt_zero j)) (Nat.lt_succ_self _) _ _ _ (by exact X) (by exact lv_sub hl [2, 3, 1, 0] rfl)
set_option maxHeartbeats 4000000 in
set_option maxRecDepth 100000 in
theorem k11_judge {E : (Nat → Prop) → State → Heap → Prop} (hE : cEok E) {l : Launch} {D : va_G} {Z : Nat → ClassId} {an : Nat × Nat × Nat} {x0 x2 x3 x5 x6 x7 x8 x9 hi : Nat} {sb sc : Nat → Nat} {ρ : MS} {La : LA} {τ : MS} {ta : Nat × Nat × Nat} {F K : Nat → Nat} (xd : Int32) (hok : mOk τ) (hF : ∀ w, w < 5 → F w ≤ 100000000000) (hzs : zSh ρ) : dtI E l D Z yX11_judge (Cond.code yX11_judge cX11_judge 3 (some .int) :: cW) { frames := 4, cells := 0, slots := 0, locals := 83 } [.ref an.1, .int xd] (wcat [anP Z an x0 La.1 x2 x3 ta.1 x5 x6 x7 x8 x9 hi sb (ρ.2 41), landP Z La τ, thP Z ta F K, shOn (shF Z sb sc ρ) 8]) (S := Unit) (fun _ => wcat [anP Z an x0 La.1 x2 x3 ta.1 x5 x6 x7 x8 x9 hi sb (ρ.2 41), landP Z La τ, thP Z ta F K, shOn (shF Z sb sc ρ) 8]) (fun _ => zjuS τ ρ F xd) (fun _ => True) := by
  refine dtI_of hE (cc := cX11_judge) (maxL := 3) (by decide +kernel) (fun w h => List.mem_cons_of_mem _ h) (Nat.le_of_ble_eq_true rfl) ?_
  intro p e s m args below meth c A Q ls hx hb hml hown hts G X hl fin
  replace hl : lv_has ls 3 [(0, .ref an.1), (1, .int xd)] := hl
  obtain ⟨k0, k4, k8, kr, kw, ks, kmet, kmt, k12, k13⟩ := id hok
  refine lv_iload_n hx hb dX11_judge_0 rfl (lv_at hl 1 rfl) ?_
  refine dtI_go (w := wcat []) (wf := wcat [anP Z an x0 La.1 x2 x3 ta.1 x5 x6 x7 x8 x9 hi sb (ρ.2 41), landP Z La τ, thP Z ta F K, shOn (shF Z sb sc ρ) 8]) (W1 := fun _ => wcat [anP Z an x0 La.1 x2 x3 ta.1 x5 x6 x7 x8 x9 hi sb (ρ.2 41), landP Z La τ, thP Z ta F K, shOn (shF Z sb sc ρ) 8]) G X (wsel [0, 1, 2, 3] rfl rfl) (run_S (As := [.int xd]) (rest := []) (n := 1) G hml hts hl.1 (k11_isShelf hE xd _) (va_cwS 1 hts (cg_S ck_525 ck_527 ck_528 ck_89) rfl rfl rfl (by decide +kernel) ⟨Nat.le_of_ble_eq_true rfl, Nat.le_of_ble_eq_true rfl⟩) rfl (Nat.le_of_ble_eq_true rfl) dX11_judge_1 ⟨Nat.le_refl _, Nat.le_refl _⟩) (fun _ => wback [0, 1, 2, 3] rfl rfl) (fun H locs _ _ X => ?_)
  refine gb_if_ne (tgt := 9) hx hb dX11_judge_4 (by decide) (fun c_4 => ?_) (fun c_4 => ?_)
  ·
    obtain ⟨jd, hjd, rfl⟩ := zir_of (by decide) c_4
    refine lv_aload_n hx hb dX11_judge_9 rfl (lv_at hl 0 rfl) ?_
    refine cg_11 G X 0 0 rfl rfl 1 (by decide) (G.2.2.2.1 _ ck_500) rfl rfl dX11_judge_10 ?_
    refine dtI_go (w := wcat [landP Z La τ]) (wf := wcat [anP Z an x0 La.1 x2 x3 ta.1 x5 x6 x7 x8 x9 hi sb (ρ.2 41), thP Z ta F K, shOn (shF Z sb sc ρ) 8]) (W1 := fun _ => wcat [anP Z an x0 La.1 x2 x3 ta.1 x5 x6 x7 x8 x9 hi sb (ρ.2 41), landP Z La τ, thP Z ta F K, shOn (shF Z sb sc ρ) 8]) G X (wsel [1, 0, 2, 3] rfl rfl) (run_V (As := []) (rest := []) (n := 0) G hml hts hl.1 (p_recv G X 1 0 rfl rfl rfl) (k2_isReady hE hok _) (cwV 0 hts (cg_V ck_75 ck_586 ck_587 ck_588 ck_79) rfl rfl rfl (by decide +kernel) ⟨Nat.le_of_ble_eq_true rfl, Nat.le_of_ble_eq_true rfl⟩) rfl (Nat.le_of_ble_eq_true rfl) dX11_judge_13 ⟨Nat.le_refl _, Nat.le_refl _⟩) (fun _ => wback [1, 0, 2, 3] rfl rfl) (fun H locs _ _ X => ?_)
    refine gb_if_ne (tgt := 22) hx hb dX11_judge_16 (by decide) (fun c_16 => ?_) (fun c_16 => ?_)
    ·
      refine lv_aload_n hx hb dX11_judge_22 rfl (lv_at hl 0 rfl) ?_
      refine lv_iload_n hx hb dX11_judge_23 rfl (lv_at hl 1 rfl) ?_
      refine dtQ_go (w := wcat [anP Z an x0 La.1 x2 x3 ta.1 x5 x6 x7 x8 x9 hi sb (ρ.2 41)]) (wf := wcat [landP Z La τ, thP Z ta F K, shOn (shF Z sb sc ρ) 8]) (W1 := fun _ => wcat [anP Z an x0 La.1 x2 x3 ta.1 x5 x6 x7 x8 x9 hi sb (ρ.2 41), landP Z La τ, thP Z ta F K, shOn (shF Z sb sc ρ) 8]) G X (wsel [0, 1, 2, 3] rfl rfl) (run_V (As := [.int (nI jd)]) (rest := []) (n := 1) G hml hts hl.1 (p_recv G X 0 0 rfl rfl rfl) (k11_rowOn hE (nI jd) _) (cwV 1 hts (cg_V ck_526 ck_534 ck_535 ck_536 ck_89) rfl rfl rfl (by decide +kernel) ⟨Nat.le_of_ble_eq_true rfl, Nat.le_of_ble_eq_true rfl⟩) rfl (Nat.le_of_ble_eq_true rfl) dX11_judge_24 ⟨Nat.le_refl _, Nat.le_refl _⟩) (fun _ => wback [0, 1, 2, 3] rfl rfl) (fun H locs _ _ X => ?_)
      by_cases q_24 : (ρ.2 41) jd = 2
      · refine gq_s (shQ_s (by omega) q_24) ?_
        replace X := sh_out (qs := [anP Z an x0 La.1 x2 x3 ta.1 x5 x6 x7 x8 x9 hi sb (ρ.2 41), landP Z La τ, thP Z ta F K]) hjd (shF_2 (show ρ.2 41 jd = 2 from q_24)) X
        have hz4 := hzs.2.2 jd hjd q_24
        refine lv_astore_n (lv' := [(2, .ref (sb jd)), (0, .ref an.1), (1, .int (nI jd))]) hx hb dX11_judge_27 rfl hl (by decide) rfl (fun ls hl => ?_)
        refine lv_aload_n hx hb dX11_judge_28 rfl (lv_at hl 0 rfl) ?_
        refine lv_ifnonnull (tgt := 38) hx hb dX11_judge_29 (by decide) ?_
        refine lv_aload_n hx hb dX11_judge_38 rfl (lv_at hl 1 rfl) ?_
        refine lv_aload_n hx hb dX11_judge_39 rfl (lv_at hl 0 rfl) ?_
        refine dtI_go (w := wcat [anP Z an x0 La.1 x2 x3 ta.1 x5 x6 x7 x8 x9 hi sb (ρ.2 41), landP Z La τ, thP Z ta F K, roP Z (sb jd, sc jd) (ρ.2 44 jd) (ρ.2 45 jd) (sel ρ jd)]) (wf := wcat [shOn (shNo (shF Z sb sc ρ) jd) 8]) (W1 := fun _ => wcat [anP Z an x0 La.1 x2 x3 ta.1 x5 x6 x7 x8 x9 hi sb (ρ.2 41), landP Z La τ, thP Z ta F K, roP Z (sb jd, sc jd) (ρ.2 44 jd) (ρ.2 45 jd) (sel ρ jd), shOn (shNo (shF Z sb sc ρ) jd) 8]) G X (wsel [0, 1, 2, 3, 4] rfl rfl) (run_V (As := [.ref (sb jd)]) (rest := []) (n := 1) G hml hts hl.1 (p_recv G X 0 0 rfl rfl rfl) (k11_firstMisjudged hE (ro := (sb jd, sc jd)) hok hF hz4.2 hz4.1 _) (cwV 1 hts (cg_V ck_610 ck_620 ck_621 ck_622 ck_89) rfl rfl rfl (by decide +kernel) ⟨Nat.le_of_ble_eq_true rfl, Nat.le_of_ble_eq_true rfl⟩) rfl (Nat.le_of_ble_eq_true rfl) dX11_judge_40 ⟨Nat.le_refl _, Nat.le_refl _⟩) (fun _ => wback [0, 1, 2, 3, 4] rfl rfl) (fun H locs _ _ X => ?_)
        replace X := sh_in (qs := [anP Z an x0 La.1 x2 x3 ta.1 x5 x6 x7 x8 x9 hi sb (ρ.2 41), landP Z La τ, thP Z ta F K]) hjd (shF_2 (show ρ.2 41 jd = 2 from q_24)) X
        exact cfin_I (()) (trivial) (rfl) (by unfold zjuS; rw [if_neg (fun q => q c_4), if_neg (fun q => q c_16), nI_N (by omega), if_neg (fun q => q q_24)]) X dX11_judge_43 fin
      · refine gq_n (by rw [shQ_j (by omega)]; exact shR_n q_24) ?_
        refine lv_astore_nN (lv' := [(2, .null), (0, .ref an.1), (1, .int (nI jd))]) hx hb dX11_judge_27 rfl hl (by decide) rfl (fun ls hl => ?_)
        refine lv_aload_nN hx hb dX11_judge_28 rfl (lv_at hl 0 rfl) ?_
        refine lv_ifnonnullN hx hb dX11_judge_29 ?_
        refine lv_aload_n hx hb dX11_judge_32 rfl (lv_at hl 1 rfl) ?_
        refine lv_iload_n hx hb dX11_judge_33 rfl (lv_at hl 2 rfl) ?_
        refine dtI_go (w := wcat [anP Z an x0 La.1 x2 x3 ta.1 x5 x6 x7 x8 x9 hi sb (ρ.2 41)]) (wf := wcat [landP Z La τ, thP Z ta F K, shOn (shF Z sb sc ρ) 8]) (W1 := fun _ => wcat [anP Z an x0 La.1 x2 x3 ta.1 x5 x6 x7 x8 x9 hi sb (ρ.2 41), landP Z La τ, thP Z ta F K, shOn (shF Z sb sc ρ) 8]) G X (wsel [0, 1, 2, 3] rfl rfl) (run_V (As := [.int (nI jd)]) (rest := []) (n := 1) G hml hts hl.1 (p_recv G X 0 0 rfl rfl rfl) (k11_lackOn hE (nI jd) _) (cwV 1 hts (cg_V ck_537 ck_542 ck_543 ck_544 ck_89) rfl rfl rfl (by decide +kernel) ⟨Nat.le_of_ble_eq_true rfl, Nat.le_of_ble_eq_true rfl⟩) rfl (Nat.le_of_ble_eq_true rfl) dX11_judge_34 ⟨Nat.le_refl _, Nat.le_refl _⟩) (fun _ => wback [0, 1, 2, 3] rfl rfl) (fun H locs _ _ X => ?_)
        exact cfin_I (()) (trivial) (rfl) (by unfold zjuS; rw [if_neg (fun q => q c_4), if_neg (fun q => q c_16), if_pos (fun q => q_24 ((congrArg (ρ.2 41) (nI_N (by omega))).symm.trans q))]) X dX11_judge_37 fin
    ·
      refine lv_bipush (v := (-3)) hx hb dX11_judge_19 (by decide) ?_
      exact cfin_I (()) (trivial) (rfl) (by unfold zjuS; rw [if_neg (fun q => q c_4), if_pos c_16]) X dX11_judge_21 fin
  ·
    refine lv_iconst (v := (-1)) hx hb dX11_judge_7 (by decide) ?_
    exact cfin_I (()) (trivial) (rfl) ((if_pos c_4).symm) X dX11_judge_8 fin
