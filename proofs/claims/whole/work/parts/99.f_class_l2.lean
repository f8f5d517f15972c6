set_option maxHeartbeats 4000000 in
set_option maxRecDepth 100000 in
theorem k11_meanOf {E : (Nat → Prop) → State → Heap → Prop} (hE : cEok E) {l : Launch} {D : va_G} {Z : Nat → ClassId} {an : Nat × Nat × Nat} {x2 x3 x4 x5 x6 x7 x8 x9 hi : Nat} {sb sh : Nat → Nat} {wo vq r0 a4 a5 a6 a7 a8 a9 a10 a11 : Nat} {La : LA} {τ : MS} {tm : Nat × Nat × Nat} {FM KM vv : Nat → Nat} {ru k f : Nat} (xn : Nat) (xz : Nat) (xp : Nat) (hT : tOk τ) (hpo : xp = τ.1 28 ∧ xp < 4294967296) (hk6 : k < 6) (hf9 : f < 100) (hn : xn ≤ 20) : dtI E l D Z yX11_meanOf (Cond.code yX11_meanOf cX11_meanOf 8 (some .int) :: cW) { frames := 5, cells := 0, slots := 0, locals := 114 } [.ref an.1, .ref ru, .int (nI xn), .int (nI xz), .int (nI xp)] (wcat [anP Z an wo La.1 x2 x3 x4 x5 x6 x7 x8 x9 hi sb sh, wkP Z (wo, La.1, tm.1, vq) r0 a4 a5 a6 a7 a8 a9 a10 a11 vv, landP Z La τ, thP Z tm FM KM, ruP ru k f]) (S := (Nat × Nat × Nat × Nat × Nat × Nat × Nat × Nat × Nat × (Nat → Nat) × (Nat → Nat) × (Nat → Nat))) (fun u => wcat [anP Z an wo La.1 x2 x3 x4 x5 x6 x7 x8 x9 hi sb sh, wkP Z (wo, La.1, tm.1, vq) u.1 u.2.1 u.2.2.1 u.2.2.2.1 u.2.2.2.2.1 u.2.2.2.2.2.1 u.2.2.2.2.2.2.1 u.2.2.2.2.2.2.2.1 u.2.2.2.2.2.2.2.2.1 u.2.2.2.2.2.2.2.2.2.1, landP Z La τ, thP Z tm u.2.2.2.2.2.2.2.2.2.2.1 u.2.2.2.2.2.2.2.2.2.2.2, ruP ru k f]) (fun u => nI (zmeans τ k f xn xz)) (fun _ => True) := by
  refine dtI_of hE (cc := cX11_meanOf) (maxL := 8) (by decide +kernel) (fun w h => List.mem_cons_of_mem _ h) (Nat.le_of_ble_eq_true rfl) ?_
  intro p e s m args below meth c A Q ls hx hb hml hown hts G X hl fin
  replace hl : lv_has ls 8 [(0, .ref an.1), (1, .ref ru), (2, .int (nI xn)), (3, .int (nI xz)), (4, .int (nI xp))] := hl
  obtain ⟨hok, hpl, hod, hrows, hnx, hsh6, hgl8⟩ := id hT
  obtain ⟨k0, k4, k8, kr, kw, ks, kmet, kmt, k12, k13⟩ := id hok
  refine lv_iconst (v := nI 0) hx hb dX11_meanOf_0 (by decide) ?_
  refine lv_istore (lv' := [(5, .int (nI 0)), (0, .ref an.1), (1, .ref ru), (2, .int (nI xn)), (3, .int (nI xz)), (4, .int (nI xp))]) hx hb dX11_meanOf_1 hl (by decide) rfl (fun ls hl => ?_)
  refine lv_iconst (v := nI 0) hx hb dX11_meanOf_3 (by decide) ?_
  refine lv_istore (lv' := [(6, .int (nI 0)), (5, .int (nI 0)), (0, .ref an.1), (1, .ref ru), (2, .int (nI xn)), (3, .int (nI xz)), (4, .int (nI xp))]) hx hb dX11_meanOf_4 hl (by decide) rfl (fun ls hl => ?_)
  have cut_6 : ∀ (NN : Nat) (w1 : Nat) (r1 : Nat) (b4 : Nat) (b5 : Nat) (b6 : Nat) (b7 : Nat) (b8 : Nat) (b9 : Nat) (b10 : Nat) (b11 : Nat) (v1 : Nat → Nat) (F1 : Nat → Nat) (K1 : Nat → Nat) (h1 : w1 ≤ τ.1 4), τ.1 4 - w1 < NN → ∀ (H : Heap) (locs : List Loc) (ls : Array Slot), wH D vwCl A s.heap H locs (wcat [anP Z an wo La.1 x2 x3 x4 x5 x6 x7 x8 x9 hi sb sh, wkP Z (wo, La.1, tm.1, vq) r1 b4 b5 b6 b7 b8 b9 b10 b11 v1, landP Z La τ, thP Z tm F1 K1, ruP ru k f]) → lv_has ls 8 [(0, .ref an.1), (1, .ref ru), (2, .int (nI xn)), (3, .int (nI xz)), (4, .int (nI xp)), (5, .int (nI (zsum (zmean τ k f xn xz) w1))), (6, .int (nI w1))] → W p l e { frames := 5, cells := 0, slots := 0, locals := 114 } s m args below meth c H locs 0 0 Q (F0 m 6 ls []) := by
    intro NN
    induction NN with
    | zero => intro w1 r1 b4 b5 b6 b7 b8 b9 b10 b11 v1 F1 K1 h1 hNN; exact absurd hNN (Nat.not_lt_zero _)
    | succ NN ih_6 =>
      intro w1 r1 b4 b5 b6 b7 b8 b9 b10 b11 v1 F1 K1 h1 hNN H locs ls X hl
      refine lv_iload hx hb dX11_meanOf_6 (lv_at hl 6 rfl) ?_
      refine lv_aload_n hx hb dX11_meanOf_8 rfl (lv_at hl 0 rfl) ?_
      refine cg_11 G X 0 0 rfl rfl 1 (by decide) (G.2.2.2.1 _ ck_500) rfl rfl dX11_meanOf_9 ?_
      refine cg_2 G X 2 0 rfl rfl 4 (by decide) (G.2.2.2.1 _ ck_612) rfl rfl dX11_meanOf_12 ?_
      refine gn_icmp_ge (tgt := 81) hx hb dX11_meanOf_15 (by decide) (by omega) (by omega) (fun c_15 => ?_) (fun c_15 => ?_)
      ·
        refine lv_iload hx hb dX11_meanOf_81 (lv_at hl 5 rfl) ?_
        exact cfin_I ((r1, b4, b5, b6, b7, b8, b9, b10, b11, v1, F1, K1)) (trivial) (rfl) (by rw [show w1 = τ.1 4 by omega]; rfl) X dX11_meanOf_83 fin
      ·
        refine lv_iconst (v := nI 0) hx hb dX11_meanOf_18 (by decide) ?_
        refine lv_istore (lv' := [(7, .int (nI 0)), (0, .ref an.1), (1, .ref ru), (2, .int (nI xn)), (3, .int (nI xz)), (4, .int (nI xp)), (5, .int (nI (zsum (zmean τ k f xn xz) w1))), (6, .int (nI w1))]) hx hb dX11_meanOf_19 hl (by decide) rfl (fun ls hl => ?_)
        have cut_21 : ∀ (NN : Nat) (i1 : Nat) (r1 : Nat) (b4 : Nat) (b5 : Nat) (b6 : Nat) (b7 : Nat) (b8 : Nat) (b9 : Nat) (b10 : Nat) (b11 : Nat) (v1 : Nat → Nat) (F1 : Nat → Nat) (K1 : Nat → Nat) (h2 : i1 ≤ xn), xn - i1 < NN → ∀ (H : Heap) (locs : List Loc) (ls : Array Slot), wH D vwCl A s.heap H locs (wcat [anP Z an wo La.1 x2 x3 x4 x5 x6 x7 x8 x9 hi sb sh, wkP Z (wo, La.1, tm.1, vq) r1 b4 b5 b6 b7 b8 b9 b10 b11 v1, landP Z La τ, thP Z tm F1 K1, ruP ru k f]) → lv_has ls 8 [(0, .ref an.1), (1, .ref ru), (2, .int (nI xn)), (3, .int (nI xz)), (4, .int (nI xp)), (5, .int (nI (zsum (zmean τ k f xn xz) w1 + zsum (fun k9 => τ.2 5 w1 * zin (zwalk τ w1 (τ.1 12) k f (τ.2 5) (xz + k9))) i1))), (6, .int (nI w1)), (7, .int (nI i1))] → W p l e { frames := 5, cells := 0, slots := 0, locals := 114 } s m args below meth c H locs 0 0 Q (F0 m 21 ls []) := by
          intro NN
          induction NN with
          | zero => intro i1 r1 b4 b5 b6 b7 b8 b9 b10 b11 v1 F1 K1 h2 hNN; exact absurd hNN (Nat.not_lt_zero _)
          | succ NN ih_21 =>
            intro i1 r1 b4 b5 b6 b7 b8 b9 b10 b11 v1 F1 K1 h2 hNN H locs ls X hl
            refine lv_iload hx hb dX11_meanOf_21 (lv_at hl 7 rfl) ?_
            refine lv_iload_n hx hb dX11_meanOf_23 rfl (lv_at hl 2 rfl) ?_
            refine gn_icmp_ge (tgt := 75) hx hb dX11_meanOf_24 (by decide) (by omega) (by omega) (fun c_24 => ?_) (fun c_24 => ?_)
            ·
              refine lv_iinc (v := nI (w1 + 1)) (lv' := [(6, .int (nI (w1 + 1))), (0, .ref an.1), (1, .ref ru), (2, .int (nI xn)), (3, .int (nI xz)), (4, .int (nI xp)), (5, .int (nI (zsum (zmean τ k f xn xz) w1 + zsum (fun k9 => τ.2 5 w1 * zin (zwalk τ w1 (τ.1 12) k f (τ.2 5) (xz + k9))) i1))), (7, .int (nI i1))]) hx hb dX11_meanOf_75 hl (k := 6) rfl (zn_inc _) (by decide) rfl (fun ls hl => ?_)
              refine lv_goto (tgt := 6) hx hb dX11_meanOf_78 (by decide) ?_
              refine ih_6 (w1 + 1) r1 b4 b5 b6 b7 b8 b9 b10 b11 v1 F1 K1 (by omega) (by omega) _ _ _ (by exact X) (by rw [show i1 = xn by omega] at hl; exact lv_sub hl [1, 2, 3, 4, 5, 6, 0] rfl)
            ·
              refine lv_aload_n hx hb dX11_meanOf_27 rfl (lv_at hl 0 rfl) ?_
              refine cg_11 G X 0 0 rfl rfl 0 (by decide) (G.2.2.2.1 _ ck_498) rfl rfl dX11_meanOf_28 ?_
              refine lv_aload_n hx hb dX11_meanOf_31 rfl (lv_at hl 1 rfl) ?_
              refine lv_iload hx hb dX11_meanOf_32 (lv_at hl 6 rfl) ?_
              refine lv_iload_n hx hb dX11_meanOf_34 rfl (lv_at hl 3 rfl) ?_
              refine lv_iload hx hb dX11_meanOf_35 (lv_at hl 7 rfl) ?_
              refine gn_iadd hx hb dX11_meanOf_37  ?_
              refine lv_iload hx hb dX11_meanOf_38 (lv_at hl 4 rfl) ?_
              refine dtV_go (w := wcat [wkP Z (wo, La.1, tm.1, vq) r1 b4 b5 b6 b7 b8 b9 b10 b11 v1, landP Z La τ, thP Z tm F1 K1, ruP ru k f]) (wf := wcat [anP Z an wo La.1 x2 x3 x4 x5 x6 x7 x8 x9 hi sb sh]) (W1 := fun u_40 => wcat [anP Z an wo La.1 x2 x3 x4 x5 x6 x7 x8 x9 hi sb sh, wkP Z (wo, La.1, tm.1, vq) ru w1 u_40.2.2.1 xp (τ.1 12) u_40.2.2.2.1 0 u_40.2.2.2.2.1 0 u_40.2.2.2.2.2, landP Z La τ, thP Z tm u_40.1 u_40.2.1, ruP ru k f]) G X (wsel [1, 2, 3, 4, 0] rfl rfl) (run_V (As := [.ref ru, .int (nI w1), .int (nI (xz + i1)), .int (nI xp)]) (rest := []) (n := 4) G hml hts hl.1 (p_recv G X 1 0 rfl rfl rfl) (k10_setOutByRule hE w1 (xz + i1) xp hT (by omega) hpo hk6 hf9 _) (cwV 4 hts (cg_V ck_433 ck_653 ck_654 ck_655 ck_365) rfl rfl rfl (by decide +kernel) ⟨Nat.le_of_ble_eq_true rfl, Nat.le_of_ble_eq_true rfl⟩) rfl (Nat.le_of_ble_eq_true rfl) dX11_meanOf_40 ⟨Nat.le_refl _, Nat.le_refl _⟩) (fun u_40 => wback [1, 2, 3, 4, 0] rfl rfl) (fun H locs u_40 hu_40 X => ?_)
              refine lv_iload hx hb dX11_meanOf_43 (lv_at hl 5 rfl) ?_
              refine lv_aload_n hx hb dX11_meanOf_45 rfl (lv_at hl 0 rfl) ?_
              refine cg_11 G X 0 0 rfl rfl 1 (by decide) (G.2.2.2.1 _ ck_500) rfl rfl dX11_meanOf_46 ?_
              refine cg_2 G X 2 0 rfl rfl 5 (by decide) (G.2.2.2.1 _ ck_562) rfl rfl dX11_meanOf_49 ?_
              refine lv_iload hx hb dX11_meanOf_52 (lv_at hl 6 rfl) ?_
              refine cr_iald G X 2 4 rfl rfl (by omega) (by decide) dX11_meanOf_54 ?_
              refine gi_eq (a := (τ.2 5 w1)) (zcl_in (by omega)) ?_
              refine lv_aload_n hx hb dX11_meanOf_55 rfl (lv_at hl 0 rfl) ?_
              refine cg_11 G X 0 0 rfl rfl 0 (by decide) (G.2.2.2.1 _ ck_498) rfl rfl dX11_meanOf_56 ?_
              refine dtI_go (w := wcat [wkP Z (wo, La.1, tm.1, vq) ru w1 u_40.2.2.1 xp (τ.1 12) u_40.2.2.2.1 0 u_40.2.2.2.2.1 0 u_40.2.2.2.2.2, landP Z La τ, thP Z tm u_40.1 u_40.2.1, ruP ru k f]) (wf := wcat [anP Z an wo La.1 x2 x3 x4 x5 x6 x7 x8 x9 hi sb sh]) (W1 := fun u_59 => wcat [anP Z an wo La.1 x2 x3 x4 x5 x6 x7 x8 x9 hi sb sh, wkP Z (wo, La.1, tm.1, vq) ru w1 u_59.2.2.1 xp u_59.2.2.2.1 u_59.2.2.2.2.1 u_59.2.2.2.2.2.1 u_59.2.2.2.2.2.2.1 u_59.2.2.2.2.2.2.2 u_40.2.2.2.2.2, landP Z La τ, thP Z tm u_59.1 u_59.2.1, ruP ru k f]) G X (wsel [1, 2, 3, 4, 0] rfl rfl) (run_V (As := []) (rest := [.int (nI (τ.2 5 w1)), .int (nI (zsum (zmean τ k f xn xz) w1 + zsum (fun k9 => τ.2 5 w1 * zin (zwalk τ w1 (τ.1 12) k f (τ.2 5) (xz + k9))) i1))]) (n := 0) G hml hts hl.1 (p_recv G X 1 0 rfl rfl rfl) (k10_minutesThere hE (yr := 0) (yg := 0) hT (by omega) k12 hpo hu_40.1 hk6 hf9 _) (cwV 0 hts (cg_V ck_494 ck_627 ck_628 ck_629 ck_365) rfl rfl rfl (by decide +kernel) ⟨Nat.le_of_ble_eq_true rfl, Nat.le_of_ble_eq_true rfl⟩) rfl (Nat.le_of_ble_eq_true rfl) dX11_meanOf_59 ⟨Nat.le_refl _, Nat.le_refl _⟩) (fun u_59 => wback [1, 2, 3, 4, 0] rfl rfl) (fun H locs u_59 hu_59 X => ?_)
              refine gi_eq (a := zmnN (zwalk τ w1 (τ.1 12) k f (τ.2 5) (xz + i1))) (congrArg zmnN hu_40.2) ?_
              refine dtI_go (w := wcat []) (wf := wcat [anP Z an wo La.1 x2 x3 x4 x5 x6 x7 x8 x9 hi sb sh, wkP Z (wo, La.1, tm.1, vq) ru w1 u_59.2.2.1 xp u_59.2.2.2.1 u_59.2.2.2.2.1 u_59.2.2.2.2.2.1 u_59.2.2.2.2.2.2.1 u_59.2.2.2.2.2.2.2 u_40.2.2.2.2.2, landP Z La τ, thP Z tm u_59.1 u_59.2.1, ruP ru k f]) (W1 := fun _ => wcat [anP Z an wo La.1 x2 x3 x4 x5 x6 x7 x8 x9 hi sb sh, wkP Z (wo, La.1, tm.1, vq) ru w1 u_59.2.2.1 xp u_59.2.2.2.1 u_59.2.2.2.2.1 u_59.2.2.2.2.2.1 u_59.2.2.2.2.2.2.1 u_59.2.2.2.2.2.2.2 u_40.2.2.2.2.2, landP Z La τ, thP Z tm u_59.1 u_59.2.1, ruP ru k f]) G X (wsel [0, 1, 2, 3, 4] rfl rfl) (run_S (As := [.int (nI (zmnN (zwalk τ w1 (τ.1 12) k f (τ.2 5) (xz + i1))))]) (rest := [.int (nI (τ.2 5 w1)), .int (nI (zsum (zmean τ k f xn xz) w1 + zsum (fun k9 => τ.2 5 w1 * zin (zwalk τ w1 (τ.1 12) k f (τ.2 5) (xz + k9))) i1))]) (n := 1) G hml hts hl.1 (k11_inSums hE (zmnN (zwalk τ w1 (τ.1 12) k f (τ.2 5) (xz + i1))) (Nat.lt_of_le_of_lt (zmnN_lt hok hf9) (by decide)) _) (va_cwS 1 hts (cg_S ck_631 ck_633 ck_634 ck_89) rfl rfl rfl (by decide +kernel) ⟨Nat.le_of_ble_eq_true rfl, Nat.le_of_ble_eq_true rfl⟩) rfl (Nat.le_of_ble_eq_true rfl) dX11_meanOf_62 ⟨Nat.le_refl _, Nat.le_refl _⟩) (fun _ => wback [0, 1, 2, 3, 4] rfl rfl) (fun H locs _ _ X => ?_)
              refine gi_eq (a := zin (zwalk τ w1 (τ.1 12) k f (τ.2 5) (xz + i1))) (zin_is hok hf9) ?_
              refine gn_imul hx hb dX11_meanOf_65  ?_
              refine gn_iadd hx hb dX11_meanOf_66  ?_
              refine lv_istore (lv' := [(5, .int (nI ((zsum (zmean τ k f xn xz) w1 + zsum (fun k9 => τ.2 5 w1 * zin (zwalk τ w1 (τ.1 12) k f (τ.2 5) (xz + k9))) i1) + ((τ.2 5 w1) * (zin (zwalk τ w1 (τ.1 12) k f (τ.2 5) (xz + i1))))))), (0, .ref an.1), (1, .ref ru), (2, .int (nI xn)), (3, .int (nI xz)), (4, .int (nI xp)), (6, .int (nI w1)), (7, .int (nI i1))]) hx hb dX11_meanOf_67 hl (by decide) rfl (fun ls hl => ?_)
              refine lv_iinc (v := nI (i1 + 1)) (lv' := [(7, .int (nI (i1 + 1))), (5, .int (nI ((zsum (zmean τ k f xn xz) w1 + zsum (fun k9 => τ.2 5 w1 * zin (zwalk τ w1 (τ.1 12) k f (τ.2 5) (xz + k9))) i1) + ((τ.2 5 w1) * (zin (zwalk τ w1 (τ.1 12) k f (τ.2 5) (xz + i1))))))), (0, .ref an.1), (1, .ref ru), (2, .int (nI xn)), (3, .int (nI xz)), (4, .int (nI xp)), (6, .int (nI w1))]) hx hb dX11_meanOf_69 hl (k := 7) rfl (zn_inc _) (by decide) rfl (fun ls hl => ?_)
              refine lv_goto (tgt := 21) hx hb dX11_meanOf_72 (by decide) ?_
              refine ih_21 (i1 + 1) ru w1 u_59.2.2.1 xp u_59.2.2.2.1 u_59.2.2.2.2.1 u_59.2.2.2.2.2.1 u_59.2.2.2.2.2.2.1 u_59.2.2.2.2.2.2.2 u_40.2.2.2.2.2 u_59.1 u_59.2.1 (by omega) (by omega) _ _ _ (by exact X) (by rw [Nat.add_assoc] at hl; exact lv_sub hl [2, 3, 4, 5, 6, 1, 7, 0] rfl)
        refine cut_21 _ 0 r1 b4 b5 b6 b7 b8 b9 b10 b11 v1 F1 K1 (Nat.zero_le _) (Nat.lt_succ_self _) _ _ _ (by exact X) (by exact lv_sub hl [1, 2, 3, 4, 5, 6, 7, 0] rfl)
  refine cut_6 _ 0 r0 a4 a5 a6 a7 a8 a9 a10 a11 vv FM KM (Nat.zero_le _) (Nat.lt_succ_self _) _ _ _ (by exact X) (by exact lv_sub hl [2, 3, 4, 5, 6, 1, 0] rfl)
set_option maxHeartbeats 4000000 in
set_option maxRecDepth 100000 in
theorem k11_mean {E : (Nat → Prop) → State → Heap → Prop} (hE : cEok E) {l : Launch} {D : va_G} {Z : Nat → ClassId} {an : Nat × Nat × Nat} {x2 x3 x4 x5 x6 x7 x8 x9 hi : Nat} {sb sc : Nat → Nat} {ρ : MS} {wo vq r0 a4 a5 a6 a7 a8 a9 a10 a11 : Nat} {La : LA} {τ : MS} {tm : Nat × Nat × Nat} {FM KM vv : Nat → Nat} (xd : Int32) (xn : Int32) (xz : Nat) (hT : tOk τ) (hp28 : τ.1 28 = 4294967295) (hzs : zSh ρ) : dtI E l D Z yX11_mean (Cond.code yX11_mean cX11_mean 5 (some .int) :: cW) { frames := 6, cells := 0, slots := 0, locals := 141 } [.ref an.1, .int xd, .int xn, .int (nI xz)] (wcat [anP Z an wo La.1 x2 x3 x4 x5 x6 x7 x8 x9 hi sb (ρ.2 41), wkP Z (wo, La.1, tm.1, vq) r0 a4 a5 a6 a7 a8 a9 a10 a11 vv, landP Z La τ, thP Z tm FM KM, shOn (shF Z sb sc ρ) 8]) (S := (Nat × Nat × Nat × Nat × Nat × Nat × Nat × Nat × Nat × (Nat → Nat) × (Nat → Nat) × (Nat → Nat))) (fun u => wcat [anP Z an wo La.1 x2 x3 x4 x5 x6 x7 x8 x9 hi sb (ρ.2 41), wkP Z (wo, La.1, tm.1, vq) u.1 u.2.1 u.2.2.1 u.2.2.2.1 u.2.2.2.2.1 u.2.2.2.2.2.1 u.2.2.2.2.2.2.1 u.2.2.2.2.2.2.2.1 u.2.2.2.2.2.2.2.2.1 u.2.2.2.2.2.2.2.2.2.1, landP Z La τ, thP Z tm u.2.2.2.2.2.2.2.2.2.2.1 u.2.2.2.2.2.2.2.2.2.2.2, shOn (shF Z sb sc ρ) 8]) (fun u => zmeanC τ ρ xd xn xz) (fun _ => True) := by
  refine dtI_of hE (cc := cX11_mean) (maxL := 5) (by decide +kernel) (fun w h => List.mem_cons_of_mem _ h) (Nat.le_of_ble_eq_true rfl) ?_
  intro p e s m args below meth c A Q ls hx hb hml hown hts G X hl fin
  replace hl : lv_has ls 5 [(0, .ref an.1), (1, .int xd), (2, .int xn), (3, .int (nI xz))] := hl
  obtain ⟨hok, hpl, hod, hrows, hnx, hsh6, hgl8⟩ := id hT
  obtain ⟨k0, k4, k8, kr, kw, ks, kmet, kmt, k12, k13⟩ := id hok
  refine lv_iload_n hx hb dX11_mean_0 rfl (lv_at hl 1 rfl) ?_
  refine dtI_go (w := wcat []) (wf := wcat [anP Z an wo La.1 x2 x3 x4 x5 x6 x7 x8 x9 hi sb (ρ.2 41), wkP Z (wo, La.1, tm.1, vq) r0 a4 a5 a6 a7 a8 a9 a10 a11 vv, landP Z La τ, thP Z tm FM KM, shOn (shF Z sb sc ρ) 8]) (W1 := fun _ => wcat [anP Z an wo La.1 x2 x3 x4 x5 x6 x7 x8 x9 hi sb (ρ.2 41), wkP Z (wo, La.1, tm.1, vq) r0 a4 a5 a6 a7 a8 a9 a10 a11 vv, landP Z La τ, thP Z tm FM KM, shOn (shF Z sb sc ρ) 8]) G X (wsel [0, 1, 2, 3, 4] rfl rfl) (run_S (As := [.int xd]) (rest := []) (n := 1) G hml hts hl.1 (k11_isShelf hE xd _) (va_cwS 1 hts (cg_S ck_525 ck_527 ck_528 ck_89) rfl rfl rfl (by decide +kernel) ⟨Nat.le_of_ble_eq_true rfl, Nat.le_of_ble_eq_true rfl⟩) rfl (Nat.le_of_ble_eq_true rfl) dX11_mean_1 ⟨Nat.le_refl _, Nat.le_refl _⟩) (fun _ => wback [0, 1, 2, 3, 4] rfl rfl) (fun H locs _ _ X => ?_)
  refine gb_if_eq (tgt := 14) hx hb dX11_mean_4 (by decide) (fun c_4 => ?_) (fun c_4 => ?_)
  ·
    refine lv_iconst (v := nI 4294967295) hx hb dX11_mean_14 (by decide) ?_
    exact cfin_I ((r0, a4, a5, a6, a7, a8, a9, a10, a11, vv, FM, KM)) (trivial) (rfl) (by rw [nI_m1]; first | exact zmeanC_s (zmnC_n (fun q => c_4 q.1)) | exact zmeanC_s (zmnC_n (fun q => c_11 q.2))) X dX11_mean_15 fin
  ·
    obtain ⟨jd, hjd, rfl⟩ := zir_of (by decide) c_4
    refine lv_iload_n hx hb dX11_mean_7 rfl (lv_at hl 2 rfl) ?_
    refine dtI_go (w := wcat []) (wf := wcat [anP Z an wo La.1 x2 x3 x4 x5 x6 x7 x8 x9 hi sb (ρ.2 41), wkP Z (wo, La.1, tm.1, vq) r0 a4 a5 a6 a7 a8 a9 a10 a11 vv, landP Z La τ, thP Z tm FM KM, shOn (shF Z sb sc ρ) 8]) (W1 := fun _ => wcat [anP Z an wo La.1 x2 x3 x4 x5 x6 x7 x8 x9 hi sb (ρ.2 41), wkP Z (wo, La.1, tm.1, vq) r0 a4 a5 a6 a7 a8 a9 a10 a11 vv, landP Z La τ, thP Z tm FM KM, shOn (shF Z sb sc ρ) 8]) G X (wsel [0, 1, 2, 3, 4] rfl rfl) (run_S (As := [.int xn]) (rest := []) (n := 1) G hml hts hl.1 (k11_isSeeds hE xn _) (va_cwS 1 hts (cg_S ck_657 ck_659 ck_660 ck_89) rfl rfl rfl (by decide +kernel) ⟨Nat.le_of_ble_eq_true rfl, Nat.le_of_ble_eq_true rfl⟩) rfl (Nat.le_of_ble_eq_true rfl) dX11_mean_8 ⟨Nat.le_refl _, Nat.le_refl _⟩) (fun _ => wback [0, 1, 2, 3, 4] rfl rfl) (fun H locs _ _ X => ?_)
    refine gb_if_ne (tgt := 16) hx hb dX11_mean_11 (by decide) (fun c_11 => ?_) (fun c_11 => ?_)
    ·
      obtain ⟨jn, hjn, rfl⟩ := zsd_of c_11
      refine lv_aload_n hx hb dX11_mean_16 rfl (lv_at hl 0 rfl) ?_
      refine lv_iload_n hx hb dX11_mean_17 rfl (lv_at hl 1 rfl) ?_
      refine dtQ_go (w := wcat [anP Z an wo La.1 x2 x3 x4 x5 x6 x7 x8 x9 hi sb (ρ.2 41)]) (wf := wcat [wkP Z (wo, La.1, tm.1, vq) r0 a4 a5 a6 a7 a8 a9 a10 a11 vv, landP Z La τ, thP Z tm FM KM, shOn (shF Z sb sc ρ) 8]) (W1 := fun _ => wcat [anP Z an wo La.1 x2 x3 x4 x5 x6 x7 x8 x9 hi sb (ρ.2 41), wkP Z (wo, La.1, tm.1, vq) r0 a4 a5 a6 a7 a8 a9 a10 a11 vv, landP Z La τ, thP Z tm FM KM, shOn (shF Z sb sc ρ) 8]) G X (wsel [0, 1, 2, 3, 4] rfl rfl) (run_V (As := [.int (nI jd)]) (rest := []) (n := 1) G hml hts hl.1 (p_recv G X 0 0 rfl rfl rfl) (k11_ruleOn hE (nI jd) _) (cwV 1 hts (cg_V ck_529 ck_531 ck_532 ck_533 ck_89) rfl rfl rfl (by decide +kernel) ⟨Nat.le_of_ble_eq_true rfl, Nat.le_of_ble_eq_true rfl⟩) rfl (Nat.le_of_ble_eq_true rfl) dX11_mean_18 ⟨Nat.le_refl _, Nat.le_refl _⟩) (fun _ => wback [0, 1, 2, 3, 4] rfl rfl) (fun H locs _ _ X => ?_)
      by_cases q_18 : (ρ.2 41) jd = 1
      · refine gq_s (shQ_s (by omega) q_18) ?_
        replace X := sh_out (qs := [anP Z an wo La.1 x2 x3 x4 x5 x6 x7 x8 x9 hi sb (ρ.2 41), wkP Z (wo, La.1, tm.1, vq) r0 a4 a5 a6 a7 a8 a9 a10 a11 vv, landP Z La τ, thP Z tm FM KM]) hjd (shF_1 (show ρ.2 41 jd = 1 from q_18)) X
        refine lv_astore (lv' := [(4, .ref (sb jd)), (0, .ref an.1), (1, .int (nI jd)), (2, .int (nI jn)), (3, .int (nI xz))]) hx hb dX11_mean_21 hl (by decide) rfl (fun ls hl => ?_)
        refine lv_aload hx hb dX11_mean_23 (lv_at hl 0 rfl) ?_
        refine lv_ifnonnull (tgt := 34) hx hb dX11_mean_25 (by decide) ?_
        refine lv_aload_n hx hb dX11_mean_34 rfl (lv_at hl 1 rfl) ?_
        refine cg_11 G X 0 0 rfl rfl 1 (by decide) (G.2.2.2.1 _ ck_500) rfl rfl dX11_mean_35 ?_
        refine dtI_go (w := wcat [landP Z La τ]) (wf := wcat [anP Z an wo La.1 x2 x3 x4 x5 x6 x7 x8 x9 hi sb (ρ.2 41), wkP Z (wo, La.1, tm.1, vq) r0 a4 a5 a6 a7 a8 a9 a10 a11 vv, thP Z tm FM KM, ruP (sb jd) (ρ.2 42 jd) (ρ.2 43 jd), shOn (shNo (shF Z sb sc ρ) jd) 8]) (W1 := fun _ => wcat [anP Z an wo La.1 x2 x3 x4 x5 x6 x7 x8 x9 hi sb (ρ.2 41), wkP Z (wo, La.1, tm.1, vq) r0 a4 a5 a6 a7 a8 a9 a10 a11 vv, landP Z La τ, thP Z tm FM KM, ruP (sb jd) (ρ.2 42 jd) (ρ.2 43 jd), shOn (shNo (shF Z sb sc ρ) jd) 8]) G X (wsel [2, 0, 1, 3, 4, 5] rfl rfl) (run_V (As := []) (rest := []) (n := 0) G hml hts hl.1 (p_recv G X 2 0 rfl rfl rfl) (k2_isReady hE hok _) (cwV 0 hts (cg_V ck_75 ck_586 ck_587 ck_588 ck_79) rfl rfl rfl (by decide +kernel) ⟨Nat.le_of_ble_eq_true rfl, Nat.le_of_ble_eq_true rfl⟩) rfl (Nat.le_of_ble_eq_true rfl) dX11_mean_38 ⟨Nat.le_refl _, Nat.le_refl _⟩) (fun _ => wback [2, 0, 1, 3, 4, 5] rfl rfl) (fun H locs _ _ X => ?_)
        refine gb_if_ne (tgt := 47) hx hb dX11_mean_41 (by decide) (fun c_41 => ?_) (fun c_41 => ?_)
        ·
          refine lv_aload_n hx hb dX11_mean_47 rfl (lv_at hl 1 rfl) ?_
          refine lv_aload hx hb dX11_mean_48 (lv_at hl 0 rfl) ?_
          refine lv_iload_n hx hb dX11_mean_50 rfl (lv_at hl 3 rfl) ?_
          refine lv_iload_n hx hb dX11_mean_51 rfl (lv_at hl 4 rfl) ?_
          refine lv_iconst (v := nI 4294967295) hx hb dX11_mean_52 (by decide) ?_
          refine dtI_go (w := wcat [anP Z an wo La.1 x2 x3 x4 x5 x6 x7 x8 x9 hi sb (ρ.2 41), wkP Z (wo, La.1, tm.1, vq) r0 a4 a5 a6 a7 a8 a9 a10 a11 vv, landP Z La τ, thP Z tm FM KM, ruP (sb jd) (ρ.2 42 jd) (ρ.2 43 jd)]) (wf := wcat [shOn (shNo (shF Z sb sc ρ) jd) 8]) (W1 := fun u_53 => wcat [anP Z an wo La.1 x2 x3 x4 x5 x6 x7 x8 x9 hi sb (ρ.2 41), wkP Z (wo, La.1, tm.1, vq) u_53.1 u_53.2.1 u_53.2.2.1 u_53.2.2.2.1 u_53.2.2.2.2.1 u_53.2.2.2.2.2.1 u_53.2.2.2.2.2.2.1 u_53.2.2.2.2.2.2.2.1 u_53.2.2.2.2.2.2.2.2.1 u_53.2.2.2.2.2.2.2.2.2.1, landP Z La τ, thP Z tm u_53.2.2.2.2.2.2.2.2.2.2.1 u_53.2.2.2.2.2.2.2.2.2.2.2, ruP (sb jd) (ρ.2 42 jd) (ρ.2 43 jd), shOn (shNo (shF Z sb sc ρ) jd) 8]) G X (wsel [0, 1, 2, 3, 4, 5] rfl rfl) (run_V (As := [.ref (sb jd), .int (nI jn), .int (nI xz), .int (nI 4294967295)]) (rest := []) (n := 4) G hml hts hl.1 (p_recv G X 0 0 rfl rfl rfl) (k11_meanOf hE jn xz 4294967295 hT (⟨hp28.symm, by decide⟩) ((hzs.2.1 jd hjd q_18).1) ((hzs.2.1 jd hjd q_18).2) (by omega) _) (cwV 4 hts (cg_V ck_658 ck_661 ck_662 ck_663 ck_89) rfl rfl rfl (by decide +kernel) ⟨Nat.le_of_ble_eq_true rfl, Nat.le_of_ble_eq_true rfl⟩) rfl (Nat.le_of_ble_eq_true rfl) dX11_mean_53 ⟨Nat.le_refl _, Nat.le_refl _⟩) (fun u_53 => wback [0, 1, 2, 3, 4, 5] rfl rfl) (fun H locs u_53 hu_53 X => ?_)
          replace X := sh_in (qs := [anP Z an wo La.1 x2 x3 x4 x5 x6 x7 x8 x9 hi sb (ρ.2 41), wkP Z (wo, La.1, tm.1, vq) u_53.1 u_53.2.1 u_53.2.2.1 u_53.2.2.2.1 u_53.2.2.2.2.1 u_53.2.2.2.2.2.1 u_53.2.2.2.2.2.2.1 u_53.2.2.2.2.2.2.2.1 u_53.2.2.2.2.2.2.2.2.1 u_53.2.2.2.2.2.2.2.2.2.1, landP Z La τ, thP Z tm u_53.2.2.2.2.2.2.2.2.2.2.1 u_53.2.2.2.2.2.2.2.2.2.2.2]) hjd (shF_1 (show ρ.2 41 jd = 1 from q_18)) X
          exact cfin_I ((u_53.1, u_53.2.1, u_53.2.2.1, u_53.2.2.2.1, u_53.2.2.2.2.1, u_53.2.2.2.2.2.1, u_53.2.2.2.2.2.2.1, u_53.2.2.2.2.2.2.2.1, u_53.2.2.2.2.2.2.2.2.1, u_53.2.2.2.2.2.2.2.2.2.1, u_53.2.2.2.2.2.2.2.2.2.2.1, u_53.2.2.2.2.2.2.2.2.2.2.2)) (trivial) (rfl) (zmeanC_v hjd hjn (zmnC_0 hjd (zsd_N hjn) q_18 c_41)) X dX11_mean_56 fin
        ·
          refine lv_bipush (v := (-3)) hx hb dX11_mean_44 (by decide) ?_
          replace X := sh_in (qs := [anP Z an wo La.1 x2 x3 x4 x5 x6 x7 x8 x9 hi sb (ρ.2 41), wkP Z (wo, La.1, tm.1, vq) r0 a4 a5 a6 a7 a8 a9 a10 a11 vv, landP Z La τ, thP Z tm FM KM]) hjd (shF_1 (show ρ.2 41 jd = 1 from q_18)) X
          exact cfin_I ((r0, a4, a5, a6, a7, a8, a9, a10, a11, vv, FM, KM)) (trivial) (rfl) (zmeanC_s (zmnC_3 hjd (zsd_N hjn) q_18 c_41)) X dX11_mean_46 fin
      · refine gq_n (by rw [shQ_j (by omega)]; exact shR_n q_18) ?_
        refine lv_astoreN (lv' := [(4, .null), (0, .ref an.1), (1, .int (nI jd)), (2, .int (nI jn)), (3, .int (nI xz))]) hx hb dX11_mean_21 hl (by decide) rfl (fun ls hl => ?_)
        refine lv_aloadN hx hb dX11_mean_23 (lv_at hl 0 rfl) ?_
        refine lv_ifnonnullN hx hb dX11_mean_25 ?_
        refine lv_aload_n hx hb dX11_mean_28 rfl (lv_at hl 1 rfl) ?_
        refine lv_iload_n hx hb dX11_mean_29 rfl (lv_at hl 2 rfl) ?_
        refine dtI_go (w := wcat [anP Z an wo La.1 x2 x3 x4 x5 x6 x7 x8 x9 hi sb (ρ.2 41)]) (wf := wcat [wkP Z (wo, La.1, tm.1, vq) r0 a4 a5 a6 a7 a8 a9 a10 a11 vv, landP Z La τ, thP Z tm FM KM, shOn (shF Z sb sc ρ) 8]) (W1 := fun _ => wcat [anP Z an wo La.1 x2 x3 x4 x5 x6 x7 x8 x9 hi sb (ρ.2 41), wkP Z (wo, La.1, tm.1, vq) r0 a4 a5 a6 a7 a8 a9 a10 a11 vv, landP Z La τ, thP Z tm FM KM, shOn (shF Z sb sc ρ) 8]) G X (wsel [0, 1, 2, 3, 4] rfl rfl) (run_V (As := [.int (nI jd)]) (rest := []) (n := 1) G hml hts hl.1 (p_recv G X 0 0 rfl rfl rfl) (k11_lackOn hE (nI jd) _) (cwV 1 hts (cg_V ck_537 ck_542 ck_543 ck_544 ck_89) rfl rfl rfl (by decide +kernel) ⟨Nat.le_of_ble_eq_true rfl, Nat.le_of_ble_eq_true rfl⟩) rfl (Nat.le_of_ble_eq_true rfl) dX11_mean_30 ⟨Nat.le_refl _, Nat.le_refl _⟩) (fun _ => wback [0, 1, 2, 3, 4] rfl rfl) (fun H locs _ _ X => ?_)
        exact cfin_I ((r0, a4, a5, a6, a7, a8, a9, a10, a11, vv, FM, KM)) (trivial) (rfl) (zmeanC_s (zmnC_l hzs (zir_N hjd (by decide)) (zsd_N hjn) (fun q => q_18 ((congrArg (ρ.2 41) (nI_N (by omega))).symm.trans q.2)))) X dX11_mean_33 fin
    ·
      refine lv_iconst (v := nI 4294967295) hx hb dX11_mean_14 (by decide) ?_
      exact cfin_I ((r0, a4, a5, a6, a7, a8, a9, a10, a11, vv, FM, KM)) (trivial) (rfl) (by rw [nI_m1]; first | exact zmeanC_s (zmnC_n (fun q => c_4 q.1)) | exact zmeanC_s (zmnC_n (fun q => c_11 q.2))) X dX11_mean_15 fin
