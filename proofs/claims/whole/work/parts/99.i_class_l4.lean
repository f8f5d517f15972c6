set_option maxHeartbeats 4000000 in
set_option maxRecDepth 100000 in
theorem k11_post {E : (Nat → Prop) → State → Heap → Prop} (hE : cEok E) {l : Launch} {D : va_G} {Z : Nat → ClassId} {an : Nat × Nat × Nat} {x2 x3 x4 x5 x6 x7 x8 hi : Nat} {sb sh : Nat → Nat} {wo vq r0 a4 a5 a6 a7 a8 a9 a10 a11 : Nat} {La : LA} {τ : MS} {tm : Nat × Nat × Nat} {FM KM vv : Nat → Nat} {rk : Nat} (xn : Int32) (xz : Nat) (hT : tOk τ) : dtI E l D Z yX11_post (Cond.code yX11_post cX11_post 7 (some .int) :: cW) { frames := 6, cells := 0, slots := 0, locals := 141 } [.ref an.1, .int xn, .int (nI xz)] (wcat [anP Z an wo La.1 x2 x3 x4 x5 x6 x7 x8 rk hi sb sh, wkP Z (wo, La.1, tm.1, vq) r0 a4 a5 a6 a7 a8 a9 a10 a11 vv, landP Z La τ, thP Z tm FM KM, ruP rk 3 0]) (S := (Nat × Nat × Nat × Nat × Nat × Nat × Nat × Nat × Nat × (Nat → Nat) × (Nat → Nat) × (Nat → Nat))) (fun u => wcat [anP Z an wo La.1 x2 x3 x4 x5 x6 x7 x8 rk hi sb sh, wkP Z (wo, La.1, tm.1, vq) u.1 u.2.1 u.2.2.1 u.2.2.2.1 u.2.2.2.2.1 u.2.2.2.2.2.1 u.2.2.2.2.2.2.1 u.2.2.2.2.2.2.2.1 u.2.2.2.2.2.2.2.2.1 u.2.2.2.2.2.2.2.2.2.1, landP Z La τ, thP Z tm u.2.2.2.2.2.2.2.2.2.2.1 u.2.2.2.2.2.2.2.2.2.2.2, ruP rk 3 0]) (fun u => zpostC τ xn xz) (fun _ => True) := by
  refine dtI_of hE (cc := cX11_post) (maxL := 7) (by decide +kernel) (fun w h => List.mem_cons_of_mem _ h) (Nat.le_of_ble_eq_true rfl) ?_
  intro p e s m args below meth c A Q ls hx hb hml hown hts G X hl fin
  replace hl : lv_has ls 7 [(0, .ref an.1), (1, .int xn), (2, .int (nI xz))] := hl
  obtain ⟨hok, hpl, hod, hrows, hnx, hsh6, hgl8⟩ := id hT
  obtain ⟨k0, k4, k8, kr, kw, ks, kmet, kmt, k12, k13⟩ := id hok
  refine lv_iload_n hx hb dX11_post_0 rfl (lv_at hl 1 rfl) ?_
  refine dtI_go (w := wcat []) (wf := wcat [anP Z an wo La.1 x2 x3 x4 x5 x6 x7 x8 rk hi sb sh, wkP Z (wo, La.1, tm.1, vq) r0 a4 a5 a6 a7 a8 a9 a10 a11 vv, landP Z La τ, thP Z tm FM KM, ruP rk 3 0]) (W1 := fun _ => wcat [anP Z an wo La.1 x2 x3 x4 x5 x6 x7 x8 rk hi sb sh, wkP Z (wo, La.1, tm.1, vq) r0 a4 a5 a6 a7 a8 a9 a10 a11 vv, landP Z La τ, thP Z tm FM KM, ruP rk 3 0]) G X (wsel [0, 1, 2, 3, 4] rfl rfl) (run_S (As := [.int xn]) (rest := []) (n := 1) G hml hts hl.1 (k11_isSeeds hE xn _) (va_cwS 1 hts (cg_S ck_657 ck_659 ck_660 ck_89) rfl rfl rfl (by decide +kernel) ⟨Nat.le_of_ble_eq_true rfl, Nat.le_of_ble_eq_true rfl⟩) rfl (Nat.le_of_ble_eq_true rfl) dX11_post_1 ⟨Nat.le_refl _, Nat.le_refl _⟩) (fun _ => wback [0, 1, 2, 3, 4] rfl rfl) (fun H locs _ _ X => ?_)
  refine gb_if_ne (tgt := 9) hx hb dX11_post_4 (by decide) (fun c_4 => ?_) (fun c_4 => ?_)
  ·
    obtain ⟨jn, hjn, rfl⟩ := zsd_of c_4
    refine lv_aload_n hx hb dX11_post_9 rfl (lv_at hl 0 rfl) ?_
    refine cg_11 G X 0 0 rfl rfl 1 (by decide) (G.2.2.2.1 _ ck_500) rfl rfl dX11_post_10 ?_
    refine dtI_go (w := wcat [landP Z La τ]) (wf := wcat [anP Z an wo La.1 x2 x3 x4 x5 x6 x7 x8 rk hi sb sh, wkP Z (wo, La.1, tm.1, vq) r0 a4 a5 a6 a7 a8 a9 a10 a11 vv, thP Z tm FM KM, ruP rk 3 0]) (W1 := fun _ => wcat [anP Z an wo La.1 x2 x3 x4 x5 x6 x7 x8 rk hi sb sh, wkP Z (wo, La.1, tm.1, vq) r0 a4 a5 a6 a7 a8 a9 a10 a11 vv, landP Z La τ, thP Z tm FM KM, ruP rk 3 0]) G X (wsel [2, 0, 1, 3, 4] rfl rfl) (run_V (As := []) (rest := []) (n := 0) G hml hts hl.1 (p_recv G X 2 0 rfl rfl rfl) (k2_isReady hE hok _) (cwV 0 hts (cg_V ck_75 ck_586 ck_587 ck_588 ck_79) rfl rfl rfl (by decide +kernel) ⟨Nat.le_of_ble_eq_true rfl, Nat.le_of_ble_eq_true rfl⟩) rfl (Nat.le_of_ble_eq_true rfl) dX11_post_13 ⟨Nat.le_refl _, Nat.le_refl _⟩) (fun _ => wback [2, 0, 1, 3, 4] rfl rfl) (fun H locs _ _ X => ?_)
    refine gb_if_ne (tgt := 22) hx hb dX11_post_16 (by decide) (fun c_16 => ?_) (fun c_16 => ?_)
    ·
      have hmb : ∀ c, (fun c => zmeans (sF τ 28 c) 3 0 jn xz) c < 2147483648 := fun c => zmeans_lt (σ := sF τ 28 c) hok (by decide) (by omega)
      refine lv_iconst (v := nI 0) hx hb dX11_post_22 (by decide) ?_
      refine lv_istore_n (lv' := [(3, .int (nI 0)), (0, .ref an.1), (1, .int (nI jn)), (2, .int (nI xz))]) hx hb dX11_post_23 rfl hl (by decide) rfl (fun ls hl => ?_)
      refine gn_ldcw (v := 2147483647) (k := 2147483647) hx hb G.2.2.1 (G.2.2.2.1 _ ck_686) (by decide) dX11_post_24 ?_
      refine lv_istore (lv' := [(4, .int (nI 2147483647)), (3, .int (nI 0)), (0, .ref an.1), (1, .int (nI jn)), (2, .int (nI xz))]) hx hb dX11_post_27 hl (by decide) rfl (fun ls hl => ?_)
      refine lv_iconst (v := nI 0) hx hb dX11_post_29 (by decide) ?_
      refine lv_istore (lv' := [(5, .int (nI 0)), (4, .int (nI 2147483647)), (3, .int (nI 0)), (0, .ref an.1), (1, .int (nI jn)), (2, .int (nI xz))]) hx hb dX11_post_30 hl (by decide) rfl (fun ls hl => ?_)
      have cut_32 : ∀ (NN : Nat) (c1 : Nat) (r1 : Nat) (b4 : Nat) (b5 : Nat) (b6 : Nat) (b7 : Nat) (b8 : Nat) (b9 : Nat) (b10 : Nat) (b11 : Nat) (v1 : Nat → Nat) (F1 : Nat → Nat) (K1 : Nat → Nat) (h1 : c1 ≤ 8), 8 - c1 < NN → ∀ (H : Heap) (locs : List Loc) (ls : Array Slot), wH D vwCl A s.heap H locs (wcat [anP Z an wo La.1 x2 x3 x4 x5 x6 x7 x8 rk hi sb sh, wkP Z (wo, La.1, tm.1, vq) r1 b4 b5 b6 b7 b8 b9 b10 b11 v1, landP Z La τ, thP Z tm F1 K1, ruP rk 3 0]) → lv_has ls 7 [(0, .ref an.1), (1, .int (nI jn)), (2, .int (nI xz)), (3, .int (nI (zlp (fun c => zmeans (sF τ 28 c) 3 0 jn xz) c1))), (4, .int (nI (zlv (fun c => zmeans (sF τ 28 c) 3 0 jn xz) c1))), (5, .int (nI c1))] → W p l e { frames := 6, cells := 0, slots := 0, locals := 141 } s m args below meth c H locs 0 0 Q (F0 m 32 ls []) := by
        intro NN
        induction NN with
        | zero => intro c1 r1 b4 b5 b6 b7 b8 b9 b10 b11 v1 F1 K1 h1 hNN; exact absurd hNN (Nat.not_lt_zero _)
        | succ NN ih_32 =>
          intro c1 r1 b4 b5 b6 b7 b8 b9 b10 b11 v1 F1 K1 h1 hNN H locs ls X hl
          refine lv_iload hx hb dX11_post_32 (lv_at hl 5 rfl) ?_
          refine lv_bipush (v := nI 8) hx hb dX11_post_34 (by decide) ?_
          refine gn_icmp_ge (tgt := 73) hx hb dX11_post_36 (by decide) (by omega) (by omega) (fun c_36 => ?_) (fun c_36 => ?_)
          ·
            refine lv_iload_n hx hb dX11_post_73 rfl (lv_at hl 3 rfl) ?_
            exact cfin_I ((r1, b4, b5, b6, b7, b8, b9, b10, b11, v1, F1, K1)) (trivial) (rfl) (by rw [zpostC_v hjn, if_neg (fun q => q c_16), zlp_p (show c1 ≠ 0 by omega), show c1 = 8 by omega]) X dX11_post_74 fin
          ·
            replace X := wx_eq (congrArg (fun z => wcat [anP Z an wo La.1 x2 x3 x4 x5 x6 x7 x8 rk hi sb sh, wkP Z (wo, La.1, tm.1, vq) r1 b4 b5 b6 b7 b8 b9 b10 b11 v1, z, thP Z tm F1 K1, ruP rk 3 0]) (show landP Z La τ = landP Z La (sF τ 28 c1) from rfl)) X
            refine lv_aload_n hx hb dX11_post_39 rfl (lv_at hl 0 rfl) ?_
            refine lv_aload_n hx hb dX11_post_40 rfl (lv_at hl 0 rfl) ?_
            refine cg_11 G X 0 0 rfl rfl 9 (by decide) (G.2.2.2.1 _ ck_515) rfl rfl dX11_post_41 ?_
            refine lv_iload_n hx hb dX11_post_44 rfl (lv_at hl 1 rfl) ?_
            refine lv_iload_n hx hb dX11_post_45 rfl (lv_at hl 2 rfl) ?_
            refine lv_iload hx hb dX11_post_46 (lv_at hl 5 rfl) ?_
            refine dtI_go (w := wcat [anP Z an wo La.1 x2 x3 x4 x5 x6 x7 x8 rk hi sb sh, wkP Z (wo, La.1, tm.1, vq) r1 b4 b5 b6 b7 b8 b9 b10 b11 v1, landP Z La (sF τ 28 c1), thP Z tm F1 K1, ruP rk 3 0]) (wf := wcat []) (W1 := fun u_48 => wcat [anP Z an wo La.1 x2 x3 x4 x5 x6 x7 x8 rk hi sb sh, wkP Z (wo, La.1, tm.1, vq) u_48.1 u_48.2.1 u_48.2.2.1 u_48.2.2.2.1 u_48.2.2.2.2.1 u_48.2.2.2.2.2.1 u_48.2.2.2.2.2.2.1 u_48.2.2.2.2.2.2.2.1 u_48.2.2.2.2.2.2.2.2.1 u_48.2.2.2.2.2.2.2.2.2.1, landP Z La (sF τ 28 c1), thP Z tm u_48.2.2.2.2.2.2.2.2.2.2.1 u_48.2.2.2.2.2.2.2.2.2.2.2, ruP rk 3 0]) G X (wsel [0, 1, 2, 3, 4] rfl rfl) (run_V (As := [.ref rk, .int (nI jn), .int (nI xz), .int (nI c1)]) (rest := []) (n := 4) G hml hts hl.1 (p_recv G X 0 0 rfl rfl rfl) (k11_meanOf hE (τ := (sF τ 28 c1)) jn xz c1 (tOk_28 hT) (⟨rfl, by omega⟩) (by decide) (by decide) (by omega) _) (cwV 4 hts (cg_V ck_658 ck_661 ck_662 ck_663 ck_89) rfl rfl rfl (by decide +kernel) ⟨Nat.le_of_ble_eq_true rfl, Nat.le_of_ble_eq_true rfl⟩) rfl (Nat.le_of_ble_eq_true rfl) dX11_post_48 ⟨Nat.le_refl _, Nat.le_refl _⟩) (fun u_48 => wback [0, 1, 2, 3, 4] rfl rfl) (fun H locs u_48 hu_48 X => ?_)
            replace X := wx_eq (congrArg (fun z => wcat [anP Z an wo La.1 x2 x3 x4 x5 x6 x7 x8 rk hi sb sh, wkP Z (wo, La.1, tm.1, vq) u_48.1 u_48.2.1 u_48.2.2.1 u_48.2.2.2.1 u_48.2.2.2.2.1 u_48.2.2.2.2.2.1 u_48.2.2.2.2.2.2.1 u_48.2.2.2.2.2.2.2.1 u_48.2.2.2.2.2.2.2.2.1 u_48.2.2.2.2.2.2.2.2.2.1, z, thP Z tm u_48.2.2.2.2.2.2.2.2.2.2.1 u_48.2.2.2.2.2.2.2.2.2.2.2, ruP rk 3 0]) (show landP Z La (sF τ 28 c1) = landP Z La τ from rfl)) X
            refine gi_eq (a := (fun c => zmeans (sF τ 28 c) 3 0 jn xz) c1) rfl ?_
            refine lv_istore (lv' := [(6, .int (nI ((fun c => zmeans (sF τ 28 c) 3 0 jn xz) c1))), (0, .ref an.1), (1, .int (nI jn)), (2, .int (nI xz)), (3, .int (nI (zlp (fun c => zmeans (sF τ 28 c) 3 0 jn xz) c1))), (4, .int (nI (zlv (fun c => zmeans (sF τ 28 c) 3 0 jn xz) c1))), (5, .int (nI c1))]) hx hb dX11_post_51 hl (by decide) rfl (fun ls hl => ?_)
            refine lv_iload hx hb dX11_post_53 (lv_at hl 0 rfl) ?_
            refine lv_iload hx hb dX11_post_55 (lv_at hl 5 rfl) ?_
            have hvb := zlv_lt hmb c1
            refine gn_icmp_ge (tgt := 67) hx hb dX11_post_57 (by decide) (hmb c1) (hvb) (fun c_57 => ?_) (fun c_57 => ?_)
            ·
              refine lv_iinc (v := nI (c1 + 1)) (lv' := [(5, .int (nI (c1 + 1))), (6, .int (nI ((fun c => zmeans (sF τ 28 c) 3 0 jn xz) c1))), (0, .ref an.1), (1, .int (nI jn)), (2, .int (nI xz)), (3, .int (nI (zlp (fun c => zmeans (sF τ 28 c) 3 0 jn xz) c1))), (4, .int (nI (zlv (fun c => zmeans (sF τ 28 c) 3 0 jn xz) c1)))]) hx hb dX11_post_67 hl (k := 6) rfl (zn_inc _) (by decide) rfl (fun ls hl => ?_)
              refine lv_goto (tgt := 32) hx hb dX11_post_70 (by decide) ?_
              refine ih_32 (c1 + 1) u_48.1 u_48.2.1 u_48.2.2.1 u_48.2.2.2.1 u_48.2.2.2.2.1 u_48.2.2.2.2.2.1 u_48.2.2.2.2.2.2.1 u_48.2.2.2.2.2.2.2.1 u_48.2.2.2.2.2.2.2.2.1 u_48.2.2.2.2.2.2.2.2.2.1 u_48.2.2.2.2.2.2.2.2.2.2.1 u_48.2.2.2.2.2.2.2.2.2.2.2 (by omega) (by omega) _ _ _ (by exact X) (by have hn9 := zlp_old (f := (fun c => zmeans (sF τ 28 c) 3 0 jn xz)) (c := c1) (hmb c1) c_57; rw [hn9.1, hn9.2]; exact lv_sub hl [2, 3, 4, 5, 6, 0] rfl)
            ·
              refine lv_iload hx hb dX11_post_60 (lv_at hl 6 rfl) ?_
              refine lv_istore_n (lv' := [(3, .int (nI c1)), (6, .int (nI ((fun c => zmeans (sF τ 28 c) 3 0 jn xz) c1))), (0, .ref an.1), (1, .int (nI jn)), (2, .int (nI xz)), (4, .int (nI (zlv (fun c => zmeans (sF τ 28 c) 3 0 jn xz) c1))), (5, .int (nI c1))]) hx hb dX11_post_62 rfl hl (by decide) rfl (fun ls hl => ?_)
              refine lv_iload hx hb dX11_post_63 (lv_at hl 1 rfl) ?_
              refine lv_istore (lv' := [(4, .int (nI ((fun c => zmeans (sF τ 28 c) 3 0 jn xz) c1))), (3, .int (nI c1)), (6, .int (nI ((fun c => zmeans (sF τ 28 c) 3 0 jn xz) c1))), (0, .ref an.1), (1, .int (nI jn)), (2, .int (nI xz)), (5, .int (nI c1))]) hx hb dX11_post_65 hl (by decide) rfl (fun ls hl => ?_)
              refine lv_iinc (v := nI (c1 + 1)) (lv' := [(5, .int (nI (c1 + 1))), (4, .int (nI ((fun c => zmeans (sF τ 28 c) 3 0 jn xz) c1))), (3, .int (nI c1)), (6, .int (nI ((fun c => zmeans (sF τ 28 c) 3 0 jn xz) c1))), (0, .ref an.1), (1, .int (nI jn)), (2, .int (nI xz))]) hx hb dX11_post_67 hl (k := 6) rfl (zn_inc _) (by decide) rfl (fun ls hl => ?_)
              refine lv_goto (tgt := 32) hx hb dX11_post_70 (by decide) ?_
              refine ih_32 (c1 + 1) u_48.1 u_48.2.1 u_48.2.2.1 u_48.2.2.2.1 u_48.2.2.2.2.1 u_48.2.2.2.2.2.1 u_48.2.2.2.2.2.2.1 u_48.2.2.2.2.2.2.2.1 u_48.2.2.2.2.2.2.2.2.1 u_48.2.2.2.2.2.2.2.2.2.1 u_48.2.2.2.2.2.2.2.2.2.2.1 u_48.2.2.2.2.2.2.2.2.2.2.2 (by omega) (by omega) _ _ _ (by exact X) (by have hn9 := zlp_new (f := (fun c => zmeans (sF τ 28 c) 3 0 jn xz)) (c := c1) c_57; rw [hn9.1, hn9.2]; exact lv_sub hl [4, 5, 6, 2, 1, 0] rfl)
      refine cut_32 _ 0 r0 a4 a5 a6 a7 a8 a9 a10 a11 vv FM KM (Nat.zero_le _) (Nat.lt_succ_self _) _ _ _ (by exact X) (by rw [zlp_0, zlv_0]; exact lv_sub hl [3, 4, 5, 2, 1, 0] rfl)
    ·
      refine lv_bipush (v := (-3)) hx hb dX11_post_19 (by decide) ?_
      exact cfin_I ((r0, a4, a5, a6, a7, a8, a9, a10, a11, vv, FM, KM)) (trivial) (rfl) (by rw [zpostC_v hjn, if_pos c_16]) X dX11_post_21 fin
  ·
    refine lv_iconst (v := nI 4294967295) hx hb dX11_post_7 (by decide) ?_
    exact cfin_I ((r0, a4, a5, a6, a7, a8, a9, a10, a11, vv, FM, KM)) (trivial) (rfl) (by rw [nI_m1]; exact (if_pos c_4).symm) X dX11_post_8 fin
