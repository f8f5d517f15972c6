set_option maxHeartbeats 4000000 in
set_option maxRecDepth 100000 in
theorem k4_placeBehind {E : (Nat → Prop) → State → Heap → Prop} (hE : cEok E) {l : Launch} {D : va_G} {Z : Nat → ClassId} {ad av : Nat → Nat} {rd ro : Nat × Nat} {t n : Nat} {g : Nat → Int32} {q : Nat → Nat} (xa : Nat) (hS : cStr E ad av) (hn : n ≤ 100) (ha : xa < 50000) : dtI E l D Z yX4_placeBehind (Cond.code yX4_placeBehind cX4_placeBehind 8 (some .int) :: cW) { frames := 4, cells := 0, slots := 0, locals := 85 } [.ref rd.1, .int (nI xa)] (wcat [rdP Z rd ro.2 q, roP Z ro t n g]) (S := Unit) (fun _ => wcat [rdP Z rd ro.2 (zpt (zbA g n) xa q), roP Z ro t n g]) (fun _ => zplR (zbA g n) xa) (fun _ => True) := by
  refine dtI_of hE (cc := cX4_placeBehind) (maxL := 8) (by decide +kernel) (fun w h => List.mem_cons_of_mem _ h) (Nat.le_of_ble_eq_true rfl) ?_
  intro p e s m args below meth c A Q ls hx hb hml hown hts G X hl fin
  replace hl : lv_has ls 8 [(0, .ref rd.1), (1, .int (nI xa))] := hl
  have hst := hS _ _ _ G.2.2.2.2.2.2.1
  have hfl := fLEN_le _ (zfm_lt (zbA g n xa))
  refine lv_aload_n hx hb dX4_placeBehind_0 rfl (lv_at hl 0 rfl) ?_
  refine lv_iload_n hx hb dX4_placeBehind_1 rfl (lv_at hl 1 rfl) ?_
  refine dtI_go (w := wcat [rdP Z rd ro.2 q, roP Z ro t n g]) (wf := wcat []) (W1 := fun _ => wcat [rdP Z rd ro.2 q, roP Z ro t n g]) G X (wsel [0, 1] rfl rfl) (run_V (As := [.int (nI xa)]) (rest := []) (n := 1) G hml hts hl.1 (p_recv G X 0 0 rfl rfl rfl) (k4_byteAt hE (rd := rd) (ro := ro) (t := t) (q := q) xa hn (by omega) _) (cwV 1 hts (cg_V ck_161 ck_209 ck_210 ck_211 ck_212) rfl rfl rfl (by decide +kernel) ⟨Nat.le_of_ble_eq_true rfl, Nat.le_of_ble_eq_true rfl⟩) rfl (Nat.le_of_ble_eq_true rfl) dX4_placeBehind_2 ⟨Nat.le_refl _, Nat.le_refl _⟩) (fun _ => wback [0, 1] rfl rfl) (fun H locs _ _ X => ?_)
  refine dtQ_go (w := wcat []) (wf := wcat [rdP Z rd ro.2 q, roP Z ro t n g]) (W1 := fun _ => wcat [rdP Z rd ro.2 q, roP Z ro t n g]) G X (wsel [0, 1] rfl rfl) (run_S (As := [.int (zbA g n xa)]) (rest := []) (n := 1) G hml hts hl.1 (k4_formOf hE (zbA g n xa) hS _) (va_cwS 1 hts (cg_S ck_162 ck_220 ck_221 ck_212) rfl rfl rfl (by decide +kernel) ⟨Nat.le_of_ble_eq_true rfl, Nat.le_of_ble_eq_true rfl⟩) rfl (Nat.le_of_ble_eq_true rfl) dX4_placeBehind_5 ⟨Nat.le_refl _, Nat.le_refl _⟩) (fun _ => wback [0, 1] rfl rfl) (fun H locs _ _ X => ?_)
  refine lv_astore_n (lv' := [(2, .ref (ad (zfm (zbA g n xa)))), (0, .ref rd.1), (1, .int (nI xa))]) hx hb dX4_placeBehind_8 rfl hl (by decide) rfl (fun ls hl => ?_)
  refine lv_aload_n hx hb dX4_placeBehind_9 rfl (lv_at hl 0 rfl) ?_
  refine dtI_go (w := wcat []) (wf := wcat [rdP Z rd ro.2 q, roP Z ro t n g]) (W1 := fun _ => wcat [rdP Z rd ro.2 q, roP Z ro t n g]) G X (wsel [0, 1] rfl rfl) (run_V (As := []) (rest := []) (n := 0) G hml hts hl.1 (vk_recv hst.1 (zfm_lt _) X.2.2) (k900_isEmpty_aae02 hE (i := (zfm (zbA g n xa)))  hS (zfm_lt _)  _) (cwV 0 hts (cg_V ck_163 ck_222 ck_223 ck_224 ck_172) rfl rfl rfl (by decide +kernel) ⟨Nat.le_of_ble_eq_true rfl, Nat.le_of_ble_eq_true rfl⟩) rfl (Nat.le_of_ble_eq_true rfl) dX4_placeBehind_10 ⟨Nat.le_refl _, Nat.le_refl _⟩) (fun _ => wback [0, 1] rfl rfl) (fun H locs _ _ X => ?_)
  refine gb_if_eq (tgt := 20) hx hb dX4_placeBehind_13 (by decide) (fun c_13 => ?_) (fun c_13 => ?_)
  ·
    have h5 : ¬ (zfm (zbA g n xa)) = 5 := fun e9 => c_13 ((fLEN_5 _ (zfm_lt _)).mpr e9)
    refine lv_iload_n hx hb dX4_placeBehind_20 rfl (lv_at hl 2 rfl) ?_
    refine lv_iconst (v := nI 1) hx hb dX4_placeBehind_21 (by decide) ?_
    refine gn_iadd hx hb dX4_placeBehind_22  ?_
    refine lv_istore_n (lv' := [(3, .int (nI (xa + 1))), (2, .ref (ad (zfm (zbA g n xa)))), (0, .ref rd.1), (1, .int (nI xa))]) hx hb dX4_placeBehind_23 rfl hl (by decide) rfl (fun ls hl => ?_)
    refine lv_iconst (v := nI 0) hx hb dX4_placeBehind_24 (by decide) ?_
    refine lv_istore (lv' := [(4, .int (nI 0)), (3, .int (nI (xa + 1))), (2, .ref (ad (zfm (zbA g n xa)))), (0, .ref rd.1), (1, .int (nI xa))]) hx hb dX4_placeBehind_25 hl (by decide) rfl (fun ls hl => ?_)
    refine lv_iconst (v := nI 0) hx hb dX4_placeBehind_27 (by decide) ?_
    refine lv_istore (lv' := [(5, .int (nI 0)), (4, .int (nI 0)), (3, .int (nI (xa + 1))), (2, .ref (ad (zfm (zbA g n xa)))), (0, .ref rd.1), (1, .int (nI xa))]) hx hb dX4_placeBehind_28 hl (by decide) rfl (fun ls hl => ?_)
    have cut_30 : ∀ (NN : Nat) (i1 : Nat) (a1 : Nat) (k1 : Nat) (t1 : Nat → Nat) (h1 : i1 ≤ fLEN.getD (zfm (zbA g n xa)) 0) (hz : zpe (zbA g n) (zfo (zbA g n) xa) (xa + 1) = zpe (zbA g n) ((fFRM.getD (zfm (zbA g n xa)) []).drop i1) a1) (ht : ztd (zbA g n) (zfo (zbA g n) xa) (xa + 1) 0 q = ztd (zbA g n) ((fFRM.getD (zfm (zbA g n xa)) []).drop i1) a1 k1 t1) (ha1 : a1 ≤ xa + 1 + 5 * i1) (hk1 : k1 ≤ i1), fLEN.getD (zfm (zbA g n xa)) 0 - i1 < NN → ∀ (H : Heap) (locs : List Loc) (ls : Array Slot), wH D vwCl A s.heap H locs (wcat [rdP Z rd ro.2 t1, roP Z ro t n g]) → lv_has ls 8 [(0, .ref rd.1), (1, .int (nI xa)), (2, .ref (ad (zfm (zbA g n xa)))), (3, .int (nI a1)), (4, .int (nI k1)), (5, .int (nI i1))] → W p l e { frames := 4, cells := 0, slots := 0, locals := 85 } s m args below meth c H locs 0 0 Q (F0 m 30 ls []) := by
      intro NN
      induction NN with
      | zero => intro i1 a1 k1 t1 h1 hz ht ha1 hk1 hNN; exact absurd hNN (Nat.not_lt_zero _)
      | succ NN ih_30 =>
        intro i1 a1 k1 t1 h1 hz ht ha1 hk1 hNN H locs ls X hl
        refine lv_iload hx hb dX4_placeBehind_30 (lv_at hl 5 rfl) ?_
        refine lv_aload_n hx hb dX4_placeBehind_32 rfl (lv_at hl 2 rfl) ?_
        refine dtI_go (w := wcat []) (wf := wcat [rdP Z rd ro.2 t1, roP Z ro t n g]) (W1 := fun _ => wcat [rdP Z rd ro.2 t1, roP Z ro t n g]) G X (wsel [0, 1] rfl rfl) (run_V (As := []) (rest := [.int (nI i1)]) (n := 0) G hml hts hl.1 (vk_recv hst.1 (zfm_lt _) X.2.2) (k900_length_8abf5 hE (i := (zfm (zbA g n xa)))  hS (zfm_lt _)  _) (cwV 0 hts (cg_V ck_168 ck_225 ck_226 ck_227 ck_172) rfl rfl rfl (by decide +kernel) ⟨Nat.le_of_ble_eq_true rfl, Nat.le_of_ble_eq_true rfl⟩) rfl (Nat.le_of_ble_eq_true rfl) dX4_placeBehind_33 ⟨Nat.le_refl _, Nat.le_refl _⟩) (fun _ => wback [0, 1] rfl rfl) (fun H locs _ _ X => ?_)
        refine gn_icmp_ge (tgt := 117) hx hb dX4_placeBehind_36 (by decide) (by omega) (by omega) (fun c_36 => ?_) (fun c_36 => ?_)
        ·
          refine lv_iload_n hx hb dX4_placeBehind_117 rfl (lv_at hl 3 rfl) ?_
          exact cfin_I (()) (trivial) (congrArg (fun z => wcat [rdP Z rd ro.2 z, roP Z ro t n g]) (zpt_n h5 (ht.trans (by rw [show i1 = fLEN.getD (zfm (zbA g n xa)) 0 by omega, fdropE _ (zfm_lt _)]; rfl)))) (zpl_y h5 (hz.trans (by rw [show i1 = fLEN.getD (zfm (zbA g n xa)) 0 by omega, fdropE _ (zfm_lt _)]; rfl))) X dX4_placeBehind_118 fin
        ·
          refine lv_aload_n hx hb dX4_placeBehind_39 rfl (lv_at hl 2 rfl) ?_
          refine lv_iload hx hb dX4_placeBehind_40 (lv_at hl 5 rfl) ?_
          refine dtI_go (w := wcat []) (wf := wcat [rdP Z rd ro.2 t1, roP Z ro t n g]) (W1 := fun _ => wcat [rdP Z rd ro.2 t1, roP Z ro t n g]) G X (wsel [0, 1] rfl rfl) (run_V (As := [.int (nI i1)]) (rest := []) (n := 1) G hml hts hl.1 (vk_recv hst.1 (zfm_lt _) X.2.2) (k900_charAt_5068e hE (i := (zfm (zbA g n xa))) i1 hS (zfm_lt _) (by omega) _) (cwV 1 hts (cg_V ck_206 ck_228 ck_229 ck_230 ck_172) rfl rfl rfl (by decide +kernel) ⟨Nat.le_of_ble_eq_true rfl, Nat.le_of_ble_eq_true rfl⟩) rfl (Nat.le_of_ble_eq_true rfl) dX4_placeBehind_42 ⟨Nat.le_refl _, Nat.le_refl _⟩) (fun _ => wback [0, 1] rfl rfl) (fun H locs _ _ X => ?_)
          refine lv_istore (lv' := [(6, .int (nI (fch (zfm (zbA g n xa)) i1))), (0, .ref rd.1), (1, .int (nI xa)), (2, .ref (ad (zfm (zbA g n xa)))), (3, .int (nI a1)), (4, .int (nI k1)), (5, .int (nI i1))]) hx hb dX4_placeBehind_45 hl (by decide) rfl (fun ls hl => ?_)
          refine lv_aload_n hx hb dX4_placeBehind_47 rfl (lv_at hl 1 rfl) ?_
          refine lv_iload_n hx hb dX4_placeBehind_48 rfl (lv_at hl 4 rfl) ?_
          refine lv_iload hx hb dX4_placeBehind_49 (lv_at hl 0 rfl) ?_
          refine dtI_go (w := wcat [rdP Z rd ro.2 t1, roP Z ro t n g]) (wf := wcat []) (W1 := fun _ => wcat [rdP Z rd ro.2 t1, roP Z ro t n g]) G X (wsel [0, 1] rfl rfl) (run_V (As := [.int (nI a1), .int (nI (fch (zfm (zbA g n xa)) i1))]) (rest := []) (n := 2) G hml hts hl.1 (p_recv G X 0 0 rfl rfl rfl) (k4_lengthAt hE (rd := rd) (ro := ro) (t := t) (q := t1) a1 (fch (zfm (zbA g n xa)) i1) hn (by omega) (fch_w _ (zfm_lt _) i1 c_36) _) (cwV 2 hts (cg_V ck_215 ck_231 ck_232 ck_233 ck_212) rfl rfl rfl (by decide +kernel) ⟨Nat.le_of_ble_eq_true rfl, Nat.le_of_ble_eq_true rfl⟩) rfl (Nat.le_of_ble_eq_true rfl) dX4_placeBehind_51 ⟨Nat.le_refl _, Nat.le_refl _⟩) (fun _ => wback [0, 1] rfl rfl) (fun H locs _ _ X => ?_)
          have hzl := zln_le (h := (zbA g n)) (a := a1) (w := fch (zfm (zbA g n xa)) i1)
          refine lv_istore (lv' := [(7, .int (nI (zln (zbA g n) a1 (fch (zfm (zbA g n xa)) i1)))), (6, .int (nI (fch (zfm (zbA g n xa)) i1))), (0, .ref rd.1), (1, .int (nI xa)), (2, .ref (ad (zfm (zbA g n xa)))), (3, .int (nI a1)), (4, .int (nI k1)), (5, .int (nI i1))]) hx hb dX4_placeBehind_54 hl (by decide) rfl (fun ls hl => ?_)
          refine lv_iload hx hb dX4_placeBehind_56 (lv_at hl 0 rfl) ?_
          refine gn_if_ne (tgt := 65) hx hb dX4_placeBehind_58 (by decide) (by omega) (fun c_58 => ?_) (fun c_58 => ?_)
          ·
            have c_58n : ¬ zln (zbA g n) a1 (fch (zfm (zbA g n xa)) i1) = 0 := by omega
            have hfc := fch_lt _ (zfm_lt (zbA g n xa)) i1 c_36
            refine lv_iload hx hb dX4_placeBehind_65 (lv_at hl 1 rfl) ?_
            refine lv_bipush (v := nI 100) hx hb dX4_placeBehind_67 (by decide) ?_
            refine gn_icmp_eq (tgt := 79) hx hb dX4_placeBehind_69 (by decide) (by omega) (by omega) (fun c_69 => ?_) (fun c_69 => ?_)
            ·
              refine lv_iload hx hb dX4_placeBehind_79 (lv_at hl 6 rfl) ?_
              refine lv_aload_n hx hb dX4_placeBehind_81 rfl (lv_at hl 2 rfl) ?_
              refine cg_4 G X 0 0 rfl rfl 1 (by decide) (G.2.2.2.1 _ ck_160) rfl rfl dX4_placeBehind_82 ?_
              refine cr_alen 0 G X 0 1 (ty := .int) rfl rfl rfl dX4_placeBehind_85 ?_
              refine gn_icmp_ge (tgt := 106) hx hb dX4_placeBehind_86 (by decide) (by omega) (by omega) (fun c_86 => ?_) (fun c_86 => ?_)
              ·
                refine lv_iload_n hx hb dX4_placeBehind_106 rfl (lv_at hl 5 rfl) ?_
                refine lv_iload hx hb dX4_placeBehind_107 (lv_at hl 0 rfl) ?_
                refine gn_iadd hx hb dX4_placeBehind_109  ?_
                refine lv_istore_n (lv' := [(3, .int (nI (a1 + (zln (zbA g n) a1 (fch (zfm (zbA g n xa)) i1))))), (7, .int (nI (zln (zbA g n) a1 (fch (zfm (zbA g n xa)) i1)))), (6, .int (nI (fch (zfm (zbA g n xa)) i1))), (0, .ref rd.1), (1, .int (nI xa)), (2, .ref (ad (zfm (zbA g n xa)))), (4, .int (nI k1)), (5, .int (nI i1))]) hx hb dX4_placeBehind_110 rfl hl (by decide) rfl (fun ls hl => ?_)
                refine lv_iinc (v := nI (i1 + 1)) (lv' := [(5, .int (nI (i1 + 1))), (3, .int (nI (a1 + (zln (zbA g n) a1 (fch (zfm (zbA g n xa)) i1))))), (7, .int (nI (zln (zbA g n) a1 (fch (zfm (zbA g n xa)) i1)))), (6, .int (nI (fch (zfm (zbA g n xa)) i1))), (0, .ref rd.1), (1, .int (nI xa)), (2, .ref (ad (zfm (zbA g n xa)))), (4, .int (nI k1))]) hx hb dX4_placeBehind_111 hl (k := 7) rfl (zn_inc _) (by decide) rfl (fun ls hl => ?_)
                refine lv_goto (tgt := 30) hx hb dX4_placeBehind_114 (by decide) ?_
                refine ih_30 (i1 + 1) (a1 + (zln (zbA g n) a1 (fch (zfm (zbA g n xa)) i1))) k1 t1 (by omega) (hz.trans (zpe_y (fdrop _ (zfm_lt _) i1 c_36) c_58n)) (ht.trans (ztd_o (fdrop _ (zfm_lt _) i1 c_36) c_58n (by omega))) (by have := zln_le (h := zbA g n) (a := a1) (w := fch (zfm (zbA g n xa)) i1); omega) (by omega) (by omega) _ _ _ (by exact X) (by exact lv_sub hl [4, 5, 6, 1, 7, 0] rfl)
              ·
                refine lv_aload_n hx hb dX4_placeBehind_89 rfl (lv_at hl 2 rfl) ?_
                refine cg_4 G X 0 0 rfl rfl 1 (by decide) (G.2.2.2.1 _ ck_160) rfl rfl dX4_placeBehind_90 ?_
                refine lv_iload hx hb dX4_placeBehind_93 (lv_at hl 6 rfl) ?_
                refine lv_aload_n hx hb dX4_placeBehind_95 rfl (lv_at hl 2 rfl) ?_
                refine lv_iload_n hx hb dX4_placeBehind_96 rfl (lv_at hl 5 rfl) ?_
                refine lv_iload hx hb dX4_placeBehind_97 (lv_at hl 0 rfl) ?_
                refine dtI_go (w := wcat [rdP Z rd ro.2 t1, roP Z ro t n g]) (wf := wcat []) (W1 := fun _ => wcat [rdP Z rd ro.2 t1, roP Z ro t n g]) G X (wsel [0, 1] rfl rfl) (run_V (As := [.int (nI a1), .int (nI (zln (zbA g n) a1 (fch (zfm (zbA g n xa)) i1)))]) (rest := [.int (nI k1), .ref rd.2]) (n := 2) G hml hts hl.1 (p_recv G X 0 0 rfl rfl rfl) (k4_numberAt hE (rd := rd) (ro := ro) (t := t) (q := t1) a1 (zln (zbA g n) a1 (fch (zfm (zbA g n xa)) i1)) hn (by omega) (Nat.lt_of_le_of_lt zln_le (by decide)) _) (cwV 2 hts (cg_V ck_219 ck_234 ck_235 ck_236 ck_212) rfl rfl rfl (by decide +kernel) ⟨Nat.le_of_ble_eq_true rfl, Nat.le_of_ble_eq_true rfl⟩) rfl (Nat.le_of_ble_eq_true rfl) dX4_placeBehind_99 ⟨Nat.le_refl _, Nat.le_refl _⟩) (fun _ => wback [0, 1] rfl rfl) (fun H locs _ _ X => ?_)
                refine gi_asN ?_
                refine cr_iast (ps' := [rdP Z rd ro.2 (fun b => if b = k1 then iN (zval (zbA g n) a1 (zln (zbA g n) a1 (fch (zfm (zbA g n xa)) i1))) else t1 b), roP Z ro t n g]) G X 0 1 rfl rfl (by omega) (by decide) (congrArg (fun z => [z, roP Z ro t n g]) (rdP_s (by omega))) dX4_placeBehind_102 (fun H locs X => ?_)
                refine lv_iinc (v := nI (k1 + 1)) (lv' := [(4, .int (nI (k1 + 1))), (7, .int (nI (zln (zbA g n) a1 (fch (zfm (zbA g n xa)) i1)))), (6, .int (nI (fch (zfm (zbA g n xa)) i1))), (0, .ref rd.1), (1, .int (nI xa)), (2, .ref (ad (zfm (zbA g n xa)))), (3, .int (nI a1)), (5, .int (nI i1))]) hx hb dX4_placeBehind_103 hl (k := 6) rfl (zn_inc _) (by decide) rfl (fun ls hl => ?_)
                refine lv_iload_n hx hb dX4_placeBehind_106 rfl (lv_at hl 6 rfl) ?_
                refine lv_iload hx hb dX4_placeBehind_107 (lv_at hl 1 rfl) ?_
                refine gn_iadd hx hb dX4_placeBehind_109  ?_
                refine lv_istore_n (lv' := [(3, .int (nI (a1 + (zln (zbA g n) a1 (fch (zfm (zbA g n xa)) i1))))), (4, .int (nI (k1 + 1))), (7, .int (nI (zln (zbA g n) a1 (fch (zfm (zbA g n xa)) i1)))), (6, .int (nI (fch (zfm (zbA g n xa)) i1))), (0, .ref rd.1), (1, .int (nI xa)), (2, .ref (ad (zfm (zbA g n xa)))), (5, .int (nI i1))]) hx hb dX4_placeBehind_110 rfl hl (by decide) rfl (fun ls hl => ?_)
                refine lv_iinc (v := nI (i1 + 1)) (lv' := [(5, .int (nI (i1 + 1))), (3, .int (nI (a1 + (zln (zbA g n) a1 (fch (zfm (zbA g n xa)) i1))))), (4, .int (nI (k1 + 1))), (7, .int (nI (zln (zbA g n) a1 (fch (zfm (zbA g n xa)) i1)))), (6, .int (nI (fch (zfm (zbA g n xa)) i1))), (0, .ref rd.1), (1, .int (nI xa)), (2, .ref (ad (zfm (zbA g n xa))))]) hx hb dX4_placeBehind_111 hl (k := 7) rfl (zn_inc _) (by decide) rfl (fun ls hl => ?_)
                refine lv_goto (tgt := 30) hx hb dX4_placeBehind_114 (by decide) ?_
                refine ih_30 (i1 + 1) (a1 + (zln (zbA g n) a1 (fch (zfm (zbA g n xa)) i1))) (k1 + 1) (fun b => if b = k1 then iN (zval (zbA g n) a1 (zln (zbA g n) a1 (fch (zfm (zbA g n xa)) i1))) else t1 b) (by omega) (hz.trans (zpe_y (fdrop _ (zfm_lt _) i1 c_36) c_58n)) (ht.trans (ztd_y (fdrop _ (zfm_lt _) i1 c_36) c_58n ⟨by omega, by omega⟩)) (by have := zln_le (h := zbA g n) (a := a1) (w := fch (zfm (zbA g n xa)) i1); omega) (by omega) (by omega) _ _ _ (by exact X) (by exact lv_sub hl [5, 6, 7, 1, 2, 0] rfl)
            ·
              refine lv_iload hx hb dX4_placeBehind_72 (lv_at hl 1 rfl) ?_
              refine lv_bipush (v := nI 110) hx hb dX4_placeBehind_74 (by decide) ?_
              refine gn_icmp_ne (tgt := 106) hx hb dX4_placeBehind_76 (by decide) (by omega) (by omega) (fun c_76 => ?_) (fun c_76 => ?_)
              ·
                refine lv_iload_n hx hb dX4_placeBehind_106 rfl (lv_at hl 5 rfl) ?_
                refine lv_iload hx hb dX4_placeBehind_107 (lv_at hl 0 rfl) ?_
                refine gn_iadd hx hb dX4_placeBehind_109  ?_
                refine lv_istore_n (lv' := [(3, .int (nI (a1 + (zln (zbA g n) a1 (fch (zfm (zbA g n xa)) i1))))), (7, .int (nI (zln (zbA g n) a1 (fch (zfm (zbA g n xa)) i1)))), (6, .int (nI (fch (zfm (zbA g n xa)) i1))), (0, .ref rd.1), (1, .int (nI xa)), (2, .ref (ad (zfm (zbA g n xa)))), (4, .int (nI k1)), (5, .int (nI i1))]) hx hb dX4_placeBehind_110 rfl hl (by decide) rfl (fun ls hl => ?_)
                refine lv_iinc (v := nI (i1 + 1)) (lv' := [(5, .int (nI (i1 + 1))), (3, .int (nI (a1 + (zln (zbA g n) a1 (fch (zfm (zbA g n xa)) i1))))), (7, .int (nI (zln (zbA g n) a1 (fch (zfm (zbA g n xa)) i1)))), (6, .int (nI (fch (zfm (zbA g n xa)) i1))), (0, .ref rd.1), (1, .int (nI xa)), (2, .ref (ad (zfm (zbA g n xa)))), (4, .int (nI k1))]) hx hb dX4_placeBehind_111 hl (k := 7) rfl (zn_inc _) (by decide) rfl (fun ls hl => ?_)
                refine lv_goto (tgt := 30) hx hb dX4_placeBehind_114 (by decide) ?_
                refine ih_30 (i1 + 1) (a1 + (zln (zbA g n) a1 (fch (zfm (zbA g n xa)) i1))) k1 t1 (by omega) (hz.trans (zpe_y (fdrop _ (zfm_lt _) i1 c_36) c_58n)) (ht.trans (ztd_o (fdrop _ (zfm_lt _) i1 c_36) c_58n (by omega))) (by have := zln_le (h := zbA g n) (a := a1) (w := fch (zfm (zbA g n xa)) i1); omega) (by omega) (by omega) _ _ _ (by exact X) (by exact lv_sub hl [4, 5, 6, 1, 7, 0] rfl)
              ·
                refine lv_iload hx hb dX4_placeBehind_79 (lv_at hl 6 rfl) ?_
                refine lv_aload_n hx hb dX4_placeBehind_81 rfl (lv_at hl 2 rfl) ?_
                refine cg_4 G X 0 0 rfl rfl 1 (by decide) (G.2.2.2.1 _ ck_160) rfl rfl dX4_placeBehind_82 ?_
                refine cr_alen 0 G X 0 1 (ty := .int) rfl rfl rfl dX4_placeBehind_85 ?_
                refine gn_icmp_ge (tgt := 106) hx hb dX4_placeBehind_86 (by decide) (by omega) (by omega) (fun c_86 => ?_) (fun c_86 => ?_)
                ·
                  refine lv_iload_n hx hb dX4_placeBehind_106 rfl (lv_at hl 5 rfl) ?_
                  refine lv_iload hx hb dX4_placeBehind_107 (lv_at hl 0 rfl) ?_
                  refine gn_iadd hx hb dX4_placeBehind_109  ?_
                  refine lv_istore_n (lv' := [(3, .int (nI (a1 + (zln (zbA g n) a1 (fch (zfm (zbA g n xa)) i1))))), (7, .int (nI (zln (zbA g n) a1 (fch (zfm (zbA g n xa)) i1)))), (6, .int (nI (fch (zfm (zbA g n xa)) i1))), (0, .ref rd.1), (1, .int (nI xa)), (2, .ref (ad (zfm (zbA g n xa)))), (4, .int (nI k1)), (5, .int (nI i1))]) hx hb dX4_placeBehind_110 rfl hl (by decide) rfl (fun ls hl => ?_)
                  refine lv_iinc (v := nI (i1 + 1)) (lv' := [(5, .int (nI (i1 + 1))), (3, .int (nI (a1 + (zln (zbA g n) a1 (fch (zfm (zbA g n xa)) i1))))), (7, .int (nI (zln (zbA g n) a1 (fch (zfm (zbA g n xa)) i1)))), (6, .int (nI (fch (zfm (zbA g n xa)) i1))), (0, .ref rd.1), (1, .int (nI xa)), (2, .ref (ad (zfm (zbA g n xa)))), (4, .int (nI k1))]) hx hb dX4_placeBehind_111 hl (k := 7) rfl (zn_inc _) (by decide) rfl (fun ls hl => ?_)
                  refine lv_goto (tgt := 30) hx hb dX4_placeBehind_114 (by decide) ?_
                  refine ih_30 (i1 + 1) (a1 + (zln (zbA g n) a1 (fch (zfm (zbA g n xa)) i1))) k1 t1 (by omega) (hz.trans (zpe_y (fdrop _ (zfm_lt _) i1 c_36) c_58n)) (ht.trans (ztd_o (fdrop _ (zfm_lt _) i1 c_36) c_58n (by omega))) (by have := zln_le (h := zbA g n) (a := a1) (w := fch (zfm (zbA g n xa)) i1); omega) (by omega) (by omega) _ _ _ (by exact X) (by exact lv_sub hl [4, 5, 6, 1, 7, 0] rfl)
                ·
                  refine lv_aload_n hx hb dX4_placeBehind_89 rfl (lv_at hl 2 rfl) ?_
                  refine cg_4 G X 0 0 rfl rfl 1 (by decide) (G.2.2.2.1 _ ck_160) rfl rfl dX4_placeBehind_90 ?_
                  refine lv_iload hx hb dX4_placeBehind_93 (lv_at hl 6 rfl) ?_
                  refine lv_aload_n hx hb dX4_placeBehind_95 rfl (lv_at hl 2 rfl) ?_
                  refine lv_iload_n hx hb dX4_placeBehind_96 rfl (lv_at hl 5 rfl) ?_
                  refine lv_iload hx hb dX4_placeBehind_97 (lv_at hl 0 rfl) ?_
                  refine dtI_go (w := wcat [rdP Z rd ro.2 t1, roP Z ro t n g]) (wf := wcat []) (W1 := fun _ => wcat [rdP Z rd ro.2 t1, roP Z ro t n g]) G X (wsel [0, 1] rfl rfl) (run_V (As := [.int (nI a1), .int (nI (zln (zbA g n) a1 (fch (zfm (zbA g n xa)) i1)))]) (rest := [.int (nI k1), .ref rd.2]) (n := 2) G hml hts hl.1 (p_recv G X 0 0 rfl rfl rfl) (k4_numberAt hE (rd := rd) (ro := ro) (t := t) (q := t1) a1 (zln (zbA g n) a1 (fch (zfm (zbA g n xa)) i1)) hn (by omega) (Nat.lt_of_le_of_lt zln_le (by decide)) _) (cwV 2 hts (cg_V ck_219 ck_234 ck_235 ck_236 ck_212) rfl rfl rfl (by decide +kernel) ⟨Nat.le_of_ble_eq_true rfl, Nat.le_of_ble_eq_true rfl⟩) rfl (Nat.le_of_ble_eq_true rfl) dX4_placeBehind_99 ⟨Nat.le_refl _, Nat.le_refl _⟩) (fun _ => wback [0, 1] rfl rfl) (fun H locs _ _ X => ?_)
                  refine gi_asN ?_
                  refine cr_iast (ps' := [rdP Z rd ro.2 (fun b => if b = k1 then iN (zval (zbA g n) a1 (zln (zbA g n) a1 (fch (zfm (zbA g n xa)) i1))) else t1 b), roP Z ro t n g]) G X 0 1 rfl rfl (by omega) (by decide) (congrArg (fun z => [z, roP Z ro t n g]) (rdP_s (by omega))) dX4_placeBehind_102 (fun H locs X => ?_)
                  refine lv_iinc (v := nI (k1 + 1)) (lv' := [(4, .int (nI (k1 + 1))), (7, .int (nI (zln (zbA g n) a1 (fch (zfm (zbA g n xa)) i1)))), (6, .int (nI (fch (zfm (zbA g n xa)) i1))), (0, .ref rd.1), (1, .int (nI xa)), (2, .ref (ad (zfm (zbA g n xa)))), (3, .int (nI a1)), (5, .int (nI i1))]) hx hb dX4_placeBehind_103 hl (k := 6) rfl (zn_inc _) (by decide) rfl (fun ls hl => ?_)
                  refine lv_iload_n hx hb dX4_placeBehind_106 rfl (lv_at hl 6 rfl) ?_
                  refine lv_iload hx hb dX4_placeBehind_107 (lv_at hl 1 rfl) ?_
                  refine gn_iadd hx hb dX4_placeBehind_109  ?_
                  refine lv_istore_n (lv' := [(3, .int (nI (a1 + (zln (zbA g n) a1 (fch (zfm (zbA g n xa)) i1))))), (4, .int (nI (k1 + 1))), (7, .int (nI (zln (zbA g n) a1 (fch (zfm (zbA g n xa)) i1)))), (6, .int (nI (fch (zfm (zbA g n xa)) i1))), (0, .ref rd.1), (1, .int (nI xa)), (2, .ref (ad (zfm (zbA g n xa)))), (5, .int (nI i1))]) hx hb dX4_placeBehind_110 rfl hl (by decide) rfl (fun ls hl => ?_)
                  refine lv_iinc (v := nI (i1 + 1)) (lv' := [(5, .int (nI (i1 + 1))), (3, .int (nI (a1 + (zln (zbA g n) a1 (fch (zfm (zbA g n xa)) i1))))), (4, .int (nI (k1 + 1))), (7, .int (nI (zln (zbA g n) a1 (fch (zfm (zbA g n xa)) i1)))), (6, .int (nI (fch (zfm (zbA g n xa)) i1))), (0, .ref rd.1), (1, .int (nI xa)), (2, .ref (ad (zfm (zbA g n xa))))]) hx hb dX4_placeBehind_111 hl (k := 7) rfl (zn_inc _) (by decide) rfl (fun ls hl => ?_)
                  refine lv_goto (tgt := 30) hx hb dX4_placeBehind_114 (by decide) ?_
                  refine ih_30 (i1 + 1) (a1 + (zln (zbA g n) a1 (fch (zfm (zbA g n xa)) i1))) (k1 + 1) (fun b => if b = k1 then iN (zval (zbA g n) a1 (zln (zbA g n) a1 (fch (zfm (zbA g n xa)) i1))) else t1 b) (by omega) (hz.trans (zpe_y (fdrop _ (zfm_lt _) i1 c_36) c_58n)) (ht.trans (ztd_y (fdrop _ (zfm_lt _) i1 c_36) c_58n ⟨by omega, by omega⟩)) (by have := zln_le (h := zbA g n) (a := a1) (w := fch (zfm (zbA g n xa)) i1); omega) (by omega) (by omega) _ _ _ (by exact X) (by exact lv_sub hl [5, 6, 7, 1, 2, 0] rfl)
          ·
            have c_58z : zln (zbA g n) a1 (fch (zfm (zbA g n xa)) i1) = 0 := by omega
            refine lv_iload_n hx hb dX4_placeBehind_61 rfl (lv_at hl 5 rfl) ?_
            refine lv_iconst (v := nI 4294967295) hx hb dX4_placeBehind_62 (by decide) ?_
            refine lv_ixor hx hb dX4_placeBehind_63 ?_
            exact cfin_I (()) (trivial) (congrArg (fun z => wcat [rdP Z rd ro.2 z, roP Z ro t n g]) (zpt_n h5 (ht.trans (ztd_n (fdrop _ (zfm_lt _) i1 c_36) c_58z)))) (by exact zpl_n h5 (hz.trans (zpe_n (fdrop _ (zfm_lt _) i1 c_36) c_58z))) X dX4_placeBehind_64 fin
    refine cut_30 _ 0 (xa + 1) 0 q (Nat.zero_le _) (rfl) (rfl) (Nat.le_refl _) (Nat.le_refl _) (Nat.lt_succ_self _) _ _ _ (by exact X) (by exact lv_sub hl [4, 5, 3, 2, 1, 0] rfl)
  ·
    have h5 : (zfm (zbA g n xa)) = 5 := (fLEN_5 _ (zfm_lt _)).mp (by omega)
    refine lv_iload_n hx hb dX4_placeBehind_16 rfl (lv_at hl 2 rfl) ?_
    refine lv_iconst (v := nI 4294967295) hx hb dX4_placeBehind_17 (by decide) ?_
    refine lv_ixor hx hb dX4_placeBehind_18 ?_
    exact cfin_I (()) (trivial) (congrArg (fun z => wcat [rdP Z rd ro.2 z, roP Z ro t n g]) (zpt_5 h5)) (by exact zpl_5 h5) X dX4_placeBehind_19 fin
set_option maxHeartbeats 4000000 in
set_option maxRecDepth 100000 in
theorem k4_statementsInForm {E : (Nat → Prop) → State → Heap → Prop} (hE : cEok E) {l : Launch} {D : va_G} {Z : Nat → ClassId} {ad av : Nat → Nat} {rd ro : Nat × Nat} {t n : Nat} {g : Nat → Int32} {q : Nat → Nat} (hS : cStr E ad av) (hn : n ≤ 100) (htl : ztl q) : dtI E l D Z yX4_statementsInForm (Cond.code yX4_statementsInForm cX4_statementsInForm 4 (some .int) :: cW) { frames := 5, cells := 0, slots := 0, locals := 112 } [.ref rd.1] (wcat [rdP Z rd ro.2 q, roP Z ro t n g]) (S := (Nat → Nat)) (fun u => wcat [rdP Z rd ro.2 u, roP Z ro t n g]) (fun u => zsf (zbA g n) n 100 0 0) (fun u => ztl u) := by
  refine dtI_of hE (cc := cX4_statementsInForm) (maxL := 4) (by decide +kernel) (fun w h => List.mem_cons_of_mem _ h) (Nat.le_of_ble_eq_true rfl) ?_
  intro p e s m args below meth c A Q ls hx hb hml hown hts G X hl fin
  replace hl : lv_has ls 4 [(0, .ref rd.1)] := hl
  refine lv_iconst (v := nI 0) hx hb dX4_statementsInForm_0 (by decide) ?_
  refine lv_istore_n (lv' := [(1, .int (nI 0)), (0, .ref rd.1)]) hx hb dX4_statementsInForm_1 rfl hl (by decide) rfl (fun ls hl => ?_)
  refine lv_iconst (v := nI 0) hx hb dX4_statementsInForm_2 (by decide) ?_
  refine lv_istore_n (lv' := [(2, .int (nI 0)), (1, .int (nI 0)), (0, .ref rd.1)]) hx hb dX4_statementsInForm_3 rfl hl (by decide) rfl (fun ls hl => ?_)
  have cut_4 : ∀ (NN : Nat) (s1 : Nat) (a1 : Nat) (t1 : Nat → Nat) (h1 : s1 ≤ 100) (hz : zsf (zbA g n) n 100 0 0 = zsf (zbA g n) n (100 - s1) s1 a1) (ha1 : a1 ≤ 131) (h0 : s1 = 0 → a1 = 0) (ht1 : ztl t1), 100 - s1 < NN → ∀ (H : Heap) (locs : List Loc) (ls : Array Slot), wH D vwCl A s.heap H locs (wcat [rdP Z rd ro.2 t1, roP Z ro t n g]) → lv_has ls 4 [(0, .ref rd.1), (1, .int (nI a1)), (2, .int (nI s1))] → W p l e { frames := 5, cells := 0, slots := 0, locals := 112 } s m args below meth c H locs 0 0 Q (F0 m 4 ls []) := by
    intro NN
    induction NN with
    | zero => intro s1 a1 t1 h1 hz ha1 h0 ht1 hNN; exact absurd hNN (Nat.not_lt_zero _)
    | succ NN ih_4 =>
      intro s1 a1 t1 h1 hz ha1 h0 ht1 hNN H locs ls X hl
      refine lv_iload_n hx hb dX4_statementsInForm_4 rfl (lv_at hl 2 rfl) ?_
      refine lv_bipush (v := nI 100) hx hb dX4_statementsInForm_5 (by decide) ?_
      refine gn_icmp_ge (tgt := 49) hx hb dX4_statementsInForm_7 (by decide) (by omega) (by omega) (fun c_7 => ?_) (fun c_7 => ?_)
      ·
        refine lv_iload_n hx hb dX4_statementsInForm_49 rfl (lv_at hl 2 rfl) ?_
        exact cfin_I (t1) (ht1) (rfl) (by rw [hz]; first | exact (zsf_end (by omega)).symm | (rw [show 100 - s1 = 0 by omega]; rfl)) X dX4_statementsInForm_50 fin
      ·
        have cut_23 : ∀  (hgo : s1 = 0 ∨ a1 < n), ∀ (H : Heap) (locs : List Loc) (ls : Array Slot), wH D vwCl A s.heap H locs (wcat [rdP Z rd ro.2 t1, roP Z ro t n g]) → lv_has ls 4 [(0, .ref rd.1), (1, .int (nI a1)), (2, .int (nI s1))] → W p l e { frames := 5, cells := 0, slots := 0, locals := 112 } s m args below meth c H locs 0 0 Q (F0 m 23 ls []) := by
          intro hgo H locs ls X hl
          refine lv_aload_n hx hb dX4_statementsInForm_23 rfl (lv_at hl 0 rfl) ?_
          refine lv_iload_n hx hb dX4_statementsInForm_24 rfl (lv_at hl 1 rfl) ?_
          refine dtI_go (w := wcat [rdP Z rd ro.2 t1, roP Z ro t n g]) (wf := wcat []) (W1 := fun _ => wcat [rdP Z rd ro.2 (zpt (zbA g n) a1 t1), roP Z ro t n g]) G X (wsel [0, 1] rfl rfl) (run_V (As := [.int (nI a1)]) (rest := []) (n := 1) G hml hts hl.1 (p_recv G X 0 0 rfl rfl rfl) (k4_placeBehind hE (rd := rd) (ro := ro) (t := t) (q := t1) a1 hS hn (by omega) _) (cwV 1 hts (cg_V ck_237 ck_238 ck_239 ck_240 ck_212) rfl rfl rfl (by decide +kernel) ⟨Nat.le_of_ble_eq_true rfl, Nat.le_of_ble_eq_true rfl⟩) rfl (Nat.le_of_ble_eq_true rfl) dX4_statementsInForm_25 ⟨Nat.le_refl _, Nat.le_refl _⟩) (fun _ => wback [0, 1] rfl rfl) (fun H locs _ _ X => ?_)
          refine lv_istore_n (lv' := [(3, .int (zplR (zbA g n) a1)), (0, .ref rd.1), (1, .int (nI a1)), (2, .int (nI s1))]) hx hb dX4_statementsInForm_28 rfl hl (by decide) rfl (fun ls hl => ?_)
          refine lv_iload_n hx hb dX4_statementsInForm_29 rfl (lv_at hl 0 rfl) ?_
          refine lv_if_ge (tgt := 41) hx hb dX4_statementsInForm_30 (by decide) (fun c_30 => ?_) (fun c_30 => ?_)
          ·
            have hok9 := zpl_ge (h := (zbA g n)) (a := a1) (by omega) c_30
            refine lv_iload_n hx hb dX4_statementsInForm_41 rfl (lv_at hl 0 rfl) ?_
            refine gi_to (a := (zen (zbA g n) a1)) (hok9.2) ?_
            refine lv_istore_n (lv' := [(1, .int (nI (zen (zbA g n) a1))), (3, .int (zplR (zbA g n) a1)), (0, .ref rd.1), (2, .int (nI s1))]) hx hb dX4_statementsInForm_42 rfl hl (by decide) rfl (fun ls hl => ?_)
            refine lv_iinc (v := nI (s1 + 1)) (lv' := [(2, .int (nI (s1 + 1))), (1, .int (nI (zen (zbA g n) a1))), (3, .int (zplR (zbA g n) a1)), (0, .ref rd.1)]) hx hb dX4_statementsInForm_43 hl (k := 3) rfl (zn_inc _) (by decide) rfl (fun ls hl => ?_)
            refine lv_goto (tgt := 4) hx hb dX4_statementsInForm_46 (by decide) ?_
            refine ih_4 (s1 + 1) (zen (zbA g n) a1) (zpt (zbA g n) a1 t1) (by omega) (hz.trans (by rw [show 100 - s1 = (100 - (s1 + 1)) + 1 by omega]; exact zsf_go hgo hok9.1)) (by have := zen_le (zbA g n) a1; omega) (fun e9 => absurd e9 (by omega)) (zpt_lt ht1) (by omega) _ _ _ (by exact X) (by exact lv_sub hl [3, 1, 0] rfl)
          ·
            have hok9 := zpl_lt (h := (zbA g n)) (a := a1) (by omega) c_30
            refine lv_sipush (v := (-1000)) hx hb dX4_statementsInForm_33 (by decide) ?_
            refine lv_iload_n hx hb dX4_statementsInForm_36 rfl (lv_at hl 0 rfl) ?_
            refine lv_iconst (v := nI 4294967295) hx hb dX4_statementsInForm_37 (by decide) ?_
            refine lv_ixor hx hb dX4_statementsInForm_38 ?_
            refine lv_isub hx hb dX4_statementsInForm_39 ?_
            exact cfin_I (zpt (zbA g n) a1 t1) (zpt_lt ht1) (rfl) (by rw [hok9.2, hz, show 100 - s1 = (100 - (s1 + 1)) + 1 by omega]; exact (zsf_bad hgo hok9.1).symm) X dX4_statementsInForm_40 fin
        refine lv_iload_n hx hb dX4_statementsInForm_10 rfl (lv_at hl 2 rfl) ?_
        refine gn_if_eq (tgt := 23) hx hb dX4_statementsInForm_11 (by decide) (by omega) (fun c_11 => ?_) (fun c_11 => ?_)
        ·
          refine cut_23  (by omega) _ _ _ (by exact X) (by exact lv_sub hl [0, 1, 2] rfl)
        ·
          refine lv_iload_n hx hb dX4_statementsInForm_14 rfl (lv_at hl 1 rfl) ?_
          refine lv_aload_n hx hb dX4_statementsInForm_15 rfl (lv_at hl 0 rfl) ?_
          refine cg_4 G X 0 0 rfl rfl 0 (by decide) (G.2.2.2.1 _ ck_159) rfl rfl dX4_statementsInForm_16 ?_
          refine cr_alen 0 G X 1 1 (ty := .int) rfl rfl rfl dX4_statementsInForm_19 ?_
          refine gn_icmp_ge (tgt := 49) hx hb dX4_statementsInForm_20 (by decide) (by omega) (by omega) (fun c_20 => ?_) (fun c_20 => ?_)
          ·
            refine lv_iload_n hx hb dX4_statementsInForm_49 rfl (lv_at hl 2 rfl) ?_
            exact cfin_I (t1) (ht1) (rfl) (by rw [hz]; first | exact (zsf_end (by omega)).symm | (rw [show 100 - s1 = 0 by omega]; rfl)) X dX4_statementsInForm_50 fin
          ·
            refine cut_23  (by omega) _ _ _ (by exact X) (by exact lv_sub hl [0, 1, 2] rfl)
  refine cut_4 _ 0 0 q (Nat.zero_le _) (rfl) (Nat.zero_le _) (fun _ => rfl) (htl) (Nat.lt_succ_self _) _ _ _ (by exact X) (by exact lv_sub hl [2, 1, 0] rfl)
set_option maxHeartbeats 4000000 in
set_option maxRecDepth 100000 in
theorem k4_isTold {E : (Nat → Prop) → State → Heap → Prop} (hE : cEok E) {l : Launch} {D : va_G} {Z : Nat → ClassId} {rd ro : Nat × Nat} {t n : Nat} {g : Nat → Int32} {q : Nat → Nat} {La : LA} {τ : MS} (xl : Int32) (hok : mOk τ) (hs1 : zsum (τ.2 5) (τ.1 4) ≤ 100) (htl : ztl q) : dtI E l D Z yX4_isTold (Cond.code yX4_isTold cX4_isTold 3 (some .boolean) :: cW) { frames := 2, cells := 0, slots := 0, locals := 46 } [.ref rd.1, .int xl, .ref La.1] (wcat [rdP Z rd ro.2 q, roP Z ro t n g, landP Z La τ]) (S := Unit) (fun _ => wcat [rdP Z rd ro.2 q, roP Z ro t n g, landP Z La (zitT τ xl q)]) (fun _ => if zitP τ xl q then 1 else 0) (fun _ => True) := by
  refine dtZ_of hE (cc := cX4_isTold) (maxL := 3) (hnar := fun _ _ => zb_ite) (by decide +kernel) (fun w h => List.mem_cons_of_mem _ h) (Nat.le_of_ble_eq_true rfl) ?_
  intro p e s m args below meth c A Q ls hx hb hml hown hts G X hl fin
  replace hl : lv_has ls 3 [(0, .ref rd.1), (1, .int xl), (2, .ref La.1)] := hl
  obtain ⟨k0, k4, k8, kr, kw, ks, kmet, kmt, k12, k13⟩ := id hok
  refine lv_iload_n hx hb dX4_isTold_0 rfl (lv_at hl 1 rfl) ?_
  by_cases t_1_97 : xl = nI 97
  · refine gi_raw t_1_97 ?_
    refine lv_lookup (tgt := 157) (off := 156) hx hb dX4_isTold_1 (by decide) (by decide +kernel) (by decide) ?_
    refine lv_aload_n hx hb dX4_isTold_157 rfl (lv_at hl 2 rfl) ?_
    refine lv_aload_n hx hb dX4_isTold_158 rfl (lv_at hl 0 rfl) ?_
    refine cg_4 G X 0 0 rfl rfl 1 (by decide) (G.2.2.2.1 _ ck_160) rfl rfl dX4_isTold_159 ?_
    refine lv_iconst (v := nI 0) hx hb dX4_isTold_162 (by decide) ?_
    refine cr_iald G X 0 1 rfl rfl (by omega) (by decide) dX4_isTold_163 ?_
    refine gi_eq (a := (q 0)) (zcl_in (by omega)) ?_
    refine dtI_go (w := wcat [landP Z La τ]) (wf := wcat [rdP Z rd ro.2 q, roP Z ro t n g]) (W1 := fun _ => wcat [rdP Z rd ro.2 q, roP Z ro t n g, landP Z La (zaAT τ (q 0))]) G X (wsel [2, 0, 1] rfl rfl) (run_V (As := [.int (nI (q 0))]) (rest := []) (n := 1) G hml hts hl.1 (p_recv G X 2 0 rfl rfl rfl) (k2_askFor hE (q 0) hok (htl 0 (by decide)) _) (cwV 1 hts (cg_V ck_104 ck_257 ck_258 ck_259 ck_79) rfl rfl rfl (by decide +kernel) ⟨Nat.le_of_ble_eq_true rfl, Nat.le_of_ble_eq_true rfl⟩) rfl (Nat.le_of_ble_eq_true rfl) dX4_isTold_164 ⟨Nat.le_refl _, Nat.le_refl _⟩) (fun _ => wback [2, 0, 1] rfl rfl) (fun H locs _ _ X => ?_)
    exact cfin_I (()) (trivial) (congrArg (fun z => wcat [rdP Z rd ro.2 q, roP Z ro t n g, landP Z La z]) (ziT_97 t_1_97).symm) (z_ifc (zit_97 t_1_97)) X dX4_isTold_167 fin
  by_cases t_1_98 : xl = nI 98
  · refine gi_raw t_1_98 ?_
    refine lv_lookup (tgt := 146) (off := 145) hx hb dX4_isTold_1 (by decide) (by decide +kernel) (by decide) ?_
    refine lv_aload_n hx hb dX4_isTold_146 rfl (lv_at hl 2 rfl) ?_
    refine lv_aload_n hx hb dX4_isTold_147 rfl (lv_at hl 0 rfl) ?_
    refine cg_4 G X 0 0 rfl rfl 1 (by decide) (G.2.2.2.1 _ ck_160) rfl rfl dX4_isTold_148 ?_
    refine lv_iconst (v := nI 0) hx hb dX4_isTold_151 (by decide) ?_
    refine cr_iald G X 0 1 rfl rfl (by omega) (by decide) dX4_isTold_152 ?_
    refine gi_eq (a := (q 0)) (zcl_in (by omega)) ?_
    refine dtI_go (w := wcat [landP Z La τ]) (wf := wcat [rdP Z rd ro.2 q, roP Z ro t n g]) (W1 := fun _ => wcat [rdP Z rd ro.2 q, roP Z ro t n g, landP Z La (zaBT τ (q 0))]) G X (wsel [2, 0, 1] rfl rfl) (run_V (As := [.int (nI (q 0))]) (rest := []) (n := 1) G hml hts hl.1 (p_recv G X 2 0 rfl rfl rfl) (k2_beginAt hE (q 0) hok (htl 0 (by decide)) _) (cwV 1 hts (cg_V ck_103 ck_254 ck_255 ck_256 ck_79) rfl rfl rfl (by decide +kernel) ⟨Nat.le_of_ble_eq_true rfl, Nat.le_of_ble_eq_true rfl⟩) rfl (Nat.le_of_ble_eq_true rfl) dX4_isTold_153 ⟨Nat.le_refl _, Nat.le_refl _⟩) (fun _ => wback [2, 0, 1] rfl rfl) (fun H locs _ _ X => ?_)
    exact cfin_I (()) (trivial) (congrArg (fun z => wcat [rdP Z rd ro.2 q, roP Z ro t n g, landP Z La z]) (ziT_98 t_1_98).symm) (z_ifc (zit_98 t_1_98)) X dX4_isTold_156 fin
  by_cases t_1_109 : xl = nI 109
  · refine gi_raw t_1_109 ?_
    refine lv_lookup (tgt := 123) (off := 122) hx hb dX4_isTold_1 (by decide) (by decide +kernel) (by decide) ?_
    refine lv_aload_n hx hb dX4_isTold_123 rfl (lv_at hl 2 rfl) ?_
    refine lv_aload_n hx hb dX4_isTold_124 rfl (lv_at hl 0 rfl) ?_
    refine cg_4 G X 0 0 rfl rfl 1 (by decide) (G.2.2.2.1 _ ck_160) rfl rfl dX4_isTold_125 ?_
    refine lv_iconst (v := nI 0) hx hb dX4_isTold_128 (by decide) ?_
    refine cr_iald G X 0 1 rfl rfl (by omega) (by decide) dX4_isTold_129 ?_
    refine gi_eq (a := (q 0)) (zcl_in (by omega)) ?_
    refine lv_aload_n hx hb dX4_isTold_130 rfl (lv_at hl 0 rfl) ?_
    refine cg_4 G X 0 0 rfl rfl 1 (by decide) (G.2.2.2.1 _ ck_160) rfl rfl dX4_isTold_131 ?_
    refine lv_iconst (v := nI 1) hx hb dX4_isTold_134 (by decide) ?_
    refine cr_iald G X 0 1 rfl rfl (by omega) (by decide) dX4_isTold_135 ?_
    refine gi_eq (a := (q 1)) (zcl_in (by omega)) ?_
    refine lv_aload_n hx hb dX4_isTold_136 rfl (lv_at hl 0 rfl) ?_
    refine cg_4 G X 0 0 rfl rfl 1 (by decide) (G.2.2.2.1 _ ck_160) rfl rfl dX4_isTold_137 ?_
    refine lv_iconst (v := nI 2) hx hb dX4_isTold_140 (by decide) ?_
    refine cr_iald G X 0 1 rfl rfl (by omega) (by decide) dX4_isTold_141 ?_
    refine gi_eq (a := (q 2)) (zcl_in (by omega)) ?_
    refine dtI_go (w := wcat [landP Z La τ]) (wf := wcat [rdP Z rd ro.2 q, roP Z ro t n g]) (W1 := fun _ => wcat [rdP Z rd ro.2 q, roP Z ro t n g, landP Z La (zaMT τ (q 0) (q 1) (q 2))]) G X (wsel [2, 0, 1] rfl rfl) (run_V (As := [.int (nI (q 0)), .int (nI (q 1)), .int (nI (q 2))]) (rest := []) (n := 3) G hml hts hl.1 (p_recv G X 2 0 rfl rfl rfl) (k2_meet hE (q 0) (q 1) (q 2) hok (htl 0 (by decide)) (htl 1 (by decide)) (htl 2 (by decide)) _) (cwV 3 hts (cg_V ck_96 ck_251 ck_252 ck_253 ck_79) rfl rfl rfl (by decide +kernel) ⟨Nat.le_of_ble_eq_true rfl, Nat.le_of_ble_eq_true rfl⟩) rfl (Nat.le_of_ble_eq_true rfl) dX4_isTold_142 ⟨Nat.le_refl _, Nat.le_refl _⟩) (fun _ => wback [2, 0, 1] rfl rfl) (fun H locs _ _ X => ?_)
    exact cfin_I (()) (trivial) (congrArg (fun z => wcat [rdP Z rd ro.2 q, roP Z ro t n g, landP Z La z]) (ziT_109 t_1_109).symm) (z_ifc (zit_109 t_1_109)) X dX4_isTold_145 fin
  by_cases t_1_114 : xl = nI 114
  · refine gi_raw t_1_114 ?_
    refine lv_lookup (tgt := 60) (off := 59) hx hb dX4_isTold_1 (by decide) (by decide +kernel) (by decide) ?_
    refine lv_aload_n hx hb dX4_isTold_60 rfl (lv_at hl 2 rfl) ?_
    refine lv_aload_n hx hb dX4_isTold_61 rfl (lv_at hl 0 rfl) ?_
    refine cg_4 G X 0 0 rfl rfl 1 (by decide) (G.2.2.2.1 _ ck_160) rfl rfl dX4_isTold_62 ?_
    refine lv_iconst (v := nI 0) hx hb dX4_isTold_65 (by decide) ?_
    refine cr_iald G X 0 1 rfl rfl (by omega) (by decide) dX4_isTold_66 ?_
    refine gi_eq (a := (q 0)) (zcl_in (by omega)) ?_
    refine lv_aload_n hx hb dX4_isTold_67 rfl (lv_at hl 0 rfl) ?_
    refine cg_4 G X 0 0 rfl rfl 1 (by decide) (G.2.2.2.1 _ ck_160) rfl rfl dX4_isTold_68 ?_
    refine lv_iconst (v := nI 1) hx hb dX4_isTold_71 (by decide) ?_
    refine cr_iald G X 0 1 rfl rfl (by omega) (by decide) dX4_isTold_72 ?_
    refine gi_eq (a := (q 1)) (zcl_in (by omega)) ?_
    refine lv_aload_n hx hb dX4_isTold_73 rfl (lv_at hl 0 rfl) ?_
    refine cg_4 G X 0 0 rfl rfl 1 (by decide) (G.2.2.2.1 _ ck_160) rfl rfl dX4_isTold_74 ?_
    refine lv_iconst (v := nI 2) hx hb dX4_isTold_77 (by decide) ?_
    refine cr_iald G X 0 1 rfl rfl (by omega) (by decide) dX4_isTold_78 ?_
    refine gi_eq (a := (q 2)) (zcl_in (by omega)) ?_
    refine dtI_go (w := wcat [landP Z La τ]) (wf := wcat [rdP Z rd ro.2 q, roP Z ro t n g]) (W1 := fun _ => wcat [rdP Z rd ro.2 q, roP Z ro t n g, landP Z La (zaRT τ (q 0) (q 1) (q 2))]) G X (wsel [2, 0, 1] rfl rfl) (run_V (As := [.int (nI (q 0)), .int (nI (q 1)), .int (nI (q 2))]) (rest := []) (n := 3) G hml hts hl.1 (p_recv G X 2 0 rfl rfl rfl) (k2_addRoad hE (q 0) (q 1) (q 2) hok (htl 0 (by decide)) (htl 1 (by decide)) (htl 2 (by decide)) _) (cwV 3 hts (cg_V ck_87 ck_242 ck_243 ck_244 ck_79) rfl rfl rfl (by decide +kernel) ⟨Nat.le_of_ble_eq_true rfl, Nat.le_of_ble_eq_true rfl⟩) rfl (Nat.le_of_ble_eq_true rfl) dX4_isTold_79 ⟨Nat.le_refl _, Nat.le_refl _⟩) (fun _ => wback [2, 0, 1] rfl rfl) (fun H locs _ _ X => ?_)
    exact cfin_I (()) (trivial) (congrArg (fun z => wcat [rdP Z rd ro.2 q, roP Z ro t n g, landP Z La z]) (ziT_114 t_1_114).symm) (z_ifc (zit_114 t_1_114)) X dX4_isTold_82 fin
  by_cases t_1_115 : xl = nI 115
  · refine gi_raw t_1_115 ?_
    refine lv_lookup (tgt := 106) (off := 105) hx hb dX4_isTold_1 (by decide) (by decide +kernel) (by decide) ?_
    refine lv_aload_n hx hb dX4_isTold_106 rfl (lv_at hl 2 rfl) ?_
    refine lv_aload_n hx hb dX4_isTold_107 rfl (lv_at hl 0 rfl) ?_
    refine cg_4 G X 0 0 rfl rfl 1 (by decide) (G.2.2.2.1 _ ck_160) rfl rfl dX4_isTold_108 ?_
    refine lv_iconst (v := nI 0) hx hb dX4_isTold_111 (by decide) ?_
    refine cr_iald G X 0 1 rfl rfl (by omega) (by decide) dX4_isTold_112 ?_
    refine gi_eq (a := (q 0)) (zcl_in (by omega)) ?_
    refine lv_aload_n hx hb dX4_isTold_113 rfl (lv_at hl 0 rfl) ?_
    refine cg_4 G X 0 0 rfl rfl 1 (by decide) (G.2.2.2.1 _ ck_160) rfl rfl dX4_isTold_114 ?_
    refine lv_iconst (v := nI 1) hx hb dX4_isTold_117 (by decide) ?_
    refine cr_iald G X 0 1 rfl rfl (by omega) (by decide) dX4_isTold_118 ?_
    refine gi_eq (a := (q 1)) (zcl_in (by omega)) ?_
    refine dtI_go (w := wcat [landP Z La τ]) (wf := wcat [rdP Z rd ro.2 q, roP Z ro t n g]) (W1 := fun _ => wcat [rdP Z rd ro.2 q, roP Z ro t n g, landP Z La (zaST τ (q 0) (q 1))]) G X (wsel [2, 0, 1] rfl rfl) (run_V (As := [.int (nI (q 0)), .int (nI (q 1))]) (rest := []) (n := 2) G hml hts hl.1 (p_recv G X 2 0 rfl rfl rfl) (k2_addSort hE (q 0) (q 1) hok (htl 0 (by decide)) (htl 1 (by decide)) _) (cwV 2 hts (cg_V ck_93 ck_248 ck_249 ck_250 ck_79) rfl rfl rfl (by decide +kernel) ⟨Nat.le_of_ble_eq_true rfl, Nat.le_of_ble_eq_true rfl⟩) rfl (Nat.le_of_ble_eq_true rfl) dX4_isTold_119 ⟨Nat.le_refl _, Nat.le_refl _⟩) (fun _ => wback [2, 0, 1] rfl rfl) (fun H locs _ _ X => ?_)
    exact cfin_I (()) (trivial) (congrArg (fun z => wcat [rdP Z rd ro.2 q, roP Z ro t n g, landP Z La z]) (ziT_115 t_1_115).symm) (z_ifc (zit_115 t_1_115)) X dX4_isTold_122 fin
  by_cases t_1_119 : xl = nI 119
  · refine gi_raw t_1_119 ?_
    refine lv_lookup (tgt := 83) (off := 82) hx hb dX4_isTold_1 (by decide) (by decide +kernel) (by decide) ?_
    refine lv_aload_n hx hb dX4_isTold_83 rfl (lv_at hl 2 rfl) ?_
    refine lv_aload_n hx hb dX4_isTold_84 rfl (lv_at hl 0 rfl) ?_
    refine cg_4 G X 0 0 rfl rfl 1 (by decide) (G.2.2.2.1 _ ck_160) rfl rfl dX4_isTold_85 ?_
    refine lv_iconst (v := nI 0) hx hb dX4_isTold_88 (by decide) ?_
    refine cr_iald G X 0 1 rfl rfl (by omega) (by decide) dX4_isTold_89 ?_
    refine gi_eq (a := (q 0)) (zcl_in (by omega)) ?_
    refine lv_aload_n hx hb dX4_isTold_90 rfl (lv_at hl 0 rfl) ?_
    refine cg_4 G X 0 0 rfl rfl 1 (by decide) (G.2.2.2.1 _ ck_160) rfl rfl dX4_isTold_91 ?_
    refine lv_iconst (v := nI 1) hx hb dX4_isTold_94 (by decide) ?_
    refine cr_iald G X 0 1 rfl rfl (by omega) (by decide) dX4_isTold_95 ?_
    refine gi_eq (a := (q 1)) (zcl_in (by omega)) ?_
    refine lv_aload_n hx hb dX4_isTold_96 rfl (lv_at hl 0 rfl) ?_
    refine cg_4 G X 0 0 rfl rfl 1 (by decide) (G.2.2.2.1 _ ck_160) rfl rfl dX4_isTold_97 ?_
    refine lv_iconst (v := nI 2) hx hb dX4_isTold_100 (by decide) ?_
    refine cr_iald G X 0 1 rfl rfl (by omega) (by decide) dX4_isTold_101 ?_
    refine gi_eq (a := (q 2)) (zcl_in (by omega)) ?_
    refine dtI_go (w := wcat [landP Z La τ]) (wf := wcat [rdP Z rd ro.2 q, roP Z ro t n g]) (W1 := fun _ => wcat [rdP Z rd ro.2 q, roP Z ro t n g, landP Z La (zaWT τ (q 0) (q 1) (q 2))]) G X (wsel [2, 0, 1] rfl rfl) (run_V (As := [.int (nI (q 0)), .int (nI (q 1)), .int (nI (q 2))]) (rest := []) (n := 3) G hml hts hl.1 (p_recv G X 2 0 rfl rfl rfl) (k2_addWorld hE (q 0) (q 1) (q 2) hok (htl 0 (by decide)) (htl 1 (by decide)) (htl 2 (by decide)) hs1 _) (cwV 3 hts (cg_V ck_90 ck_245 ck_246 ck_247 ck_79) rfl rfl rfl (by decide +kernel) ⟨Nat.le_of_ble_eq_true rfl, Nat.le_of_ble_eq_true rfl⟩) rfl (Nat.le_of_ble_eq_true rfl) dX4_isTold_102 ⟨Nat.le_refl _, Nat.le_refl _⟩) (fun _ => wback [2, 0, 1] rfl rfl) (fun H locs _ _ X => ?_)
    exact cfin_I (()) (trivial) (congrArg (fun z => wcat [rdP Z rd ro.2 q, roP Z ro t n g, landP Z La z]) (ziT_119 t_1_119).symm) (z_ifc (zit_119 t_1_119)) X dX4_isTold_105 fin
  refine lv_lookup (tgt := 168) (off := 167) hx hb dX4_isTold_1 (by decide) ((lv_osw t_1_97 (by decide)).trans ((lv_osw t_1_98 (by decide)).trans ((lv_osw t_1_109 (by decide)).trans ((lv_osw t_1_114 (by decide)).trans ((lv_osw t_1_115 (by decide)).trans ((lv_osw t_1_119 (by decide)).trans rfl)))))) (by decide) ?_
  refine lv_iconst (v := nI 0) hx hb dX4_isTold_168 (by decide) ?_
  exact cfin_I (()) (trivial) (congrArg (fun z => wcat [rdP Z rd ro.2 q, roP Z ro t n g, landP Z La z]) (ziT_o t_1_114 t_1_119 t_1_115 t_1_109 t_1_98 t_1_97).symm) (by exact (if_neg (zit_o t_1_114 t_1_119 t_1_115 t_1_109 t_1_98 t_1_97)).symm) X dX4_isTold_169 fin
