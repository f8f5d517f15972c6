set_option maxHeartbeats 4000000 in
set_option maxRecDepth 100000 in
theorem c_comes {l : Launch} {D : va_G} {cl : List vw_C} {tys : List (ClassId × FieldType)} {o : Nat} {q : Nat → Nat} {ci : Nat} {cI cJ : ClassId} (hcl : cl[ci]? = some (RX12, TX12, 48)) (ht0 : tys[0]? = some (cI, .int)) (ht1 : tys[1]? = some (cJ, .long)) {σ : MS} (i : Nat) (hok : mOk σ) (hrd : zrdO σ i) : ctI l D cl tys yX12_comes (Cond.code yX12_comes cX12_comes 5 (some .boolean) :: mW) { frames := 1, cells := 0, slots := 0, locals := 25 } [.ref o, .int (nI i)] (mw o q ci cI cJ σ) (if zcoA σ i then 1 else 0) (mw o q ci cI cJ (zcoT σ i)) := by
  refine ctZ_of (cc := cX12_comes) (maxL := 5) (hnar := zb_ite) (by decide +kernel) rfl (Nat.le_of_ble_eq_true rfl) ?_
  intro p e s m args below meth c A Q ls hx hb hml hown hts hK hA X hl fin
  replace hown : s.vm.findClass RX12 = some m.cls := hown
  have hwd : ∀ w ∈ mW, w.before args s = true := fun w h => hts w (List.mem_cons_of_mem _ h)
  have G : mG p c cX12_comes s m args D cl tys ci cI cJ := ⟨hx, hb, hown, hwd, hK, hcl, ht0, ht1⟩
  replace hl : lv_has ls 5 [(0, .ref o), (1, .int (nI i))] := hl
  obtain ⟨kr, kw, ks, kroad, kworld, ksort, kmet, ksum, kst, kco⟩ := id hok
  have hi50 := hrd.1
  have hAa := hrd.2.1
  have hlet := zrdO_l hrd
  have hw5 := hok.2.1
  have hch : ∀ w, w < σ.1 4 → σ.2 5 w ≤ 100 := fun w hw => (hok.2.2.2.2.1 w hw).2.1
  have hs5 := zsum_le (f := σ.2 5) (b := 100) (σ.1 4) hch
  have hmt9 := hok.2.2.2.2.2.2.2.1
  refine lv_aload_n hx hb dX12_comes_0 rfl (lv_at hl 0 rfl) ?_
  refine m_geta G X 23 rfl (hwd _ mk_18) rfl dX12_comes_1 ?_
  refine lv_iload_n hx hb dX12_comes_4 rfl (lv_at hl 1 rfl) ?_
  refine m_iald G X 23 rfl (i := i) (by show _ < 50; omega) (by omega) dX12_comes_5 ?_
  refine lv_istore_n (lv' := [(2, .int (nI (σ.2 23 i))), (0, .ref o), (1, .int (nI i))]) hx hb dX12_comes_6 rfl hl (by decide) rfl (fun ls hl => ?_)
  refine lv_aload_n hx hb dX12_comes_7 rfl (lv_at hl 1 rfl) ?_
  refine m_geta G X 24 rfl (hwd _ mk_19) rfl dX12_comes_8 ?_
  refine lv_iload_n hx hb dX12_comes_11 rfl (lv_at hl 2 rfl) ?_
  refine m_iald G X 24 rfl (i := i) (by show _ < 50; omega) (by omega) dX12_comes_12 ?_
  refine lv_istore_n (lv' := [(3, .int (nI (σ.2 24 i))), (2, .int (nI (σ.2 23 i))), (0, .ref o), (1, .int (nI i))]) hx hb dX12_comes_13 rfl hl (by decide) rfl (fun ls hl => ?_)
  refine lv_aload_n hx hb dX12_comes_14 rfl (lv_at hl 2 rfl) ?_
  refine m_geta G X 25 rfl (hwd _ mk_20) rfl dX12_comes_15 ?_
  refine lv_iload_n hx hb dX12_comes_18 rfl (lv_at hl 3 rfl) ?_
  refine m_iald G X 25 rfl (i := i) (by show _ < 50; omega) (by omega) dX12_comes_19 ?_
  refine lv_istore (lv' := [(4, .int (nI (σ.2 25 i))), (3, .int (nI (σ.2 24 i))), (2, .int (nI (σ.2 23 i))), (0, .ref o), (1, .int (nI i))]) hx hb dX12_comes_20 hl (by decide) rfl (fun ls hl => ?_)
  refine lv_aload_n hx hb dX12_comes_22 rfl (lv_at hl 3 rfl) ?_
  refine m_geta G X 22 rfl (hwd _ mk_17) rfl dX12_comes_23 ?_
  refine lv_iload_n hx hb dX12_comes_26 rfl (lv_at hl 4 rfl) ?_
  refine m_iald G X 22 rfl (i := i) (by show _ < 50; omega) (by omega) dX12_comes_27 ?_
  rcases hlet with e_28 | e_28 | e_28 | e_28 | e_28 | e_28
  ·
    refine gi_eq (a := 114) e_28 ?_
    refine lv_lookup (tgt := 80) (off := 52) hx hb dX12_comes_28 (by decide) (by decide +kernel) (by decide) ?_
    obtain ⟨hBb, hCc⟩ := zrdO_b hrd (by omega)
    refine lv_iload_n hx hb dX12_comes_80 rfl (lv_at hl 2 rfl) ?_
    refine lv_bipush (v := nI 7) hx hb dX12_comes_81 (by decide) ?_
    refine gn_icmp_gt (tgt := 119) hx hb dX12_comes_83 (by decide) (by omega) (by omega) (fun c_83 => ?_) (fun c_83 => ?_)
    ·
      refine lv_iconst (v := nI 0) hx hb dX12_comes_119 (by decide) ?_
      exact fin_of (mw_eq (zcoT_n (fun h9 => by have h8 := (zcoA_114 e_28).mp h9; omega)).symm) (zb_f (fun h9 => by have h8 := (zcoA_114 e_28).mp h9; omega)) X dX12_comes_120 fin
    ·
      refine lv_iload_n hx hb dX12_comes_86 rfl (lv_at hl 1 rfl) ?_
      refine lv_bipush (v := nI 7) hx hb dX12_comes_87 (by decide) ?_
      refine gn_icmp_gt (tgt := 119) hx hb dX12_comes_89 (by decide) (by omega) (by omega) (fun c_89 => ?_) (fun c_89 => ?_)
      ·
        refine lv_iconst (v := nI 0) hx hb dX12_comes_119 (by decide) ?_
        exact fin_of (mw_eq (zcoT_n (fun h9 => by have h8 := (zcoA_114 e_28).mp h9; omega)).symm) (zb_f (fun h9 => by have h8 := (zcoA_114 e_28).mp h9; omega)) X dX12_comes_120 fin
      ·
        refine lv_iload_n hx hb dX12_comes_92 rfl (lv_at hl 2 rfl) ?_
        refine lv_iload_n hx hb dX12_comes_93 rfl (lv_at hl 1 rfl) ?_
        refine gn_icmp_eq (tgt := 119) hx hb dX12_comes_94 (by decide) (by omega) (by omega) (fun c_94 => ?_) (fun c_94 => ?_)
        ·
          refine lv_iconst (v := nI 0) hx hb dX12_comes_119 (by decide) ?_
          exact fin_of (mw_eq (zcoT_n (fun h9 => by have h8 := (zcoA_114 e_28).mp h9; omega)).symm) (zb_f (fun h9 => by have h8 := (zcoA_114 e_28).mp h9; omega)) X dX12_comes_120 fin
        ·
          refine lv_iload hx hb dX12_comes_97 (lv_at hl 0 rfl) ?_
          refine lv_i2l (v := (nI (σ.2 25 i)).toInt64) hx hb dX12_comes_99 rfl ?_
          refine lv_lconst (v := lN 1) hx hb dX12_comes_100 (by decide) ?_
          refine gn_ldc2 (v := 60) (k := 60) hx hb hown (hwd _ mk_76) (by decide) dX12_comes_101 ?_
          refine ctI_S (w := []) (wf := mw o q ci cI cJ σ) (As := [.long ((nI (σ.2 25 i)).toInt64), .long (lN 1), .long (lN 60)]) (rest := []) (n := 3) hx hb hml hown hts hK hA X hl.1 (c_in ((nI (σ.2 25 i)).toInt64) (lN 1) (lN 60) ) (va_cwS 3 hts (mg_S mk_38 mk_41 mk_42 mk_43) rfl rfl rfl (by decide +kernel) ⟨Nat.le_of_ble_eq_true rfl, Nat.le_of_ble_eq_true rfl⟩) rfl (Nat.le_of_ble_eq_true rfl) dX12_comes_104 ⟨Nat.le_refl _, Nat.le_refl _⟩ (fun H locs X => ?_)
          refine gb_if_eq (tgt := 119) hx hb dX12_comes_107 (by decide) (fun c_107 => ?_) (fun c_107 => ?_)
          ·
            rw [zin_n (by omega) (by decide) (by decide)] at c_107
            refine lv_iconst (v := nI 0) hx hb dX12_comes_119 (by decide) ?_
            exact fin_of (mw_eq (zcoT_n (fun h9 => by have h8 := (zcoA_114 e_28).mp h9; omega)).symm) (zb_f (fun h9 => by have h8 := (zcoA_114 e_28).mp h9; omega)) X dX12_comes_120 fin
          ·
            rw [zin_n (by omega) (by decide) (by decide)] at c_107
            refine lv_aload_n hx hb dX12_comes_110 rfl (lv_at hl 3 rfl) ?_
            refine m_geti G X 0 rfl (hwd _ mk_77) rfl dX12_comes_111 ?_
            refine lv_bipush (v := nI 16) hx hb dX12_comes_114 (by decide) ?_
            refine gn_icmp_ne (tgt := 121) hx hb dX12_comes_116 (by decide) (by omega) (by omega) (fun c_116 => ?_) (fun c_116 => ?_)
            ·
              refine lv_aload_n hx hb dX12_comes_121 rfl (lv_at hl 3 rfl) ?_
              refine m_geta G X 1 rfl (hwd _ mk_4) rfl dX12_comes_122 ?_
              refine lv_aload_n hx hb dX12_comes_125 rfl (lv_at hl 3 rfl) ?_
              refine m_geti G X 0 rfl (hwd _ mk_77) rfl dX12_comes_126 ?_
              refine lv_iload_n hx hb dX12_comes_129 rfl (lv_at hl 2 rfl) ?_
              refine m_iast G X 1 rfl (i := (σ.1 0)) (v := (σ.2 23 i)) (by show _ < 16; omega) (by omega) dX12_comes_130 (fun H locs X => ?_)
              refine lv_aload_n hx hb dX12_comes_131 rfl (lv_at hl 3 rfl) ?_
              refine m_geta G X 2 rfl (hwd _ mk_5) rfl dX12_comes_132 ?_
              refine lv_aload_n hx hb dX12_comes_135 rfl (lv_at hl 3 rfl) ?_
              refine m_geti G X 0 rfl (hwd _ mk_77) rfl dX12_comes_136 ?_
              refine gi_eq (a := (σ.1 0)) rfl ?_
              refine lv_iload_n hx hb dX12_comes_139 rfl (lv_at hl 1 rfl) ?_
              refine m_iast G X 2 rfl (i := (σ.1 0)) (v := (σ.2 24 i)) (by show _ < 16; omega) (by omega) dX12_comes_140 (fun H locs X => ?_)
              refine lv_aload_n hx hb dX12_comes_141 rfl (lv_at hl 3 rfl) ?_
              refine m_geta G X 3 rfl (hwd _ mk_6) rfl dX12_comes_142 ?_
              refine lv_aload_n hx hb dX12_comes_145 rfl (lv_at hl 3 rfl) ?_
              refine m_geti G X 0 rfl (hwd _ mk_77) rfl dX12_comes_146 ?_
              refine gi_eq (a := (σ.1 0)) rfl ?_
              refine lv_iload hx hb dX12_comes_149 (lv_at hl 0 rfl) ?_
              refine m_iast G X 3 rfl (i := (σ.1 0)) (v := (σ.2 25 i)) (by show _ < 16; omega) (by omega) dX12_comes_151 (fun H locs X => ?_)
              refine lv_aload_n hx hb dX12_comes_152 rfl (lv_at hl 3 rfl) ?_
              refine lv_dup hx hb dX12_comes_153 rfl ?_
              refine m_geti G X 0 rfl (hwd _ mk_77) rfl dX12_comes_154 ?_
              refine gi_eq (a := (σ.1 0)) rfl ?_
              refine lv_iconst (v := nI 1) hx hb dX12_comes_157 (by decide) ?_
              refine gn_iadd hx hb dX12_comes_158  ?_
              refine m_puti G X 0 rfl (hwd _ mk_77) rfl (ty := .int) (by decide +kernel) rfl rfl dX12_comes_159 (fun H locs X => ?_)
              refine lv_iconst (v := nI 1) hx hb dX12_comes_162 (by decide) ?_
              exact fin_of (mw_eq (zcoT_114 e_28 ((zcoA_114 e_28).mpr ⟨by omega, by omega, by omega, by omega, by omega⟩)).symm) (zb_t ((zcoA_114 e_28).mpr ⟨by omega, by omega, by omega, by omega, by omega⟩)) X dX12_comes_163 fin
            ·
              refine lv_iconst (v := nI 0) hx hb dX12_comes_119 (by decide) ?_
              exact fin_of (mw_eq (zcoT_n (fun h9 => by have h8 := (zcoA_114 e_28).mp h9; omega)).symm) (zb_f (fun h9 => by have h8 := (zcoA_114 e_28).mp h9; omega)) X dX12_comes_120 fin
  ·
    refine gi_eq (a := 119) e_28 ?_
    refine lv_lookup (tgt := 164) (off := 136) hx hb dX12_comes_28 (by decide) (by decide +kernel) (by decide) ?_
    obtain ⟨hBb, hCc⟩ := zrdO_b hrd (by omega)
    refine lv_iload_n hx hb dX12_comes_164 rfl (lv_at hl 2 rfl) ?_
    refine lv_i2l (v := (nI (σ.2 23 i)).toInt64) hx hb dX12_comes_165 rfl ?_
    refine lv_lconst (v := lN 1) hx hb dX12_comes_166 (by decide) ?_
    refine gn_ldc2 (v := 100) (k := 100) hx hb hown (hwd _ mk_78) (by decide) dX12_comes_167 ?_
    refine ctI_S (w := []) (wf := mw o q ci cI cJ σ) (As := [.long ((nI (σ.2 23 i)).toInt64), .long (lN 1), .long (lN 100)]) (rest := []) (n := 3) hx hb hml hown hts hK hA X hl.1 (c_in ((nI (σ.2 23 i)).toInt64) (lN 1) (lN 100) ) (va_cwS 3 hts (mg_S mk_38 mk_41 mk_42 mk_43) rfl rfl rfl (by decide +kernel) ⟨Nat.le_of_ble_eq_true rfl, Nat.le_of_ble_eq_true rfl⟩) rfl (Nat.le_of_ble_eq_true rfl) dX12_comes_170 ⟨Nat.le_refl _, Nat.le_refl _⟩ (fun H locs X => ?_)
    refine gb_if_eq (tgt := 208) hx hb dX12_comes_173 (by decide) (fun c_173 => ?_) (fun c_173 => ?_)
    ·
      rw [zin_n (by omega) (by decide) (by decide)] at c_173
      refine lv_iconst (v := nI 0) hx hb dX12_comes_208 (by decide) ?_
      exact fin_of (mw_eq (zcoT_n (fun h9 => by have h8 := (zcoA_119 e_28).mp h9; omega)).symm) (zb_f (fun h9 => by have h8 := (zcoA_119 e_28).mp h9; omega)) X dX12_comes_209 fin
    ·
      rw [zin_n (by omega) (by decide) (by decide)] at c_173
      refine lv_iload_n hx hb dX12_comes_176 rfl (lv_at hl 1 rfl) ?_
      refine lv_bipush (v := nI 7) hx hb dX12_comes_177 (by decide) ?_
      refine gn_icmp_gt (tgt := 208) hx hb dX12_comes_179 (by decide) (by omega) (by omega) (fun c_179 => ?_) (fun c_179 => ?_)
      ·
        refine lv_iconst (v := nI 0) hx hb dX12_comes_208 (by decide) ?_
        exact fin_of (mw_eq (zcoT_n (fun h9 => by have h8 := (zcoA_119 e_28).mp h9; omega)).symm) (zb_f (fun h9 => by have h8 := (zcoA_119 e_28).mp h9; omega)) X dX12_comes_209 fin
      ·
        refine lv_iload hx hb dX12_comes_182 (lv_at hl 0 rfl) ?_
        refine gn_ldc (v := 65535) (k := 65535) hx hb hown (hwd _ mk_79) (by decide) dX12_comes_184 ?_
        refine gn_icmp_gt (tgt := 208) hx hb dX12_comes_186 (by decide) (by omega) (by omega) (fun c_186 => ?_) (fun c_186 => ?_)
        ·
          refine lv_iconst (v := nI 0) hx hb dX12_comes_208 (by decide) ?_
          exact fin_of (mw_eq (zcoT_n (fun h9 => by have h8 := (zcoA_119 e_28).mp h9; omega)).symm) (zb_f (fun h9 => by have h8 := (zcoA_119 e_28).mp h9; omega)) X dX12_comes_209 fin
        ·
          refine lv_aload_n hx hb dX12_comes_189 rfl (lv_at hl 3 rfl) ?_
          refine m_geti G X 4 rfl (hwd _ mk_45) rfl dX12_comes_190 ?_
          refine lv_iconst (v := nI 5) hx hb dX12_comes_193 (by decide) ?_
          refine gn_icmp_eq (tgt := 208) hx hb dX12_comes_194 (by decide) (by omega) (by omega) (fun c_194 => ?_) (fun c_194 => ?_)
          ·
            refine lv_iconst (v := nI 0) hx hb dX12_comes_208 (by decide) ?_
            exact fin_of (mw_eq (zcoT_n (fun h9 => by have h8 := (zcoA_119 e_28).mp h9; omega)).symm) (zb_f (fun h9 => by have h8 := (zcoA_119 e_28).mp h9; omega)) X dX12_comes_209 fin
          ·
            refine lv_aload_n hx hb dX12_comes_197 rfl (lv_at hl 3 rfl) ?_
            refine ctI_V (wf := []) (As := []) (rest := []) (n := 0) hx hb hml hown hts hK hA (ap_nil X) hl.1 (m_recv G X) (c_chancesTogether hcl ht0 ht1 (σ := σ)  (hw5) (hch)) (cwV 0 hts (mg_V mk_46 mk_48 mk_49 mk_50 mk_43) rfl rfl rfl (by decide +kernel) ⟨Nat.le_of_ble_eq_true rfl, Nat.le_of_ble_eq_true rfl⟩) rfl (Nat.le_of_ble_eq_true rfl) dX12_comes_198 ⟨Nat.le_refl _, Nat.le_refl _⟩ (fun H locs X => ?_)
            replace X := ap_nil' X
            refine lv_iload_n hx hb dX12_comes_201 rfl (lv_at hl 2 rfl) ?_
            refine gn_iadd hx hb dX12_comes_202  ?_
            refine lv_bipush (v := nI 100) hx hb dX12_comes_203 (by decide) ?_
            refine gn_icmp_le (tgt := 210) hx hb dX12_comes_205 (by decide) (by omega) (by omega) (fun c_205 => ?_) (fun c_205 => ?_)
            ·
              refine lv_aload_n hx hb dX12_comes_210 rfl (lv_at hl 3 rfl) ?_
              refine m_geta G X 5 rfl (hwd _ mk_7) rfl dX12_comes_211 ?_
              refine lv_aload_n hx hb dX12_comes_214 rfl (lv_at hl 3 rfl) ?_
              refine m_geti G X 4 rfl (hwd _ mk_45) rfl dX12_comes_215 ?_
              refine lv_iload_n hx hb dX12_comes_218 rfl (lv_at hl 2 rfl) ?_
              refine m_iast G X 5 rfl (i := (σ.1 4)) (v := (σ.2 23 i)) (by show _ < 5; omega) (by omega) dX12_comes_219 (fun H locs X => ?_)
              refine lv_aload_n hx hb dX12_comes_220 rfl (lv_at hl 3 rfl) ?_
              refine m_geta G X 6 rfl (hwd _ mk_8) rfl dX12_comes_221 ?_
              refine lv_aload_n hx hb dX12_comes_224 rfl (lv_at hl 3 rfl) ?_
              refine m_geti G X 4 rfl (hwd _ mk_45) rfl dX12_comes_225 ?_
              refine gi_eq (a := (σ.1 4)) rfl ?_
              refine lv_iload_n hx hb dX12_comes_228 rfl (lv_at hl 1 rfl) ?_
              refine m_iast G X 6 rfl (i := (σ.1 4)) (v := (σ.2 24 i)) (by show _ < 5; omega) (by omega) dX12_comes_229 (fun H locs X => ?_)
              refine lv_aload_n hx hb dX12_comes_230 rfl (lv_at hl 3 rfl) ?_
              refine m_geta G X 7 rfl (hwd _ mk_9) rfl dX12_comes_231 ?_
              refine lv_aload_n hx hb dX12_comes_234 rfl (lv_at hl 3 rfl) ?_
              refine m_geti G X 4 rfl (hwd _ mk_45) rfl dX12_comes_235 ?_
              refine gi_eq (a := (σ.1 4)) rfl ?_
              refine lv_iload hx hb dX12_comes_238 (lv_at hl 0 rfl) ?_
              refine m_iast G X 7 rfl (i := (σ.1 4)) (v := (σ.2 25 i)) (by show _ < 5; omega) (by omega) dX12_comes_240 (fun H locs X => ?_)
              refine lv_aload_n hx hb dX12_comes_241 rfl (lv_at hl 3 rfl) ?_
              refine lv_dup hx hb dX12_comes_242 rfl ?_
              refine m_geti G X 4 rfl (hwd _ mk_45) rfl dX12_comes_243 ?_
              refine gi_eq (a := (σ.1 4)) rfl ?_
              refine lv_iconst (v := nI 1) hx hb dX12_comes_246 (by decide) ?_
              refine gn_iadd hx hb dX12_comes_247  ?_
              refine m_puti G X 4 rfl (hwd _ mk_45) rfl (ty := .int) (by decide +kernel) rfl rfl dX12_comes_248 (fun H locs X => ?_)
              refine lv_iconst (v := nI 1) hx hb dX12_comes_251 (by decide) ?_
              exact fin_of (mw_eq (zcoT_119 e_28 ((zcoA_119 e_28).mpr ⟨by omega, by omega, by omega, by omega, by omega⟩)).symm) (zb_t ((zcoA_119 e_28).mpr ⟨by omega, by omega, by omega, by omega, by omega⟩)) X dX12_comes_252 fin
            ·
              refine lv_iconst (v := nI 0) hx hb dX12_comes_208 (by decide) ?_
              exact fin_of (mw_eq (zcoT_n (fun h9 => by have h8 := (zcoA_119 e_28).mp h9; omega)).symm) (zb_f (fun h9 => by have h8 := (zcoA_119 e_28).mp h9; omega)) X dX12_comes_209 fin
  ·
    refine gi_eq (a := 115) e_28 ?_
    refine lv_lookup (tgt := 253) (off := 225) hx hb dX12_comes_28 (by decide) (by decide +kernel) (by decide) ?_
    have hCc := zrdO_c hrd (by omega)
    refine lv_iload_n hx hb dX12_comes_253 rfl (lv_at hl 2 rfl) ?_
    refine lv_iconst (v := nI 4) hx hb dX12_comes_254 (by decide) ?_
    refine gn_icmp_gt (tgt := 274) hx hb dX12_comes_255 (by decide) (by omega) (by omega) (fun c_255 => ?_) (fun c_255 => ?_)
    ·
      refine lv_iconst (v := nI 0) hx hb dX12_comes_274 (by decide) ?_
      exact fin_of (mw_eq (zcoT_n (fun h9 => by have h8 := (zcoA_115 e_28).mp h9; omega)).symm) (zb_f (fun h9 => by have h8 := (zcoA_115 e_28).mp h9; omega)) X dX12_comes_275 fin
    ·
      refine lv_iload hx hb dX12_comes_258 (lv_at hl 0 rfl) ?_
      refine lv_bipush (v := nI 99) hx hb dX12_comes_260 (by decide) ?_
      refine gn_icmp_gt (tgt := 274) hx hb dX12_comes_262 (by decide) (by omega) (by omega) (fun c_262 => ?_) (fun c_262 => ?_)
      ·
        refine lv_iconst (v := nI 0) hx hb dX12_comes_274 (by decide) ?_
        exact fin_of (mw_eq (zcoT_n (fun h9 => by have h8 := (zcoA_115 e_28).mp h9; omega)).symm) (zb_f (fun h9 => by have h8 := (zcoA_115 e_28).mp h9; omega)) X dX12_comes_275 fin
      ·
        refine lv_aload_n hx hb dX12_comes_265 rfl (lv_at hl 3 rfl) ?_
        refine m_geti G X 8 rfl (hwd _ mk_80) rfl dX12_comes_266 ?_
        refine lv_bipush (v := nI 6) hx hb dX12_comes_269 (by decide) ?_
        refine gn_icmp_ne (tgt := 276) hx hb dX12_comes_271 (by decide) (by omega) (by omega) (fun c_271 => ?_) (fun c_271 => ?_)
        ·
          refine lv_aload_n hx hb dX12_comes_276 rfl (lv_at hl 3 rfl) ?_
          refine m_geta G X 9 rfl (hwd _ mk_10) rfl dX12_comes_277 ?_
          refine lv_aload_n hx hb dX12_comes_280 rfl (lv_at hl 3 rfl) ?_
          refine m_geti G X 8 rfl (hwd _ mk_80) rfl dX12_comes_281 ?_
          refine lv_iload_n hx hb dX12_comes_284 rfl (lv_at hl 2 rfl) ?_
          refine m_iast G X 9 rfl (i := (σ.1 8)) (v := (σ.2 23 i)) (by show _ < 6; omega) (by omega) dX12_comes_285 (fun H locs X => ?_)
          refine lv_aload_n hx hb dX12_comes_286 rfl (lv_at hl 3 rfl) ?_
          refine m_geta G X 10 rfl (hwd _ mk_11) rfl dX12_comes_287 ?_
          refine lv_aload_n hx hb dX12_comes_290 rfl (lv_at hl 3 rfl) ?_
          refine m_geti G X 8 rfl (hwd _ mk_80) rfl dX12_comes_291 ?_
          refine gi_eq (a := (σ.1 8)) rfl ?_
          refine lv_iload hx hb dX12_comes_294 (lv_at hl 0 rfl) ?_
          refine m_iast G X 10 rfl (i := (σ.1 8)) (v := (σ.2 25 i)) (by show _ < 6; omega) (by omega) dX12_comes_296 (fun H locs X => ?_)
          refine lv_aload_n hx hb dX12_comes_297 rfl (lv_at hl 3 rfl) ?_
          refine lv_dup hx hb dX12_comes_298 rfl ?_
          refine m_geti G X 8 rfl (hwd _ mk_80) rfl dX12_comes_299 ?_
          refine gi_eq (a := (σ.1 8)) rfl ?_
          refine lv_iconst (v := nI 1) hx hb dX12_comes_302 (by decide) ?_
          refine gn_iadd hx hb dX12_comes_303  ?_
          refine m_puti G X 8 rfl (hwd _ mk_80) rfl (ty := .int) (by decide +kernel) rfl rfl dX12_comes_304 (fun H locs X => ?_)
          refine lv_iconst (v := nI 1) hx hb dX12_comes_307 (by decide) ?_
          exact fin_of (mw_eq (zcoT_115 e_28 ((zcoA_115 e_28).mpr ⟨by omega, by omega, by omega⟩)).symm) (zb_t ((zcoA_115 e_28).mpr ⟨by omega, by omega, by omega⟩)) X dX12_comes_308 fin
        ·
          refine lv_iconst (v := nI 0) hx hb dX12_comes_274 (by decide) ?_
          exact fin_of (mw_eq (zcoT_n (fun h9 => by have h8 := (zcoA_115 e_28).mp h9; omega)).symm) (zb_f (fun h9 => by have h8 := (zcoA_115 e_28).mp h9; omega)) X dX12_comes_275 fin
  ·
    refine gi_eq (a := 109) e_28 ?_
    refine lv_lookup (tgt := 309) (off := 281) hx hb dX12_comes_28 (by decide) (by decide +kernel) (by decide) ?_
    obtain ⟨hBb, hCc⟩ := zrdO_b hrd (by omega)
    refine lv_iload_n hx hb dX12_comes_309 rfl (lv_at hl 2 rfl) ?_
    refine lv_bipush (v := nI 7) hx hb dX12_comes_310 (by decide) ?_
    refine gn_icmp_gt (tgt := 355) hx hb dX12_comes_312 (by decide) (by omega) (by omega) (fun c_312 => ?_) (fun c_312 => ?_)
    ·
      refine lv_iconst (v := nI 0) hx hb dX12_comes_355 (by decide) ?_
      exact fin_of (mw_eq (zcoT_n (fun h9 => by have h8 := (zcoA_109 e_28).mp h9; omega)).symm) (zb_f (fun h9 => by have h8 := (zcoA_109 e_28).mp h9; omega)) X dX12_comes_356 fin
    ·
      refine lv_iload_n hx hb dX12_comes_315 rfl (lv_at hl 1 rfl) ?_
      refine lv_aload_n hx hb dX12_comes_316 rfl (lv_at hl 3 rfl) ?_
      refine m_geti G X 8 rfl (hwd _ mk_80) rfl dX12_comes_317 ?_
      refine gn_icmp_ge (tgt := 355) hx hb dX12_comes_320 (by decide) (by omega) (by omega) (fun c_320 => ?_) (fun c_320 => ?_)
      ·
        refine lv_iconst (v := nI 0) hx hb dX12_comes_355 (by decide) ?_
        exact fin_of (mw_eq (zcoT_n (fun h9 => by have h8 := (zcoA_109 e_28).mp h9; omega)).symm) (zb_f (fun h9 => by have h8 := (zcoA_109 e_28).mp h9; omega)) X dX12_comes_356 fin
      ·
        refine lv_iload hx hb dX12_comes_323 (lv_at hl 0 rfl) ?_
        refine lv_bipush (v := nI 100) hx hb dX12_comes_325 (by decide) ?_
        refine gn_icmp_gt (tgt := 355) hx hb dX12_comes_327 (by decide) (by omega) (by omega) (fun c_327 => ?_) (fun c_327 => ?_)
        ·
          refine lv_iconst (v := nI 0) hx hb dX12_comes_355 (by decide) ?_
          exact fin_of (mw_eq (zcoT_n (fun h9 => by have h8 := (zcoA_109 e_28).mp h9; omega)).symm) (zb_f (fun h9 => by have h8 := (zcoA_109 e_28).mp h9; omega)) X dX12_comes_356 fin
        ·
          refine lv_aload_n hx hb dX12_comes_330 rfl (lv_at hl 3 rfl) ?_
          refine lv_iload_n hx hb dX12_comes_331 rfl (lv_at hl 2 rfl) ?_
          refine ctI_V (wf := []) (As := [.int (nI (σ.2 23 i))]) (rest := []) (n := 1) hx hb hml hown hts hK hA (ap_nil X) hl.1 (m_recv G X) (c_metTogether hcl ht0 ht1 (σ := σ) (σ.2 23 i) (hok) (by omega)) (cwV 1 hts (mg_V mk_75 mk_82 mk_83 mk_84 mk_43) rfl rfl rfl (by decide +kernel) ⟨Nat.le_of_ble_eq_true rfl, Nat.le_of_ble_eq_true rfl⟩) rfl (Nat.le_of_ble_eq_true rfl) dX12_comes_332 ⟨Nat.le_refl _, Nat.le_refl _⟩ (fun H locs X => ?_)
          replace X := ap_nil' X
          refine lv_aload_n hx hb dX12_comes_335 rfl (lv_at hl 3 rfl) ?_
          refine m_geta G X 11 rfl (hwd _ mk_12) rfl dX12_comes_336 ?_
          refine lv_bipush (v := nI 6) hx hb dX12_comes_339 (by decide) ?_
          refine lv_iload_n hx hb dX12_comes_341 rfl (lv_at hl 2 rfl) ?_
          refine gn_imul hx hb dX12_comes_342  ?_
          refine lv_iload_n hx hb dX12_comes_343 rfl (lv_at hl 1 rfl) ?_
          refine gn_iadd hx hb dX12_comes_344  ?_
          refine m_iald G X 11 rfl (i := ((6 * (σ.2 23 i)) + (σ.2 24 i))) (by show _ < 48; omega) (by omega) dX12_comes_345 ?_
          have hm1 := hmt9 (σ.2 23 i) (by omega)
          have hm3 := zsum_put (f := fun s => σ.2 11 (6 * σ.2 23 i + s)) (b := σ.2 24 i) (v := 0) (n := 6) (by omega)
          have hm2 : σ.2 11 (6 * σ.2 23 i + σ.2 24 i) ≤ zsum (fun s => σ.2 11 (6 * σ.2 23 i + s)) 6 := by have h8 : zsum (fun s => if s = σ.2 24 i then 0 else σ.2 11 (6 * σ.2 23 i + s)) 6 + σ.2 11 (6 * σ.2 23 i + σ.2 24 i) = zsum (fun s => σ.2 11 (6 * σ.2 23 i + s)) 6 + 0 := hm3; omega
          refine gn_isub hx hb dX12_comes_346 (by omega) ?_
          refine lv_iload hx hb dX12_comes_347 (lv_at hl 0 rfl) ?_
          refine gn_iadd hx hb dX12_comes_349  ?_
          refine lv_bipush (v := nI 100) hx hb dX12_comes_350 (by decide) ?_
          refine gn_icmp_le (tgt := 357) hx hb dX12_comes_352 (by decide) (by omega) (by omega) (fun c_352 => ?_) (fun c_352 => ?_)
          ·
            refine lv_aload_n hx hb dX12_comes_357 rfl (lv_at hl 3 rfl) ?_
            refine m_geta G X 11 rfl (hwd _ mk_12) rfl dX12_comes_358 ?_
            refine lv_bipush (v := nI 6) hx hb dX12_comes_361 (by decide) ?_
            refine lv_iload_n hx hb dX12_comes_363 rfl (lv_at hl 2 rfl) ?_
            refine gn_imul hx hb dX12_comes_364  ?_
            refine lv_iload_n hx hb dX12_comes_365 rfl (lv_at hl 1 rfl) ?_
            refine gn_iadd hx hb dX12_comes_366  ?_
            refine lv_iload hx hb dX12_comes_367 (lv_at hl 0 rfl) ?_
            refine m_iast G X 11 rfl (i := ((6 * (σ.2 23 i)) + (σ.2 24 i))) (v := (σ.2 25 i)) (by show _ < 48; omega) (by omega) dX12_comes_369 (fun H locs X => ?_)
            refine lv_iconst (v := nI 1) hx hb dX12_comes_370 (by decide) ?_
            exact fin_of (mw_eq (zcoT_109 e_28 ((zcoA_109 e_28).mpr ⟨by omega, by omega, by omega, by omega⟩)).symm) (zb_t ((zcoA_109 e_28).mpr ⟨by omega, by omega, by omega, by omega⟩)) X dX12_comes_371 fin
          ·
            refine lv_iconst (v := nI 0) hx hb dX12_comes_355 (by decide) ?_
            exact fin_of (mw_eq (zcoT_n (fun h9 => by have h8 := (zcoA_109 e_28).mp h9; omega)).symm) (zb_f (fun h9 => by have h8 := (zcoA_109 e_28).mp h9; omega)) X dX12_comes_356 fin
  ·
    refine gi_eq (a := 98) e_28 ?_
    refine lv_lookup (tgt := 372) (off := 344) hx hb dX12_comes_28 (by decide) (by decide +kernel) (by decide) ?_
    refine lv_aload_n hx hb dX12_comes_372 rfl (lv_at hl 3 rfl) ?_
    refine lv_iload_n hx hb dX12_comes_373 rfl (lv_at hl 2 rfl) ?_
    refine lv_bipush (v := nI 7) hx hb dX12_comes_374 (by decide) ?_
    refine gn_icmp_le (tgt := 386) hx hb dX12_comes_376 (by decide) (by omega) (by omega) (fun c_376 => ?_) (fun c_376 => ?_)
    ·
      refine lv_iload_n hx hb dX12_comes_386 rfl (lv_at hl 2 rfl) ?_
      refine m_puti G X 12 rfl (hwd _ mk_81) rfl (ty := .int) (by decide +kernel) rfl rfl dX12_comes_387 (fun H locs X => ?_)
      refine lv_iload_n hx hb dX12_comes_390 rfl (lv_at hl 2 rfl) ?_
      refine lv_bipush (v := nI 7) hx hb dX12_comes_391 (by decide) ?_
      refine gn_icmp_gt (tgt := 400) hx hb dX12_comes_393 (by decide) (by omega) (by omega) (fun c_393 => ?_) (fun c_393 => ?_)
      ·
        refine lv_iconst (v := nI 0) hx hb dX12_comes_400 (by decide) ?_
        exact fin_of (mw_eq (by first | exact (zcoT_98 e_28 ((zcoA_98 e_28).mpr (by omega))).symm | exact (sF_self σ 12).trans (zcoT_n (fun h9 => by have h8 := (zcoA_98 e_28).mp h9; omega)).symm)) (by first | exact zb_t ((zcoA_98 e_28).mpr (by omega)) | exact zb_f (fun h9 => by have h8 := (zcoA_98 e_28).mp h9; omega)) X dX12_comes_401 fin
      ·
        refine lv_iconst (v := nI 1) hx hb dX12_comes_396 (by decide) ?_
        refine lv_goto (tgt := 401) hx hb dX12_comes_397 (by decide) ?_
        exact fin_of (mw_eq (by first | exact (zcoT_98 e_28 ((zcoA_98 e_28).mpr (by omega))).symm | exact (sF_self σ 12).trans (zcoT_n (fun h9 => by have h8 := (zcoA_98 e_28).mp h9; omega)).symm)) (by first | exact zb_t ((zcoA_98 e_28).mpr (by omega)) | exact zb_f (fun h9 => by have h8 := (zcoA_98 e_28).mp h9; omega)) X dX12_comes_401 fin
    ·
      refine lv_aload_n hx hb dX12_comes_379 rfl (lv_at hl 3 rfl) ?_
      refine m_geti G X 12 rfl (hwd _ mk_81) rfl dX12_comes_380 ?_
      refine lv_goto (tgt := 387) hx hb dX12_comes_383 (by decide) ?_
      refine m_puti G X 12 rfl (hwd _ mk_81) rfl (ty := .int) (by decide +kernel) rfl rfl dX12_comes_387 (fun H locs X => ?_)
      refine lv_iload_n hx hb dX12_comes_390 rfl (lv_at hl 2 rfl) ?_
      refine lv_bipush (v := nI 7) hx hb dX12_comes_391 (by decide) ?_
      refine gn_icmp_gt (tgt := 400) hx hb dX12_comes_393 (by decide) (by omega) (by omega) (fun c_393 => ?_) (fun c_393 => ?_)
      ·
        refine lv_iconst (v := nI 0) hx hb dX12_comes_400 (by decide) ?_
        exact fin_of (mw_eq (by first | exact (zcoT_98 e_28 ((zcoA_98 e_28).mpr (by omega))).symm | exact (sF_self σ 12).trans (zcoT_n (fun h9 => by have h8 := (zcoA_98 e_28).mp h9; omega)).symm)) (by first | exact zb_t ((zcoA_98 e_28).mpr (by omega)) | exact zb_f (fun h9 => by have h8 := (zcoA_98 e_28).mp h9; omega)) X dX12_comes_401 fin
      ·
        refine lv_iconst (v := nI 1) hx hb dX12_comes_396 (by decide) ?_
        refine lv_goto (tgt := 401) hx hb dX12_comes_397 (by decide) ?_
        exact fin_of (mw_eq (by first | exact (zcoT_98 e_28 ((zcoA_98 e_28).mpr (by omega))).symm | exact (sF_self σ 12).trans (zcoT_n (fun h9 => by have h8 := (zcoA_98 e_28).mp h9; omega)).symm)) (by first | exact zb_t ((zcoA_98 e_28).mpr (by omega)) | exact zb_f (fun h9 => by have h8 := (zcoA_98 e_28).mp h9; omega)) X dX12_comes_401 fin
  ·
    refine gi_eq (a := 97) e_28 ?_
    refine lv_lookup (tgt := 402) (off := 374) hx hb dX12_comes_28 (by decide) (by decide +kernel) (by decide) ?_
    refine lv_aload_n hx hb dX12_comes_402 rfl (lv_at hl 3 rfl) ?_
    refine lv_iload_n hx hb dX12_comes_403 rfl (lv_at hl 2 rfl) ?_
    refine lv_bipush (v := nI 30) hx hb dX12_comes_404 (by decide) ?_
    refine gn_icmp_le (tgt := 416) hx hb dX12_comes_406 (by decide) (by omega) (by omega) (fun c_406 => ?_) (fun c_406 => ?_)
    ·
      refine lv_iload_n hx hb dX12_comes_416 rfl (lv_at hl 2 rfl) ?_
      refine m_puti G X 13 rfl (hwd _ mk_13) rfl (ty := .int) (by decide +kernel) rfl rfl dX12_comes_417 (fun H locs X => ?_)
      refine lv_iload_n hx hb dX12_comes_420 rfl (lv_at hl 2 rfl) ?_
      refine lv_bipush (v := nI 30) hx hb dX12_comes_421 (by decide) ?_
      refine gn_icmp_gt (tgt := 430) hx hb dX12_comes_423 (by decide) (by omega) (by omega) (fun c_423 => ?_) (fun c_423 => ?_)
      ·
        refine lv_iconst (v := nI 0) hx hb dX12_comes_430 (by decide) ?_
        exact fin_of (mw_eq (by first | exact (zcoT_97 e_28 ((zcoA_97 e_28).mpr (by omega))).symm | exact (sF_self σ 13).trans (zcoT_n (fun h9 => by have h8 := (zcoA_97 e_28).mp h9; omega)).symm)) (by first | exact zb_t ((zcoA_97 e_28).mpr (by omega)) | exact zb_f (fun h9 => by have h8 := (zcoA_97 e_28).mp h9; omega)) X dX12_comes_431 fin
      ·
        refine lv_iconst (v := nI 1) hx hb dX12_comes_426 (by decide) ?_
        refine lv_goto (tgt := 431) hx hb dX12_comes_427 (by decide) ?_
        exact fin_of (mw_eq (by first | exact (zcoT_97 e_28 ((zcoA_97 e_28).mpr (by omega))).symm | exact (sF_self σ 13).trans (zcoT_n (fun h9 => by have h8 := (zcoA_97 e_28).mp h9; omega)).symm)) (by first | exact zb_t ((zcoA_97 e_28).mpr (by omega)) | exact zb_f (fun h9 => by have h8 := (zcoA_97 e_28).mp h9; omega)) X dX12_comes_431 fin
    ·
      refine lv_aload_n hx hb dX12_comes_409 rfl (lv_at hl 3 rfl) ?_
      refine m_geti G X 13 rfl (hwd _ mk_13) rfl dX12_comes_410 ?_
      refine lv_goto (tgt := 417) hx hb dX12_comes_413 (by decide) ?_
      refine m_puti G X 13 rfl (hwd _ mk_13) rfl (ty := .int) (by decide +kernel) rfl rfl dX12_comes_417 (fun H locs X => ?_)
      refine lv_iload_n hx hb dX12_comes_420 rfl (lv_at hl 2 rfl) ?_
      refine lv_bipush (v := nI 30) hx hb dX12_comes_421 (by decide) ?_
      refine gn_icmp_gt (tgt := 430) hx hb dX12_comes_423 (by decide) (by omega) (by omega) (fun c_423 => ?_) (fun c_423 => ?_)
      ·
        refine lv_iconst (v := nI 0) hx hb dX12_comes_430 (by decide) ?_
        exact fin_of (mw_eq (by first | exact (zcoT_97 e_28 ((zcoA_97 e_28).mpr (by omega))).symm | exact (sF_self σ 13).trans (zcoT_n (fun h9 => by have h8 := (zcoA_97 e_28).mp h9; omega)).symm)) (by first | exact zb_t ((zcoA_97 e_28).mpr (by omega)) | exact zb_f (fun h9 => by have h8 := (zcoA_97 e_28).mp h9; omega)) X dX12_comes_431 fin
      ·
        refine lv_iconst (v := nI 1) hx hb dX12_comes_426 (by decide) ?_
        refine lv_goto (tgt := 431) hx hb dX12_comes_427 (by decide) ?_
        exact fin_of (mw_eq (by first | exact (zcoT_97 e_28 ((zcoA_97 e_28).mpr (by omega))).symm | exact (sF_self σ 13).trans (zcoT_n (fun h9 => by have h8 := (zcoA_97 e_28).mp h9; omega)).symm)) (by first | exact zb_t ((zcoA_97 e_28).mpr (by omega)) | exact zb_f (fun h9 => by have h8 := (zcoA_97 e_28).mp h9; omega)) X dX12_comes_431 fin
