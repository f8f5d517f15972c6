set_option maxHeartbeats 4000000 in
set_option maxRecDepth 100000 in
theorem c_copy {l : Launch} {D : va_G} {cl : List vw_C} {tys : List (ClassId × FieldType)} {o : Nat} {q : Nat → Nat} {ci : Nat} {cI cJ : ClassId} (hcl : cl[ci]? = some (RX12, TX12, 48)) (ht0 : tys[0]? = some (cI, .int)) (ht1 : tys[1]? = some (cJ, .long)) {σ : MS} {σ0 : MS} (h15 : σ = sF σ0 15 0) (d : Int32) (i : Int32) (e9 : Int32) (j : Int32) (n : Int32) (hok : mOk σ) (hsh : mSh σ) : ctIP l D cl tys yX12_copy (Cond.code yX12_copy cX12_copy 7 (some .int) :: mW) { frames := 1, cells := 0, slots := 0, locals := 25 } [.ref o, .int d, .int i, .int e9, .int j, .int n] (mw o q ci cI cJ σ0) (mw o q ci cI cJ) (zcopyS σ d i e9 j n) (fun u => mEq (zcopyT σ d i e9 j n) u) := by
  refine ctIP_of (cc := cX12_copy) (maxL := 7) (by decide +kernel) rfl (Nat.le_of_ble_eq_true rfl) ?_
  intro p e s m args below meth c A Q ls hx hb hml hown hts hK hA X hl fin
  replace hown : s.vm.findClass RX12 = some m.cls := hown
  have hwd : ∀ w ∈ mW, w.before args s = true := fun w h => hts w (List.mem_cons_of_mem _ h)
  have G : mG p c cX12_copy s m args D cl tys ci cI cJ := ⟨hx, hb, hown, hwd, hK, hcl, ht0, ht1⟩
  replace hl : lv_has ls 7 [(0, .ref o), (1, .int d), (2, .int i), (3, .int e9), (4, .int j), (5, .int n)] := hl
  obtain ⟨kr, kw, ks, kroad, kworld, ksort, kmet, ksum, kst, kco⟩ := id hok
  obtain ⟨hh, hru, hro, htb, hW, hp28, hth⟩ := id hsh
  have hp : σ.1 28 < 8 ∨ σ.1 28 = 4294967295 := Or.inr hp28
  refine lv_aload_n hx hb dX12_copy_0 rfl (lv_at hl 0 rfl) ?_
  refine lv_iconst (v := nI 0) hx hb dX12_copy_1 (by decide) ?_
  refine m_puti G X 15 rfl (hwd _ mk_35) rfl (ty := .int) (by decide +kernel) rfl rfl dX12_copy_2 (fun H locs X => ?_)
  rw [← h15] at X
  refine lv_iload_n hx hb dX12_copy_5 rfl (lv_at hl 1 rfl) ?_
  refine lv_i2l (v := d.toInt64) hx hb dX12_copy_6 rfl ?_
  refine lv_lconst (v := lN 0) hx hb dX12_copy_7 (by decide) ?_
  refine gn_ldc2 (v := 7) (k := 7) hx hb hown (hwd _ mk_40) (by decide) dX12_copy_8 ?_
  refine ctI_S (w := []) (wf := mw o q ci cI cJ σ) (As := [.long d.toInt64, .long (lN 0), .long (lN 7)]) (rest := []) (n := 3) hx hb hml hown hts hK hA X hl.1 (c_in d.toInt64 (lN 0) (lN 7) ) (va_cwS 3 hts (mg_S mk_38 mk_41 mk_42 mk_43) rfl rfl rfl (by decide +kernel) ⟨Nat.le_of_ble_eq_true rfl, Nat.le_of_ble_eq_true rfl⟩) rfl (Nat.le_of_ble_eq_true rfl) dX12_copy_11 ⟨Nat.le_refl _, Nat.le_refl _⟩ (fun H locs X => ?_)
  refine gb_if_eq (tgt := 29) hx hb dX12_copy_14 (by decide) (fun c_14 => ?_) (fun c_14 => ?_)
  ·
    rw [zi8] at c_14
    refine lv_iconst (v := (-1)) hx hb dX12_copy_29 (by decide) ?_
    exact finIP_of (by unfold zcopyS; first | (rw [if_pos (fun h9 => c_14 h9.1)]) | (rw [if_pos (fun h9 => c_26 h9.2)])) (u := σ) (by unfold zcopyT; first | (rw [if_pos (fun h9 => c_14 h9.1)]; exact mEq_refl hW) | (rw [if_pos (fun h9 => c_26 h9.2)]; exact mEq_refl hW)) X dX12_copy_30 fin
  ·
    rw [zi8] at c_14
    obtain ⟨xd, hxd, rfl⟩ := zi_in (n := 8) (by decide) c_14
    refine lv_iload_n hx hb dX12_copy_17 rfl (lv_at hl 3 rfl) ?_
    refine lv_i2l (v := e9.toInt64) hx hb dX12_copy_18 rfl ?_
    refine lv_lconst (v := lN 0) hx hb dX12_copy_19 (by decide) ?_
    refine gn_ldc2 (v := 7) (k := 7) hx hb hown (hwd _ mk_40) (by decide) dX12_copy_20 ?_
    refine ctI_S (w := []) (wf := mw o q ci cI cJ σ) (As := [.long e9.toInt64, .long (lN 0), .long (lN 7)]) (rest := []) (n := 3) hx hb hml hown hts hK hA X hl.1 (c_in e9.toInt64 (lN 0) (lN 7) ) (va_cwS 3 hts (mg_S mk_38 mk_41 mk_42 mk_43) rfl rfl rfl (by decide +kernel) ⟨Nat.le_of_ble_eq_true rfl, Nat.le_of_ble_eq_true rfl⟩) rfl (Nat.le_of_ble_eq_true rfl) dX12_copy_23 ⟨Nat.le_refl _, Nat.le_refl _⟩ (fun H locs X => ?_)
    refine gb_if_ne (tgt := 31) hx hb dX12_copy_26 (by decide) (fun c_26 => ?_) (fun c_26 => ?_)
    ·
      rw [zi8] at c_26
      obtain ⟨xe, hxe, rfl⟩ := zi_in (n := 8) (by decide) c_26
      have hhd := hh xd hxd
      have hhe := hh xe hxe
      refine lv_aload_n hx hb dX12_copy_31 rfl (lv_at hl 0 rfl) ?_
      refine m_geta G X 41 rfl (hwd _ mk_28) rfl dX12_copy_32 ?_
      refine lv_iload_n hx hb dX12_copy_35 rfl (lv_at hl 1 rfl) ?_
      refine m_iald G X 41 rfl (i := xd) (by show _ < 8; omega) (by omega) dX12_copy_36 ?_
      refine gn_if_eq (tgt := 49) hx hb dX12_copy_37 (by decide) (by omega) (fun c_37 => ?_) (fun c_37 => ?_)
      ·
        refine lv_bipush (v := (-11)) hx hb dX12_copy_49 (by decide) ?_
        exact finIP_of (by unfold zcopyS; rw [if_neg (fun h9 => h9 ⟨c_14, c_26⟩), if_pos (by first | (left; rw [ztoNat (show xd < 2147483648 by omega)]; exact c_37) | (right; rw [ztoNat (show xe < 2147483648 by omega)]; exact c_46))]) (u := σ) (by unfold zcopyT; rw [if_neg (fun h9 => h9 ⟨c_14, c_26⟩), if_pos (by first | (left; rw [ztoNat (show xd < 2147483648 by omega)]; exact c_37) | (right; rw [ztoNat (show xe < 2147483648 by omega)]; exact c_46))]; exact mEq_refl hW) X dX12_copy_51 fin
      ·
        refine lv_aload_n hx hb dX12_copy_40 rfl (lv_at hl 0 rfl) ?_
        refine m_geta G X 41 rfl (hwd _ mk_28) rfl dX12_copy_41 ?_
        refine lv_iload_n hx hb dX12_copy_44 rfl (lv_at hl 3 rfl) ?_
        refine m_iald G X 41 rfl (i := xe) (by show _ < 8; omega) (by omega) dX12_copy_45 ?_
        refine gn_if_ne (tgt := 52) hx hb dX12_copy_46 (by decide) (by omega) (fun c_46 => ?_) (fun c_46 => ?_)
        ·
          refine lv_aload_n hx hb dX12_copy_52 rfl (lv_at hl 0 rfl) ?_
          refine m_geta G X 41 rfl (hwd _ mk_28) rfl dX12_copy_53 ?_
          refine lv_iload_n hx hb dX12_copy_56 rfl (lv_at hl 1 rfl) ?_
          refine m_iald G X 41 rfl (i := xd) (by show _ < 8; omega) (by omega) dX12_copy_57 ?_
          refine lv_iconst (v := nI 2) hx hb dX12_copy_58 (by decide) ?_
          refine gn_icmp_ne (tgt := 87) hx hb dX12_copy_59 (by decide) (by omega) (by omega) (fun c_59 => ?_) (fun c_59 => ?_)
          ·
            refine lv_bipush (v := (-12)) hx hb dX12_copy_87 (by decide) ?_
            exact finIP_of (by unfold zcopyS; rw [if_neg (fun h9 => h9 ⟨c_14, c_26⟩), if_neg (fun h9 => by rcases h9 with h9 | h9; rw [ztoNat (show xd < 2147483648 by omega)] at h9; omega; rw [ztoNat (show xe < 2147483648 by omega)] at h9; omega), if_pos (fun h9 => by have h1 := h9.1; have h2 := h9.2.1; have h3 := h9.2.2; rw [ztoNat (show xd < 2147483648 by omega)] at h1 h3; rw [ztoNat (show xe < 2147483648 by omega)] at h2 h3; first | exact c_59 h1 | exact c_69 h2 | exact c_84 h3)]) (u := σ) (by unfold zcopyT; rw [if_neg (fun h9 => h9 ⟨c_14, c_26⟩), if_neg (fun h9 => by rcases h9 with h9 | h9; rw [ztoNat (show xd < 2147483648 by omega)] at h9; omega; rw [ztoNat (show xe < 2147483648 by omega)] at h9; omega), if_pos (fun h9 => by have h1 := h9.1; have h2 := h9.2.1; have h3 := h9.2.2; rw [ztoNat (show xd < 2147483648 by omega)] at h1 h3; rw [ztoNat (show xe < 2147483648 by omega)] at h2 h3; first | exact c_59 h1 | exact c_69 h2 | exact c_84 h3)]; exact mEq_refl hW) X dX12_copy_89 fin
          ·
            refine lv_aload_n hx hb dX12_copy_62 rfl (lv_at hl 0 rfl) ?_
            refine m_geta G X 41 rfl (hwd _ mk_28) rfl dX12_copy_63 ?_
            refine lv_iload_n hx hb dX12_copy_66 rfl (lv_at hl 3 rfl) ?_
            refine m_iald G X 41 rfl (i := xe) (by show _ < 8; omega) (by omega) dX12_copy_67 ?_
            refine lv_iconst (v := nI 2) hx hb dX12_copy_68 (by decide) ?_
            refine gn_icmp_ne (tgt := 87) hx hb dX12_copy_69 (by decide) (by omega) (by omega) (fun c_69 => ?_) (fun c_69 => ?_)
            ·
              refine lv_bipush (v := (-12)) hx hb dX12_copy_87 (by decide) ?_
              exact finIP_of (by unfold zcopyS; rw [if_neg (fun h9 => h9 ⟨c_14, c_26⟩), if_neg (fun h9 => by rcases h9 with h9 | h9; rw [ztoNat (show xd < 2147483648 by omega)] at h9; omega; rw [ztoNat (show xe < 2147483648 by omega)] at h9; omega), if_pos (fun h9 => by have h1 := h9.1; have h2 := h9.2.1; have h3 := h9.2.2; rw [ztoNat (show xd < 2147483648 by omega)] at h1 h3; rw [ztoNat (show xe < 2147483648 by omega)] at h2 h3; first | exact c_59 h1 | exact c_69 h2 | exact c_84 h3)]) (u := σ) (by unfold zcopyT; rw [if_neg (fun h9 => h9 ⟨c_14, c_26⟩), if_neg (fun h9 => by rcases h9 with h9 | h9; rw [ztoNat (show xd < 2147483648 by omega)] at h9; omega; rw [ztoNat (show xe < 2147483648 by omega)] at h9; omega), if_pos (fun h9 => by have h1 := h9.1; have h2 := h9.2.1; have h3 := h9.2.2; rw [ztoNat (show xd < 2147483648 by omega)] at h1 h3; rw [ztoNat (show xe < 2147483648 by omega)] at h2 h3; first | exact c_59 h1 | exact c_69 h2 | exact c_84 h3)]; exact mEq_refl hW) X dX12_copy_89 fin
            ·
              obtain ⟨hs3, hm100⟩ := hro xd hxd c_59
              obtain ⟨hs4, hm101⟩ := hro xe hxe c_69
              refine lv_aload_n hx hb dX12_copy_72 rfl (lv_at hl 0 rfl) ?_
              refine m_geta G X 44 rfl (hwd _ mk_31) rfl dX12_copy_73 ?_
              refine lv_iload_n hx hb dX12_copy_76 rfl (lv_at hl 1 rfl) ?_
              refine m_iald G X 44 rfl (i := xd) (by show _ < 8; omega) (by omega) dX12_copy_77 ?_
              refine lv_aload_n hx hb dX12_copy_78 rfl (lv_at hl 0 rfl) ?_
              refine m_geta G X 44 rfl (hwd _ mk_31) rfl dX12_copy_79 ?_
              refine lv_iload_n hx hb dX12_copy_82 rfl (lv_at hl 3 rfl) ?_
              refine m_iald G X 44 rfl (i := xe) (by show _ < 8; omega) (by omega) dX12_copy_83 ?_
              refine gn_icmp_eq (tgt := 90) hx hb dX12_copy_84 (by decide) (by omega) (by omega) (fun c_84 => ?_) (fun c_84 => ?_)
              ·
                refine lv_iload hx hb dX12_copy_90 (lv_at hl 5 rfl) ?_
                refine lv_if_lt (tgt := 131) hx hb dX12_copy_92 (by decide) (fun c_92 => ?_) (fun c_92 => ?_)
                ·
                  refine lv_bipush (v := (-13)) hx hb dX12_copy_131 (by decide) ?_
                  exact finIP_of (by unfold zcopyS; rw [if_neg (fun h9 => h9 ⟨c_14, c_26⟩), if_neg (fun h9 => by rcases h9 with h9 | h9; rw [ztoNat (show xd < 2147483648 by omega)] at h9; omega; rw [ztoNat (show xe < 2147483648 by omega)] at h9; omega), if_neg (fun h9 => h9 ⟨by rw [ztoNat (show xd < 2147483648 by omega)]; exact c_59, by rw [ztoNat (show xe < 2147483648 by omega)]; exact c_69, by rw [ztoNat (show xd < 2147483648 by omega), ztoNat (show xe < 2147483648 by omega)]; exact c_84⟩), if_pos (fun h9 => absurd h9.1 (by rw [z32_lt, show (0 : Int32).toInt = 0 from by decide] at c_92; omega))]) (u := σ) (by unfold zcopyT; rw [if_neg (fun h9 => h9 ⟨c_14, c_26⟩), if_neg (fun h9 => by rcases h9 with h9 | h9; rw [ztoNat (show xd < 2147483648 by omega)] at h9; omega; rw [ztoNat (show xe < 2147483648 by omega)] at h9; omega), if_neg (fun h9 => h9 ⟨by rw [ztoNat (show xd < 2147483648 by omega)]; exact c_59, by rw [ztoNat (show xe < 2147483648 by omega)]; exact c_69, by rw [ztoNat (show xd < 2147483648 by omega), ztoNat (show xe < 2147483648 by omega)]; exact c_84⟩), if_pos (fun h9 => absurd h9.1 (by rw [z32_lt, show (0 : Int32).toInt = 0 from by decide] at c_92; omega))]; exact mEq_refl hW) X dX12_copy_133 fin
                ·
                  obtain ⟨xn, hxn, rfl⟩ := nI_of (x := n) c_92
                  refine lv_iload_n hx hb dX12_copy_95 rfl (lv_at hl 2 rfl) ?_
                  refine lv_if_lt (tgt := 131) hx hb dX12_copy_96 (by decide) (fun c_96 => ?_) (fun c_96 => ?_)
                  ·
                    refine lv_bipush (v := (-13)) hx hb dX12_copy_131 (by decide) ?_
                    exact finIP_of (by unfold zcopyS; rw [if_neg (fun h9 => h9 ⟨c_14, c_26⟩), if_neg (fun h9 => by rcases h9 with h9 | h9; rw [ztoNat (show xd < 2147483648 by omega)] at h9; omega; rw [ztoNat (show xe < 2147483648 by omega)] at h9; omega), if_neg (fun h9 => h9 ⟨by rw [ztoNat (show xd < 2147483648 by omega)]; exact c_59, by rw [ztoNat (show xe < 2147483648 by omega)]; exact c_69, by rw [ztoNat (show xd < 2147483648 by omega), ztoNat (show xe < 2147483648 by omega)]; exact c_84⟩), if_pos (fun h9 => absurd h9.2.1 (by rw [z32_lt, show (0 : Int32).toInt = 0 from by decide] at c_96; omega))]) (u := σ) (by unfold zcopyT; rw [if_neg (fun h9 => h9 ⟨c_14, c_26⟩), if_neg (fun h9 => by rcases h9 with h9 | h9; rw [ztoNat (show xd < 2147483648 by omega)] at h9; omega; rw [ztoNat (show xe < 2147483648 by omega)] at h9; omega), if_neg (fun h9 => h9 ⟨by rw [ztoNat (show xd < 2147483648 by omega)]; exact c_59, by rw [ztoNat (show xe < 2147483648 by omega)]; exact c_69, by rw [ztoNat (show xd < 2147483648 by omega), ztoNat (show xe < 2147483648 by omega)]; exact c_84⟩), if_pos (fun h9 => absurd h9.2.1 (by rw [z32_lt, show (0 : Int32).toInt = 0 from by decide] at c_96; omega))]; exact mEq_refl hW) X dX12_copy_133 fin
                  ·
                    obtain ⟨xi, hxi, rfl⟩ := nI_of (x := i) c_96
                    refine lv_iload hx hb dX12_copy_99 (lv_at hl 4 rfl) ?_
                    refine lv_if_lt (tgt := 131) hx hb dX12_copy_101 (by decide) (fun c_101 => ?_) (fun c_101 => ?_)
                    ·
                      refine lv_bipush (v := (-13)) hx hb dX12_copy_131 (by decide) ?_
                      exact finIP_of (by unfold zcopyS; rw [if_neg (fun h9 => h9 ⟨c_14, c_26⟩), if_neg (fun h9 => by rcases h9 with h9 | h9; rw [ztoNat (show xd < 2147483648 by omega)] at h9; omega; rw [ztoNat (show xe < 2147483648 by omega)] at h9; omega), if_neg (fun h9 => h9 ⟨by rw [ztoNat (show xd < 2147483648 by omega)]; exact c_59, by rw [ztoNat (show xe < 2147483648 by omega)]; exact c_69, by rw [ztoNat (show xd < 2147483648 by omega), ztoNat (show xe < 2147483648 by omega)]; exact c_84⟩), if_pos (fun h9 => absurd h9.2.2.1 (by rw [z32_lt, show (0 : Int32).toInt = 0 from by decide] at c_101; omega))]) (u := σ) (by unfold zcopyT; rw [if_neg (fun h9 => h9 ⟨c_14, c_26⟩), if_neg (fun h9 => by rcases h9 with h9 | h9; rw [ztoNat (show xd < 2147483648 by omega)] at h9; omega; rw [ztoNat (show xe < 2147483648 by omega)] at h9; omega), if_neg (fun h9 => h9 ⟨by rw [ztoNat (show xd < 2147483648 by omega)]; exact c_59, by rw [ztoNat (show xe < 2147483648 by omega)]; exact c_69, by rw [ztoNat (show xd < 2147483648 by omega), ztoNat (show xe < 2147483648 by omega)]; exact c_84⟩), if_pos (fun h9 => absurd h9.2.2.1 (by rw [z32_lt, show (0 : Int32).toInt = 0 from by decide] at c_101; omega))]; exact mEq_refl hW) X dX12_copy_133 fin
                    ·
                      obtain ⟨xj, hxj, rfl⟩ := nI_of (x := j) c_101
                      refine lv_iload_n hx hb dX12_copy_104 rfl (lv_at hl 2 rfl) ?_
                      refine lv_aload_n hx hb dX12_copy_105 rfl (lv_at hl 0 rfl) ?_
                      refine m_geta G X 45 rfl (hwd _ mk_32) rfl dX12_copy_106 ?_
                      refine lv_iload_n hx hb dX12_copy_109 rfl (lv_at hl 1 rfl) ?_
                      refine m_iald G X 45 rfl (i := xd) (by show _ < 8; omega) (by omega) dX12_copy_110 ?_
                      refine lv_iload hx hb dX12_copy_111 (lv_at hl 5 rfl) ?_
                      refine lv_isub hx hb dX12_copy_113 ?_
                      refine lv_icmp_gt (tgt := 131) hx hb dX12_copy_114 (by decide) (fun c_114 => ?_) (fun c_114 => ?_)
                      ·
                        refine lv_bipush (v := (-13)) hx hb dX12_copy_131 (by decide) ?_
                        exact finIP_of (by unfold zcopyS; rw [if_neg (fun h9 => h9 ⟨c_14, c_26⟩), if_neg (fun h9 => by rcases h9 with h9 | h9; rw [ztoNat (show xd < 2147483648 by omega)] at h9; omega; rw [ztoNat (show xe < 2147483648 by omega)] at h9; omega), if_neg (fun h9 => h9 ⟨by rw [ztoNat (show xd < 2147483648 by omega)]; exact c_59, by rw [ztoNat (show xe < 2147483648 by omega)]; exact c_69, by rw [ztoNat (show xd < 2147483648 by omega), ztoNat (show xe < 2147483648 by omega)]; exact c_84⟩), if_pos (fun h9 => by have h1 := h9.2.2.2.1; have h2 := h9.2.2.2.2; rw [ztoNat (show xd < 2147483648 by omega), zi_of (by omega), zi_of (by omega)] at h1; rw [ztoNat (show xe < 2147483648 by omega), zi_of (by omega), zi_of (by omega)] at h2; first | (rw [z32_lt, zsub_toInt (by omega) (by omega), zi_of (by omega)] at c_114; omega) | (rw [z32_le, zsub_toInt (by omega) (by omega), zi_of (by omega)] at c_128; omega))]) (u := σ) (by unfold zcopyT; rw [if_neg (fun h9 => h9 ⟨c_14, c_26⟩), if_neg (fun h9 => by rcases h9 with h9 | h9; rw [ztoNat (show xd < 2147483648 by omega)] at h9; omega; rw [ztoNat (show xe < 2147483648 by omega)] at h9; omega), if_neg (fun h9 => h9 ⟨by rw [ztoNat (show xd < 2147483648 by omega)]; exact c_59, by rw [ztoNat (show xe < 2147483648 by omega)]; exact c_69, by rw [ztoNat (show xd < 2147483648 by omega), ztoNat (show xe < 2147483648 by omega)]; exact c_84⟩), if_pos (fun h9 => by have h1 := h9.2.2.2.1; have h2 := h9.2.2.2.2; rw [ztoNat (show xd < 2147483648 by omega), zi_of (by omega), zi_of (by omega)] at h1; rw [ztoNat (show xe < 2147483648 by omega), zi_of (by omega), zi_of (by omega)] at h2; first | (rw [z32_lt, zsub_toInt (by omega) (by omega), zi_of (by omega)] at c_114; omega) | (rw [z32_le, zsub_toInt (by omega) (by omega), zi_of (by omega)] at c_128; omega))]; exact mEq_refl hW) X dX12_copy_133 fin
                      ·
                        have hle1 : xi + xn ≤ σ.2 45 xd := by rw [z32_lt, zsub_toInt (by omega) (by omega), zi_of (by omega)] at c_114; omega
                        refine lv_iload hx hb dX12_copy_117 (lv_at hl 4 rfl) ?_
                        refine lv_aload_n hx hb dX12_copy_119 rfl (lv_at hl 0 rfl) ?_
                        refine m_geta G X 45 rfl (hwd _ mk_32) rfl dX12_copy_120 ?_
                        refine lv_iload_n hx hb dX12_copy_123 rfl (lv_at hl 3 rfl) ?_
                        refine m_iald G X 45 rfl (i := xe) (by show _ < 8; omega) (by omega) dX12_copy_124 ?_
                        refine lv_iload hx hb dX12_copy_125 (lv_at hl 5 rfl) ?_
                        refine lv_isub hx hb dX12_copy_127 ?_
                        refine lv_icmp_le (tgt := 134) hx hb dX12_copy_128 (by decide) (fun c_128 => ?_) (fun c_128 => ?_)
                        ·
                          have hle2 : xj + xn ≤ σ.2 45 xe := by rw [z32_le, zsub_toInt (by omega) (by omega), zi_of (by omega)] at c_128; omega
                          refine lv_iconst (v := nI 0) hx hb dX12_copy_134 (by decide) ?_
                          refine lv_istore (lv' := [(6, .int (nI 0)), (0, .ref o), (1, .int (nI xd)), (2, .int (nI xi)), (3, .int (nI xe)), (4, .int (nI xj)), (5, .int (nI xn))]) hx hb dX12_copy_135 hl (by decide) rfl (fun ls hl => ?_)
                          have cut_137 : ∀ (NN : Nat) (k1 : Nat) (h1 : k1 ≤ xn), xn - k1 < NN → ∀ (H : Heap) (locs : List Loc) (ls : Array Slot), wH D cl A s.heap H locs (mw o q ci cI cJ (sA σ 47 (zcp (fun k => σ.2 46 (100 * xd + xi + k)) (σ.2 47) k1))) → lv_has ls 7 [(0, .ref o), (1, .int (nI xd)), (2, .int (nI xi)), (3, .int (nI xe)), (4, .int (nI xj)), (5, .int (nI xn)), (6, .int (nI k1))] → W p l e { frames := 1, cells := 0, slots := 0, locals := 25 } s m args below meth c H locs 0 0 Q (F0 m 137 ls []) := by
                            intro NN
                            induction NN with
                            | zero => intro k1 h1 hNN; exact absurd hNN (Nat.not_lt_zero _)
                            | succ NN ih_137 =>
                              intro k1 h1 hNN H locs ls X hl
                              refine lv_iload hx hb dX12_copy_137 (lv_at hl 6 rfl) ?_
                              refine lv_iload hx hb dX12_copy_139 (lv_at hl 5 rfl) ?_
                              refine gn_icmp_ge (tgt := 171) hx hb dX12_copy_141 (by decide) (by omega) (by omega) (fun c_141 => ?_) (fun c_141 => ?_)
                              ·
                                refine lv_iconst (v := nI 0) hx hb dX12_copy_171 (by decide) ?_
                                refine lv_istore (lv' := [(6, .int (nI 0)), (0, .ref o), (1, .int (nI xd)), (2, .int (nI xi)), (3, .int (nI xe)), (4, .int (nI xj)), (5, .int (nI xn))]) hx hb dX12_copy_172 hl (by decide) rfl (fun ls hl => ?_)
                                have cut_174 : ∀ (NN : Nat) (k2 : Nat) (h2 : k2 ≤ xn), xn - k2 < NN → ∀ (H : Heap) (locs : List Loc) (ls : Array Slot), wH D cl A s.heap H locs (mw o q ci cI cJ (sA (sA σ 47 (zcp (fun k => σ.2 46 (100 * xd + xi + k)) (σ.2 47) xn)) 46 (zlay (fun k => σ.2 46 (100 * xd + xi + k)) (σ.2 46) (100 * xe + xj) k2))) → lv_has ls 7 [(0, .ref o), (1, .int (nI xd)), (2, .int (nI xi)), (3, .int (nI xe)), (4, .int (nI xj)), (5, .int (nI xn)), (6, .int (nI k2))] → W p l e { frames := 1, cells := 0, slots := 0, locals := 25 } s m args below meth c H locs 0 0 Q (F0 m 174 ls []) := by
                                  intro NN
                                  induction NN with
                                  | zero => intro k2 h2 hNN; exact absurd hNN (Nat.not_lt_zero _)
                                  | succ NN ih_174 =>
                                    intro k2 h2 hNN H locs ls X hl
                                    refine lv_iload hx hb dX12_copy_174 (lv_at hl 6 rfl) ?_
                                    refine lv_iload hx hb dX12_copy_176 (lv_at hl 5 rfl) ?_
                                    refine gn_icmp_ge (tgt := 209) hx hb dX12_copy_178 (by decide) (by omega) (by omega) (fun c_178 => ?_) (fun c_178 => ?_)
                                    ·
                                      refine lv_iload hx hb dX12_copy_209 (lv_at hl 5 rfl) ?_
                                      exact finIP_of (by unfold zcopyS; rw [if_neg (fun h9 => h9 ⟨c_14, c_26⟩), if_neg (fun h9 => by rcases h9 with h9 | h9; rw [ztoNat (show xd < 2147483648 by omega)] at h9; omega; rw [ztoNat (show xe < 2147483648 by omega)] at h9; omega), if_neg (fun h9 => h9 ⟨by rw [ztoNat (show xd < 2147483648 by omega)]; exact c_59, by rw [ztoNat (show xe < 2147483648 by omega)]; exact c_69, by rw [ztoNat (show xd < 2147483648 by omega), ztoNat (show xe < 2147483648 by omega)]; exact c_84⟩), if_neg (fun h9 => h9 ⟨by rw [zi_of (by omega)]; omega, by rw [zi_of (by omega)]; omega, by rw [zi_of (by omega)]; omega, by rw [ztoNat (show xd < 2147483648 by omega), zi_of (by omega), zi_of (by omega)]; omega, by rw [ztoNat (show xe < 2147483648 by omega), zi_of (by omega), zi_of (by omega)]; omega⟩)]) (u := (sA (sA σ 47 (zcp (fun k => σ.2 46 (100 * xd + xi + k)) (σ.2 47) xn)) 46 (zlay (fun k => σ.2 46 (100 * xd + xi + k)) (σ.2 46) (100 * xe + xj) k2))) (by unfold zcopyT; rw [if_neg (fun h9 => h9 ⟨c_14, c_26⟩), if_neg (fun h9 => by rcases h9 with h9 | h9; rw [ztoNat (show xd < 2147483648 by omega)] at h9; omega; rw [ztoNat (show xe < 2147483648 by omega)] at h9; omega), if_neg (fun h9 => h9 ⟨by rw [ztoNat (show xd < 2147483648 by omega)]; exact c_59, by rw [ztoNat (show xe < 2147483648 by omega)]; exact c_69, by rw [ztoNat (show xd < 2147483648 by omega), ztoNat (show xe < 2147483648 by omega)]; exact c_84⟩), if_neg (fun h9 => h9 ⟨by rw [zi_of (by omega)]; omega, by rw [zi_of (by omega)]; omega, by rw [zi_of (by omega)]; omega, by rw [ztoNat (show xd < 2147483648 by omega), zi_of (by omega), zi_of (by omega)]; omega, by rw [ztoNat (show xe < 2147483648 by omega), zi_of (by omega), zi_of (by omega)]; omega⟩), ztoNat (show xd < 2147483648 by omega), ztoNat (show xe < 2147483648 by omega), ztoNat (show xi < 2147483648 by omega), ztoNat (show xj < 2147483648 by omega), ztoNat (show xn < 2147483648 by omega), show k2 = xn by omega]; exact mEq_A (by decide) (mEq_S (by decide) (by unfold mScr; omega) (mEq_refl hW))) X dX12_copy_211 fin
                                    ·
                                      refine lv_aload_n hx hb dX12_copy_181 rfl (lv_at hl 0 rfl) ?_
                                      refine m_geta G X 46 rfl (hwd _ mk_33) rfl dX12_copy_182 ?_
                                      refine lv_bipush (v := nI 100) hx hb dX12_copy_185 (by decide) ?_
                                      refine lv_iload_n hx hb dX12_copy_187 rfl (lv_at hl 3 rfl) ?_
                                      refine gn_imul hx hb dX12_copy_188  ?_
                                      refine lv_iload hx hb dX12_copy_189 (lv_at hl 4 rfl) ?_
                                      refine gn_iadd hx hb dX12_copy_191  ?_
                                      refine lv_iload hx hb dX12_copy_192 (lv_at hl 6 rfl) ?_
                                      refine gn_iadd hx hb dX12_copy_194  ?_
                                      refine lv_aload_n hx hb dX12_copy_195 rfl (lv_at hl 0 rfl) ?_
                                      refine m_geta G X 47 rfl (hwd _ mk_34) rfl dX12_copy_196 ?_
                                      refine lv_iload hx hb dX12_copy_199 (lv_at hl 6 rfl) ?_
                                      refine m_lald G X 47 rfl (i := k2) (by show _ < 100; omega) (by omega) dX12_copy_201 ?_
                                      refine gl_eq (a := ((zcp (fun k => σ.2 46 (100 * xd + xi + k)) (σ.2 47) xn) k2)) rfl ?_
                                      refine m_last G X 46 rfl (i := (((100 * xe) + xj) + k2)) (v := ((zcp (fun k => σ.2 46 (100 * xd + xi + k)) (σ.2 47) xn) k2)) (by show _ < 800; omega) (by omega) dX12_copy_202 (fun H locs X => ?_)
                                      refine lv_iinc (v := nI (k2 + 1)) (lv' := [(6, .int (nI (k2 + 1))), (0, .ref o), (1, .int (nI xd)), (2, .int (nI xi)), (3, .int (nI xe)), (4, .int (nI xj)), (5, .int (nI xn))]) hx hb dX12_copy_203 hl (k := 6) rfl (zn_inc _) (by decide) rfl (fun ls hl => ?_)
                                      refine lv_goto (tgt := 174) hx hb dX12_copy_206 (by decide) ?_
                                      refine ih_174 (k2 + 1) (by omega) (by omega) _ _ _ (by exact wh_eq ((sA_e1 (sA σ 47 (zcp (fun k => σ.2 46 (100 * xd + xi + k)) (σ.2 47) xn)) 46 _ _ _).trans (congrArg (sA (sA σ 47 (zcp (fun k => σ.2 46 (100 * xd + xi + k)) (σ.2 47) xn)) 46) (zlay_1 (f := fun k => σ.2 46 (100 * xd + xi + k)) (zcp_in (f := fun k => σ.2 46 (100 * xd + xi + k)) c_178)))) X) (by exact lv_sub hl [1, 2, 3, 4, 5, 6, 0] rfl)
                                refine cut_174 _ 0 (Nat.zero_le _) (Nat.lt_succ_self _) _ _ _ (by exact wh_eq (by rw [zlay_0, show k1 = xn by omega]; exact (sA_self (sA σ 47 (zcp (fun k => σ.2 46 (100 * xd + xi + k)) (σ.2 47) xn)) 46).symm) X) (by exact lv_sub hl [1, 2, 3, 4, 5, 6, 0] rfl)
                              ·
                                refine lv_aload_n hx hb dX12_copy_144 rfl (lv_at hl 0 rfl) ?_
                                refine m_geta G X 47 rfl (hwd _ mk_34) rfl dX12_copy_145 ?_
                                refine lv_iload hx hb dX12_copy_148 (lv_at hl 6 rfl) ?_
                                refine lv_aload_n hx hb dX12_copy_150 rfl (lv_at hl 0 rfl) ?_
                                refine m_geta G X 46 rfl (hwd _ mk_33) rfl dX12_copy_151 ?_
                                refine lv_bipush (v := nI 100) hx hb dX12_copy_154 (by decide) ?_
                                refine lv_iload_n hx hb dX12_copy_156 rfl (lv_at hl 1 rfl) ?_
                                refine gn_imul hx hb dX12_copy_157  ?_
                                refine lv_iload_n hx hb dX12_copy_158 rfl (lv_at hl 2 rfl) ?_
                                refine gn_iadd hx hb dX12_copy_159  ?_
                                refine lv_iload hx hb dX12_copy_160 (lv_at hl 6 rfl) ?_
                                refine gn_iadd hx hb dX12_copy_162  ?_
                                refine m_lald G X 46 rfl (i := (((100 * xd) + xi) + k1)) (by show _ < 800; omega) (by omega) dX12_copy_163 ?_
                                refine gl_eq (a := (σ.2 46 (((100 * xd) + xi) + k1))) rfl ?_
                                refine m_last G X 47 rfl (i := k1) (v := (σ.2 46 (((100 * xd) + xi) + k1))) (by show _ < 100; omega) (by omega) dX12_copy_164 (fun H locs X => ?_)
                                refine lv_iinc (v := nI (k1 + 1)) (lv' := [(6, .int (nI (k1 + 1))), (0, .ref o), (1, .int (nI xd)), (2, .int (nI xi)), (3, .int (nI xe)), (4, .int (nI xj)), (5, .int (nI xn))]) hx hb dX12_copy_165 hl (k := 6) rfl (zn_inc _) (by decide) rfl (fun ls hl => ?_)
                                refine lv_goto (tgt := 137) hx hb dX12_copy_168 (by decide) ?_
                                refine ih_137 (k1 + 1) (by omega) (by omega) _ _ _ (by exact wh_eq (sA_f1 σ 47 (fun k => σ.2 46 (100 * xd + xi + k)) k1 _ rfl) X) (by exact lv_sub hl [1, 2, 3, 4, 5, 6, 0] rfl)
                          refine cut_137 _ 0 (Nat.zero_le _) (Nat.lt_succ_self _) _ _ _ (by exact wh_eq (sA_f0 σ 47 (fun k => σ.2 46 (100 * xd + xi + k))) X) (by exact lv_sub hl [1, 2, 3, 4, 5, 6, 0] rfl)
                        ·
                          refine lv_bipush (v := (-13)) hx hb dX12_copy_131 (by decide) ?_
                          exact finIP_of (by unfold zcopyS; rw [if_neg (fun h9 => h9 ⟨c_14, c_26⟩), if_neg (fun h9 => by rcases h9 with h9 | h9; rw [ztoNat (show xd < 2147483648 by omega)] at h9; omega; rw [ztoNat (show xe < 2147483648 by omega)] at h9; omega), if_neg (fun h9 => h9 ⟨by rw [ztoNat (show xd < 2147483648 by omega)]; exact c_59, by rw [ztoNat (show xe < 2147483648 by omega)]; exact c_69, by rw [ztoNat (show xd < 2147483648 by omega), ztoNat (show xe < 2147483648 by omega)]; exact c_84⟩), if_pos (fun h9 => by have h1 := h9.2.2.2.1; have h2 := h9.2.2.2.2; rw [ztoNat (show xd < 2147483648 by omega), zi_of (by omega), zi_of (by omega)] at h1; rw [ztoNat (show xe < 2147483648 by omega), zi_of (by omega), zi_of (by omega)] at h2; first | (rw [z32_lt, zsub_toInt (by omega) (by omega), zi_of (by omega)] at c_114; omega) | (rw [z32_le, zsub_toInt (by omega) (by omega), zi_of (by omega)] at c_128; omega))]) (u := σ) (by unfold zcopyT; rw [if_neg (fun h9 => h9 ⟨c_14, c_26⟩), if_neg (fun h9 => by rcases h9 with h9 | h9; rw [ztoNat (show xd < 2147483648 by omega)] at h9; omega; rw [ztoNat (show xe < 2147483648 by omega)] at h9; omega), if_neg (fun h9 => h9 ⟨by rw [ztoNat (show xd < 2147483648 by omega)]; exact c_59, by rw [ztoNat (show xe < 2147483648 by omega)]; exact c_69, by rw [ztoNat (show xd < 2147483648 by omega), ztoNat (show xe < 2147483648 by omega)]; exact c_84⟩), if_pos (fun h9 => by have h1 := h9.2.2.2.1; have h2 := h9.2.2.2.2; rw [ztoNat (show xd < 2147483648 by omega), zi_of (by omega), zi_of (by omega)] at h1; rw [ztoNat (show xe < 2147483648 by omega), zi_of (by omega), zi_of (by omega)] at h2; first | (rw [z32_lt, zsub_toInt (by omega) (by omega), zi_of (by omega)] at c_114; omega) | (rw [z32_le, zsub_toInt (by omega) (by omega), zi_of (by omega)] at c_128; omega))]; exact mEq_refl hW) X dX12_copy_133 fin
              ·
                refine lv_bipush (v := (-12)) hx hb dX12_copy_87 (by decide) ?_
                exact finIP_of (by unfold zcopyS; rw [if_neg (fun h9 => h9 ⟨c_14, c_26⟩), if_neg (fun h9 => by rcases h9 with h9 | h9; rw [ztoNat (show xd < 2147483648 by omega)] at h9; omega; rw [ztoNat (show xe < 2147483648 by omega)] at h9; omega), if_pos (fun h9 => by have h1 := h9.1; have h2 := h9.2.1; have h3 := h9.2.2; rw [ztoNat (show xd < 2147483648 by omega)] at h1 h3; rw [ztoNat (show xe < 2147483648 by omega)] at h2 h3; first | exact c_59 h1 | exact c_69 h2 | exact c_84 h3)]) (u := σ) (by unfold zcopyT; rw [if_neg (fun h9 => h9 ⟨c_14, c_26⟩), if_neg (fun h9 => by rcases h9 with h9 | h9; rw [ztoNat (show xd < 2147483648 by omega)] at h9; omega; rw [ztoNat (show xe < 2147483648 by omega)] at h9; omega), if_pos (fun h9 => by have h1 := h9.1; have h2 := h9.2.1; have h3 := h9.2.2; rw [ztoNat (show xd < 2147483648 by omega)] at h1 h3; rw [ztoNat (show xe < 2147483648 by omega)] at h2 h3; first | exact c_59 h1 | exact c_69 h2 | exact c_84 h3)]; exact mEq_refl hW) X dX12_copy_89 fin
        ·
          refine lv_bipush (v := (-11)) hx hb dX12_copy_49 (by decide) ?_
          exact finIP_of (by unfold zcopyS; rw [if_neg (fun h9 => h9 ⟨c_14, c_26⟩), if_pos (by first | (left; rw [ztoNat (show xd < 2147483648 by omega)]; exact c_37) | (right; rw [ztoNat (show xe < 2147483648 by omega)]; exact c_46))]) (u := σ) (by unfold zcopyT; rw [if_neg (fun h9 => h9 ⟨c_14, c_26⟩), if_pos (by first | (left; rw [ztoNat (show xd < 2147483648 by omega)]; exact c_37) | (right; rw [ztoNat (show xe < 2147483648 by omega)]; exact c_46))]; exact mEq_refl hW) X dX12_copy_51 fin
    ·
      rw [zi8] at c_26
      refine lv_iconst (v := (-1)) hx hb dX12_copy_29 (by decide) ?_
      exact finIP_of (by unfold zcopyS; first | (rw [if_pos (fun h9 => c_14 h9.1)]) | (rw [if_pos (fun h9 => c_26 h9.2)])) (u := σ) (by unfold zcopyT; first | (rw [if_pos (fun h9 => c_14 h9.1)]; exact mEq_refl hW) | (rw [if_pos (fun h9 => c_26 h9.2)]; exact mEq_refl hW)) X dX12_copy_30 fin
