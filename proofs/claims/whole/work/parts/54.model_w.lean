set_option maxHeartbeats 4000000 in
set_option maxRecDepth 100000 in
theorem c_here {l : Launch} {D : va_G} {cl : List vw_C} {tys : List (ClassId × FieldType)} {o : Nat} {q : Nat → Nat} {ci : Nat} {cI cJ : ClassId} (hcl : cl[ci]? = some (RX12, TX12, 48)) (ht0 : tys[0]? = some (cI, .int)) (ht1 : tys[1]? = some (cJ, .long)) {σ : MS} (hpo : zpOk σ) : ctI l D cl tys yX12_here (Cond.code yX12_here cX12_here 1 (some .int) :: mW) { frames := 0, cells := 0, slots := 0, locals := 0 } [.ref o] (mw o q ci cI cJ σ) (nI (zhere σ)) (mw o q ci cI cJ σ) := by
  refine ctI_of (cc := cX12_here) (maxL := 1) (by decide +kernel) rfl (Nat.le_of_ble_eq_true rfl) ?_
  intro p e s m args below meth c A Q ls hx hb hml hown hts hK hA X hl fin
  replace hown : s.vm.findClass RX12 = some m.cls := hown
  have hwd : ∀ w ∈ mW, w.before args s = true := fun w h => hts w (List.mem_cons_of_mem _ h)
  have G : mG p c cX12_here s m args D cl tys ci cI cJ := ⟨hx, hb, hown, hwd, hK, hcl, ht0, ht1⟩
  replace hl : lv_has ls 1 [(0, .ref o)] := hl
  obtain ⟨q16, q17, q18, q19⟩ := id hpo
  refine lv_aload_n hx hb dX12_here_0 rfl (lv_at hl 0 rfl) ?_
  refine m_geti G X 18 rfl (hwd _ mk_52) rfl dX12_here_1 ?_
  refine lv_aload_n hx hb dX12_here_4 rfl (lv_at hl 0 rfl) ?_
  refine m_geti G X 17 rfl (hwd _ mk_53) rfl dX12_here_5 ?_
  refine gn_icmp_lt (tgt := 15) hx hb dX12_here_8 (by decide) (by omega) (by omega) (fun c_8 => ?_) (fun c_8 => ?_)
  ·
    refine lv_aload_n hx hb dX12_here_15 rfl (lv_at hl 0 rfl) ?_
    refine m_geta G X 46 rfl (hwd _ mk_33) rfl dX12_here_16 ?_
    refine lv_aload_n hx hb dX12_here_19 rfl (lv_at hl 0 rfl) ?_
    refine m_geti G X 16 rfl (hwd _ mk_54) rfl dX12_here_20 ?_
    refine lv_aload_n hx hb dX12_here_23 rfl (lv_at hl 0 rfl) ?_
    refine m_geti G X 18 rfl (hwd _ mk_52) rfl dX12_here_24 ?_
    refine gn_iadd hx hb dX12_here_27  ?_
    refine m_lald G X 46 rfl (i := ((σ.1 16) + (σ.1 18))) (by show _ < 800; omega) (by omega) dX12_here_28 ?_
    refine gn_l2i hx hb dX12_here_29 ?_
    refine lv_sipush (v := nI 255) hx hb dX12_here_30 (by decide) ?_
    refine lv_iand hx hb dX12_here_33 ?_
    refine gi_to (a := (σ.2 46 ((σ.1 16) + (σ.1 18))) % 256) (zand _ 8 (by decide) (by decide)) ?_
    exact fin_of (rfl) (by unfold zhere; first | (rw [if_pos c_8]; done) | (rw [if_neg (by omega)]; exact zm1)) X dX12_here_34 fin
  ·
    refine lv_iconst (v := (-1)) hx hb dX12_here_11 (by decide) ?_
    refine lv_goto (tgt := 34) hx hb dX12_here_12 (by decide) ?_
    exact fin_of (rfl) (by unfold zhere; first | (rw [if_pos c_8]; done) | (rw [if_neg (by omega)]; exact zm1)) X dX12_here_34 fin
