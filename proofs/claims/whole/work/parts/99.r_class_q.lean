set_option maxHeartbeats 4000000 in
set_option maxRecDepth 100000 in
theorem k11_holdsKinds {E : (Nat → Prop) → State → Heap → Prop} (hE : cEok E) {l : Launch} {D : va_G} {Z : Nat → ClassId} {ro : Nat × Nat} {t n : Nat} {g : Nat → Int32} (hn : n ≤ 100) : dtI E l D Z yX11_holdsKinds (Cond.code yX11_holdsKinds cX11_holdsKinds 3 (some .boolean) :: cW) { frames := 1, cells := 0, slots := 0, locals := 20 } [.ref ro.1] (wcat [roP Z ro t n g]) (S := Unit) (fun _ => wcat [roP Z ro t n g]) (fun _ => if zhkD g n = true then 1 else 0) (fun _ => True) := by
  refine dtZ_of hE (cc := cX11_holdsKinds) (maxL := 3) (hnar := fun _ _ => zb_ite) (by decide +kernel) (fun w h => List.mem_cons_of_mem _ h) (Nat.le_of_ble_eq_true rfl) ?_
  intro p e s m args below meth c A Q ls hx hb hml hown hts G X hl fin
  replace hl : lv_has ls 3 [(0, .ref ro.1)] := hl
  refine lv_aload_n hx hb dX11_holdsKinds_0 rfl (lv_at hl 0 rfl) ?_
  refine cg_5 G X 0 0 rfl rfl 1 (by decide) (G.2.2.2.1 _ ck_611) rfl rfl dX11_holdsKinds_1 ?_
  refine cr_alen 0 G X 0 1 (ty := .int) rfl rfl rfl dX11_holdsKinds_4 ?_
  refine lv_istore_n (lv' := [(1, .int (nI n)), (0, .ref ro.1)]) hx hb dX11_holdsKinds_5 rfl hl (by decide) rfl (fun ls hl => ?_)
  refine lv_iload_n hx hb dX11_holdsKinds_6 rfl (lv_at hl 0 rfl) ?_
  refine lv_iconst (v := nI 1) hx hb dX11_holdsKinds_7 (by decide) ?_
  refine gn_icmp_lt (tgt := 17) hx hb dX11_holdsKinds_8 (by decide) (by omega) (by omega) (fun c_8 => ?_) (fun c_8 => ?_)
  ·
    refine lv_iconst (v := nI 0) hx hb dX11_holdsKinds_17 (by decide) ?_
    exact cfin_I (()) (trivial) (rfl) (zb_f (zhkD_n (fun q => by omega))) X dX11_holdsKinds_18 fin
  ·
    refine lv_iload_n hx hb dX11_holdsKinds_11 rfl (lv_at hl 0 rfl) ?_
    refine lv_bipush (v := nI 6) hx hb dX11_holdsKinds_12 (by decide) ?_
    refine gn_icmp_le (tgt := 19) hx hb dX11_holdsKinds_14 (by decide) (by omega) (by omega) (fun c_14 => ?_) (fun c_14 => ?_)
    ·
      refine lv_iconst (v := nI 0) hx hb dX11_holdsKinds_19 (by decide) ?_
      refine lv_istore_n (lv' := [(2, .int (nI 0)), (1, .int (nI n)), (0, .ref ro.1)]) hx hb dX11_holdsKinds_20 rfl hl (by decide) rfl (fun ls hl => ?_)
      have cut_21 : ∀ (NN : Nat) (i1 : Nat) (h1 : i1 ≤ n) (hn6 : 1 ≤ n ∧ n ≤ 6) (hal : ∀ i, i < i1 → zir (g i) 6), n - i1 < NN → ∀ (H : Heap) (locs : List Loc) (ls : Array Slot), wH D vwCl A s.heap H locs (wcat [roP Z ro t n g]) → lv_has ls 3 [(0, .ref ro.1), (1, .int (nI n)), (2, .int (nI i1))] → W p l e { frames := 1, cells := 0, slots := 0, locals := 20 } s m args below meth c H locs 0 0 Q (F0 m 21 ls []) := by
        intro NN
        induction NN with
        | zero => intro i1 h1 hn6 hal hNN; exact absurd hNN (Nat.not_lt_zero _)
        | succ NN ih_21 =>
          intro i1 h1 hn6 hal hNN H locs ls X hl
          refine lv_iload_n hx hb dX11_holdsKinds_21 rfl (lv_at hl 2 rfl) ?_
          refine lv_iload_n hx hb dX11_holdsKinds_22 rfl (lv_at hl 1 rfl) ?_
          refine gn_icmp_ge (tgt := 46) hx hb dX11_holdsKinds_23 (by decide) (by omega) (by omega) (fun c_23 => ?_) (fun c_23 => ?_)
          ·
            refine lv_iconst (v := nI 1) hx hb dX11_holdsKinds_46 (by decide) ?_
            exact cfin_I (()) (trivial) (rfl) (zb_t (zhkD_y hn6 (fun i hi => hal i (by omega)))) X dX11_holdsKinds_47 fin
          ·
            refine lv_aload_n hx hb dX11_holdsKinds_26 rfl (lv_at hl 0 rfl) ?_
            refine cg_5 G X 0 0 rfl rfl 1 (by decide) (G.2.2.2.1 _ ck_611) rfl rfl dX11_holdsKinds_27 ?_
            refine lv_iload_n hx hb dX11_holdsKinds_30 rfl (lv_at hl 2 rfl) ?_
            refine cr_ialdr G X 0 1 rfl rfl (by omega) (by omega) dX11_holdsKinds_31 ?_
            refine dtI_go (w := wcat []) (wf := wcat [roP Z ro t n g]) (W1 := fun _ => wcat [roP Z ro t n g]) G X (wsel [0] rfl rfl) (run_S (As := [.int (g i1)]) (rest := []) (n := 1) G hml hts hl.1 (k11_isRuleKind hE (g i1) _) (va_cwS 1 hts (cg_S ck_666 ck_668 ck_669 ck_89) rfl rfl rfl (by decide +kernel) ⟨Nat.le_of_ble_eq_true rfl, Nat.le_of_ble_eq_true rfl⟩) rfl (Nat.le_of_ble_eq_true rfl) dX11_holdsKinds_32 ⟨Nat.le_refl _, Nat.le_refl _⟩) (fun _ => wback [0] rfl rfl) (fun H locs _ _ X => ?_)
            refine gb_if_ne (tgt := 40) hx hb dX11_holdsKinds_35 (by decide) (fun c_35 => ?_) (fun c_35 => ?_)
            ·
              refine lv_iinc (v := nI (i1 + 1)) (lv' := [(2, .int (nI (i1 + 1))), (0, .ref ro.1), (1, .int (nI n))]) hx hb dX11_holdsKinds_40 hl (k := 2) rfl (zn_inc _) (by decide) rfl (fun ls hl => ?_)
              refine lv_goto (tgt := 21) hx hb dX11_holdsKinds_43 (by decide) ?_
              refine ih_21 (i1 + 1) (by omega) (hn6) (fun i hi => by rcases Nat.lt_or_ge i i1 with h9 | h9; exact hal i h9; rw [show i = i1 by omega]; exact c_35) (by omega) _ _ _ (by exact X) (by exact lv_sub hl [1, 2, 0] rfl)
            ·
              refine lv_iconst (v := nI 0) hx hb dX11_holdsKinds_38 (by decide) ?_
              exact cfin_I (()) (trivial) (rfl) (zb_f (zhkD_n (fun q => c_35 (q.2 i1 (by omega))))) X dX11_holdsKinds_39 fin
      refine cut_21 _ 0 (Nat.zero_le _) (⟨by omega, by omega⟩) (fun i hi => absurd hi (Nat.not_lt_zero i)) (Nat.lt_succ_self _) _ _ _ (by exact X) (by exact lv_sub hl [2, 1, 0] rfl)
    ·
      refine lv_iconst (v := nI 0) hx hb dX11_holdsKinds_17 (by decide) ?_
      exact cfin_I (()) (trivial) (rfl) (zb_f (zhkD_n (fun q => by omega))) X dX11_holdsKinds_18 fin
