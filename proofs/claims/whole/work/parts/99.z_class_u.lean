set_option maxHeartbeats 4000000 in
set_option maxRecDepth 100000 in
theorem k900_coder_7d493 {E : (Nat → Prop) → State → Heap → Prop} (hE : cEok E) {l : Launch} {D : va_G} {Z : Nat → ClassId} {ad av : Nat → Nat} {i : Nat} (hS : cStr E ad av) (hi : i < 6) : dtI E l D Z yJ0_coder_7d493 (Cond.code yJ0_coder_7d493 cJ0_coder_7d493 1 (some .byte) :: cW) { frames := 0, cells := 0, slots := 0, locals := 0 } [.ref (ad i)] (wcat []) (S := Unit) (fun _ => wcat []) (fun _ => nI 0) (fun _ => True) := by
  refine dtC_of hE (cc := cJ0_coder_7d493) (maxL := 1) (ty := .byte) (hnar := fun _ _ => rfl) (by decide +kernel) (fun w h => List.mem_cons_of_mem _ h) (Nat.le_of_ble_eq_true rfl) ?_
  intro p e s m args below meth c A Q ls hx hb hml hown hts G X hl fin
  replace hl : lv_has ls 1 [(0, .ref (ad i))] := hl
  have hst := hS _ _ _ G.2.2.2.2.2.2.1
  refine va_gets hx hb hst.2.1 X.2.2 hown (G.2.2.2.1 _ ck_166) (fun _ h => h) dJ0_coder_7d493_0 ?_
  refine gi_eq (a := 1) rfl ?_
  refine gn_if_eq (tgt := 13) hx hb dJ0_coder_7d493_3 (by decide) (by omega) (fun c_3 => ?_) (fun c_3 => ?_)
  · exact absurd c_3 (by decide)
  ·
    refine lv_aload_n hx hb dJ0_coder_7d493_6 rfl (lv_at hl 0 rfl) ?_
    refine vk_getf hx hb (hst.1.1 i hi).2.1 X.2.2 hown (G.2.2.2.1 _ ck_167) (fun _ h => h) dJ0_coder_7d493_7 ?_
    refine gi_eq (a := 0) rfl ?_
    refine lv_goto (tgt := 14) hx hb dJ0_coder_7d493_10 (by decide) ?_
    exact cfin_I (()) (trivial) (rfl) (rfl) X dJ0_coder_7d493_14 fin
set_option maxHeartbeats 4000000 in
set_option maxRecDepth 100000 in
theorem k900_isLatin1_aae02 {E : (Nat → Prop) → State → Heap → Prop} (hE : cEok E) {l : Launch} {D : va_G} {Z : Nat → ClassId} {ad av : Nat → Nat} {i : Nat} (hS : cStr E ad av) (hi : i < 6) : dtI E l D Z yJ0_isLatin1_aae02 (Cond.code yJ0_isLatin1_aae02 cJ0_isLatin1_aae02 1 (some .boolean) :: cW) { frames := 0, cells := 0, slots := 0, locals := 0 } [.ref (ad i)] (wcat []) (S := Unit) (fun _ => wcat []) (fun _ => nI 1) (fun _ => True) := by
  refine dtZ_of hE (cc := cJ0_isLatin1_aae02) (maxL := 1) (hnar := fun _ _ => rfl) (by decide +kernel) (fun w h => List.mem_cons_of_mem _ h) (Nat.le_of_ble_eq_true rfl) ?_
  intro p e s m args below meth c A Q ls hx hb hml hown hts G X hl fin
  replace hl : lv_has ls 1 [(0, .ref (ad i))] := hl
  have hst := hS _ _ _ G.2.2.2.2.2.2.1
  refine va_gets hx hb hst.2.1 X.2.2 hown (G.2.2.2.1 _ ck_166) (fun _ h => h) dJ0_isLatin1_aae02_0 ?_
  refine gi_eq (a := 1) rfl ?_
  refine gn_if_eq (tgt := 17) hx hb dJ0_isLatin1_aae02_3 (by decide) (by omega) (fun c_3 => ?_) (fun c_3 => ?_)
  · exact absurd c_3 (by decide)
  ·
    refine lv_aload_n hx hb dJ0_isLatin1_aae02_6 rfl (lv_at hl 0 rfl) ?_
    refine vk_getf hx hb (hst.1.1 i hi).2.1 X.2.2 hown (G.2.2.2.1 _ ck_167) (fun _ h => h) dJ0_isLatin1_aae02_7 ?_
    refine gi_eq (a := 0) rfl ?_
    refine gn_if_ne (tgt := 17) hx hb dJ0_isLatin1_aae02_10 (by decide) (by omega) (fun c_10 => ?_) (fun c_10 => ?_)
    · exact absurd c_10 (by decide)
    ·
      refine lv_iconst (v := nI 1) hx hb dJ0_isLatin1_aae02_13 (by decide) ?_
      refine lv_goto (tgt := 18) hx hb dJ0_isLatin1_aae02_14 (by decide) ?_
      exact cfin_I (()) (trivial) (rfl) (rfl) X dJ0_isLatin1_aae02_18 fin
set_option maxHeartbeats 4000000 in
set_option maxRecDepth 100000 in
theorem k900_length_8abf5 {E : (Nat → Prop) → State → Heap → Prop} (hE : cEok E) {l : Launch} {D : va_G} {Z : Nat → ClassId} {ad av : Nat → Nat} {i : Nat} (hS : cStr E ad av) (hi : i < 6) : dtI E l D Z yJ0_length_8abf5 (Cond.code yJ0_length_8abf5 cJ0_length_8abf5 1 (some .int) :: cW) { frames := 1, cells := 0, slots := 0, locals := 20 } [.ref (ad i)] (wcat []) (S := Unit) (fun _ => wcat []) (fun _ => nI (fLEN.getD i 0)) (fun _ => True) := by
  refine dtI_of hE (cc := cJ0_length_8abf5) (maxL := 1) (by decide +kernel) (fun w h => List.mem_cons_of_mem _ h) (Nat.le_of_ble_eq_true rfl) ?_
  intro p e s m args below meth c A Q ls hx hb hml hown hts G X hl fin
  replace hl : lv_has ls 1 [(0, .ref (ad i))] := hl
  have hst := hS _ _ _ G.2.2.2.2.2.2.1
  have hle := fLEN_le i hi
  refine lv_aload_n hx hb dJ0_length_8abf5_0 rfl (lv_at hl 0 rfl) ?_
  refine vk_getf hx hb (hst.1.1 i hi).2.2.1 X.2.2 hown (G.2.2.2.1 _ ck_164) (fun _ h => h) dJ0_length_8abf5_1 ?_
  refine va_tlen hx hb (hst.1.1 i hi).2.2.2 X.2.2 (v := nI (fLEN.getD i 0)) rfl dJ0_length_8abf5_4 ?_
  refine lv_aload_n hx hb dJ0_length_8abf5_5 rfl (lv_at hl 0 rfl) ?_
  refine dtI_go (w := wcat []) (wf := wcat []) (W1 := fun _ => wcat []) G X (wsel [] rfl rfl) (run_V (As := []) (rest := [.int (nI (fLEN.getD i 0))]) (n := 0) G hml hts hl.1 (vk_recv hst.1 hi X.2.2) (k900_coder_7d493 hE (i := i)  hS hi  _) (cwV 0 hts (cg_V ck_165 ck_169 ck_170 ck_171 ck_172) rfl rfl rfl (by decide +kernel) ⟨Nat.le_of_ble_eq_true rfl, Nat.le_of_ble_eq_true rfl⟩) rfl (Nat.le_of_ble_eq_true rfl) dJ0_length_8abf5_6 ⟨Nat.le_refl _, Nat.le_refl _⟩) (fun _ => wback [] rfl rfl) (fun H locs _ _ X => ?_)
  refine lv_ishr hx hb dJ0_length_8abf5_9 ?_
  refine gi_to (a := (fLEN.getD i 0) / 2 ^ 0) (zshr (by omega) (by omega)) ?_
  exact cfin_I (()) (trivial) (rfl) (by rw [Nat.pow_zero, Nat.div_one]) X dJ0_length_8abf5_10 fin
set_option maxHeartbeats 4000000 in
set_option maxRecDepth 100000 in
theorem k900_isEmpty_aae02 {E : (Nat → Prop) → State → Heap → Prop} (hE : cEok E) {l : Launch} {D : va_G} {Z : Nat → ClassId} {ad av : Nat → Nat} {i : Nat} (hS : cStr E ad av) (hi : i < 6) : dtI E l D Z yJ0_isEmpty_aae02 (Cond.code yJ0_isEmpty_aae02 cJ0_isEmpty_aae02 1 (some .boolean) :: cW) { frames := 0, cells := 0, slots := 0, locals := 0 } [.ref (ad i)] (wcat []) (S := Unit) (fun _ => wcat []) (fun _ => if fLEN.getD i 0 = 0 then 1 else 0) (fun _ => True) := by
  refine dtZ_of hE (cc := cJ0_isEmpty_aae02) (maxL := 1) (hnar := fun _ _ => zb_ite) (by decide +kernel) (fun w h => List.mem_cons_of_mem _ h) (Nat.le_of_ble_eq_true rfl) ?_
  intro p e s m args below meth c A Q ls hx hb hml hown hts G X hl fin
  replace hl : lv_has ls 1 [(0, .ref (ad i))] := hl
  have hst := hS _ _ _ G.2.2.2.2.2.2.1
  have hle := fLEN_le i hi
  refine lv_aload_n hx hb dJ0_isEmpty_aae02_0 rfl (lv_at hl 0 rfl) ?_
  refine vk_getf hx hb (hst.1.1 i hi).2.2.1 X.2.2 hown (G.2.2.2.1 _ ck_164) (fun _ h => h) dJ0_isEmpty_aae02_1 ?_
  refine va_tlen hx hb (hst.1.1 i hi).2.2.2 X.2.2 (v := nI (fLEN.getD i 0)) rfl dJ0_isEmpty_aae02_4 ?_
  refine gn_if_ne (tgt := 12) hx hb dJ0_isEmpty_aae02_5 (by decide) (by omega) (fun c_5 => ?_) (fun c_5 => ?_)
  ·
    refine lv_iconst (v := nI 0) hx hb dJ0_isEmpty_aae02_12 (by decide) ?_
    exact cfin_I (()) (trivial) (rfl) (by first | exact zb_f (by omega) | exact zb_t (by omega)) X dJ0_isEmpty_aae02_13 fin
  ·
    refine lv_iconst (v := nI 1) hx hb dJ0_isEmpty_aae02_8 (by decide) ?_
    refine lv_goto (tgt := 13) hx hb dJ0_isEmpty_aae02_9 (by decide) ?_
    exact cfin_I (()) (trivial) (rfl) (by first | exact zb_f (by omega) | exact zb_t (by omega)) X dJ0_isEmpty_aae02_13 fin
set_option maxHeartbeats 4000000 in
set_option maxRecDepth 100000 in
theorem k903_checkIndex_n {E : (Nat → Prop) → State → Heap → Prop} (hE : cEok E) {l : Launch} {D : va_G} {Z : Nat → ClassId}  (xk : Nat) (xn : Nat) (hk : xk < xn) (hn : xn < 2147483648) : dtI E l D Z yJ3_checkIndex_8e157 (Cond.code yJ3_checkIndex_8e157 cJ3_checkIndex_8e157 3 (some .int) :: cW) { frames := 0, cells := 0, slots := 0, locals := 0 } [.int (nI xk), .int (nI xn), .null] (wcat []) (S := Unit) (fun _ => wcat []) (fun _ => nI xk) (fun _ => True) := by
  refine dtI_of hE (cc := cJ3_checkIndex_8e157) (maxL := 3) (by decide +kernel) (fun w h => List.mem_cons_of_mem _ h) (Nat.le_of_ble_eq_true rfl) ?_
  intro p e s m args below meth c A Q ls hx hb hml hown hts G X hl fin
  replace hl : lv_has ls 3 [(0, .int (nI xk)), (1, .int (nI xn)), (2, .null)] := hl
  refine lv_iload_n hx hb dJ3_checkIndex_8e157_0 rfl (lv_at hl 0 rfl) ?_
  refine gn_if_lt (tgt := 9) hx hb dJ3_checkIndex_8e157_1 (by decide) (by omega) ?_
  refine lv_iload_n hx hb dJ3_checkIndex_8e157_4 rfl (lv_at hl 0 rfl) ?_
  refine lv_iload_n hx hb dJ3_checkIndex_8e157_5 rfl (lv_at hl 1 rfl) ?_
  refine gn_icmp_lt (tgt := 16) hx hb dJ3_checkIndex_8e157_6 (by decide) (by omega) (by omega) (fun c_6 => ?_) (fun c_6 => ?_)
  ·
    refine lv_iload_n hx hb dJ3_checkIndex_8e157_16 rfl (lv_at hl 0 rfl) ?_
    exact cfin_I (()) (trivial) (rfl) (rfl) X dJ3_checkIndex_8e157_17 fin
  ·
    exfalso; omega
set_option maxHeartbeats 4000000 in
set_option maxRecDepth 100000 in
theorem k903_checkIndex_r {E : (Nat → Prop) → State → Heap → Prop} (hE : cEok E) {l : Launch} {D : va_G} {Z : Nat → ClassId} {tf : Nat} (xk : Nat) (xn : Nat) (hk : xk < xn) (hn : xn < 2147483648) : dtI E l D Z yJ3_checkIndex_8e157 (Cond.code yJ3_checkIndex_8e157 cJ3_checkIndex_8e157 3 (some .int) :: cW) { frames := 0, cells := 0, slots := 0, locals := 0 } [.int (nI xk), .int (nI xn), .ref tf] (wcat []) (S := Unit) (fun _ => wcat []) (fun _ => nI xk) (fun _ => True) := by
  refine dtI_of hE (cc := cJ3_checkIndex_8e157) (maxL := 3) (by decide +kernel) (fun w h => List.mem_cons_of_mem _ h) (Nat.le_of_ble_eq_true rfl) ?_
  intro p e s m args below meth c A Q ls hx hb hml hown hts G X hl fin
  replace hl : lv_has ls 3 [(0, .int (nI xk)), (1, .int (nI xn)), (2, .ref tf)] := hl
  refine lv_iload_n hx hb dJ3_checkIndex_8e157_0 rfl (lv_at hl 0 rfl) ?_
  refine gn_if_lt (tgt := 9) hx hb dJ3_checkIndex_8e157_1 (by decide) (by omega) ?_
  refine lv_iload_n hx hb dJ3_checkIndex_8e157_4 rfl (lv_at hl 0 rfl) ?_
  refine lv_iload_n hx hb dJ3_checkIndex_8e157_5 rfl (lv_at hl 1 rfl) ?_
  refine gn_icmp_lt (tgt := 16) hx hb dJ3_checkIndex_8e157_6 (by decide) (by omega) (by omega) (fun c_6 => ?_) (fun c_6 => ?_)
  ·
    refine lv_iload_n hx hb dJ3_checkIndex_8e157_16 rfl (lv_at hl 0 rfl) ?_
    exact cfin_I (()) (trivial) (rfl) (rfl) X dJ3_checkIndex_8e157_17 fin
  ·
    exfalso; omega
set_option maxHeartbeats 4000000 in
set_option maxRecDepth 100000 in
theorem k900_checkIndex_df160 {E : (Nat → Prop) → State → Heap → Prop} (hE : cEok E) {l : Launch} {D : va_G} {Z : Nat → ClassId} {ad av : Nat → Nat} (xk : Nat) (xn : Nat) (hS : cStr E ad av) (hk : xk < xn) (hn : xn < 2147483648) : dtV E l D Z yJ0_checkIndex_df160 (Cond.code yJ0_checkIndex_df160 cJ0_checkIndex_df160 2 none :: cW) { frames := 1, cells := 0, slots := 0, locals := 22 } [.int (nI xk), .int (nI xn)] (wcat []) (S := Unit) (fun _ => wcat []) (fun _ => True) := by
  refine dtV_of hE (cc := cJ0_checkIndex_df160) (maxL := 2) (by decide +kernel) (fun w h => List.mem_cons_of_mem _ h) (Nat.le_of_ble_eq_true rfl) ?_
  intro p e s m args below meth c A Q ls hx hb hml hown hts G X hl fin
  replace hl : lv_has ls 2 [(0, .int (nI xk)), (1, .int (nI xn))] := hl
  have hst := hS _ _ _ G.2.2.2.2.2.2.1
  refine lv_iload_n hx hb dJ0_checkIndex_df160_0 rfl (lv_at hl 0 rfl) ?_
  refine lv_iload_n hx hb dJ0_checkIndex_df160_1 rfl (lv_at hl 1 rfl) ?_
  rcases hst.2.2.1 with hz | ⟨tf, hz⟩
  · refine va_gets hx hb hz X.2.2 hown (G.2.2.2.1 _ ck_176) (fun _ h => h) dJ0_checkIndex_df160_2 ?_
    refine dtI_go (w := wcat []) (wf := wcat []) (W1 := fun _ => wcat []) G X (wsel [] rfl rfl) (run_S (As := [.int (nI xk), .int (nI xn), .null]) (rest := []) (n := 3) G hml hts hl.1 (k903_checkIndex_n hE xk xn hk hn _) (va_cwS 3 hts (cg_S ck_174 ck_177 ck_178 ck_179) rfl rfl rfl (by decide +kernel) ⟨Nat.le_of_ble_eq_true rfl, Nat.le_of_ble_eq_true rfl⟩) rfl (Nat.le_of_ble_eq_true rfl) dJ0_checkIndex_df160_5 ⟨Nat.le_refl _, Nat.le_refl _⟩) (fun _ => wback [] rfl rfl) (fun H locs _ _ X => ?_)
    refine lv_pop hx hb dJ0_checkIndex_df160_8 rfl ?_
    exact cfin_V (()) (trivial) (rfl) X dJ0_checkIndex_df160_9 fin
  · refine va_gets hx hb hz X.2.2 hown (G.2.2.2.1 _ ck_176) (fun _ h => h) dJ0_checkIndex_df160_2 ?_
    refine dtI_go (w := wcat []) (wf := wcat []) (W1 := fun _ => wcat []) G X (wsel [] rfl rfl) (run_S (As := [.int (nI xk), .int (nI xn), .ref tf]) (rest := []) (n := 3) G hml hts hl.1 (k903_checkIndex_r hE xk xn hk hn _) (va_cwS 3 hts (cg_S ck_174 ck_177 ck_178 ck_179) rfl rfl rfl (by decide +kernel) ⟨Nat.le_of_ble_eq_true rfl, Nat.le_of_ble_eq_true rfl⟩) rfl (Nat.le_of_ble_eq_true rfl) dJ0_checkIndex_df160_5 ⟨Nat.le_refl _, Nat.le_refl _⟩) (fun _ => wback [] rfl rfl) (fun H locs _ _ X => ?_)
    refine lv_pop hx hb dJ0_checkIndex_df160_8 rfl ?_
    exact cfin_V (()) (trivial) (rfl) X dJ0_checkIndex_df160_9 fin
set_option maxHeartbeats 4000000 in
set_option maxRecDepth 100000 in
theorem k901_charAt_3b067 {E : (Nat → Prop) → State → Heap → Prop} (hE : cEok E) {l : Launch} {D : va_G} {Z : Nat → ClassId} {ad av : Nat → Nat} {i : Nat} (xk : Nat) (hS : cStr E ad av) (hi : i < 6) (hk : xk < fLEN.getD i 0) : dtI E l D Z yJ1_charAt_3b067 (Cond.code yJ1_charAt_3b067 cJ1_charAt_3b067 2 (some .char) :: cW) { frames := 2, cells := 0, slots := 0, locals := 43 } [.ref (av i), .int (nI xk)] (wcat []) (S := Unit) (fun _ => wcat []) (fun _ => nI (fch i xk)) (fun _ => True) := by
  refine dtC_of hE (cc := cJ1_charAt_3b067) (maxL := 2) (ty := .char) (hnar := fun _ _ => znarC _ (fch_lt i hi xk hk)) (by decide +kernel) (fun w h => List.mem_cons_of_mem _ h) (Nat.le_of_ble_eq_true rfl) ?_
  intro p e s m args below meth c A Q ls hx hb hml hown hts G X hl fin
  replace hl : lv_has ls 2 [(0, .ref (av i)), (1, .int (nI xk))] := hl
  have hst := hS _ _ _ G.2.2.2.2.2.2.1
  have hle := fLEN_le i hi
  have hfl := fch_lt i hi xk hk
  refine lv_iload_n hx hb dJ1_charAt_3b067_0 rfl (lv_at hl 1 rfl) ?_
  refine lv_aload_n hx hb dJ1_charAt_3b067_1 rfl (lv_at hl 0 rfl) ?_
  refine va_tlen hx hb (hst.1.1 i hi).2.2.2 X.2.2 (v := nI (fLEN.getD i 0)) rfl dJ1_charAt_3b067_2 ?_
  refine dtV_go (w := wcat []) (wf := wcat []) (W1 := fun _ => wcat []) G X (wsel [] rfl rfl) (run_S (As := [.int (nI xk), .int (nI (fLEN.getD i 0))]) (rest := []) (n := 2) G hml hts hl.1 (k900_checkIndex_df160 hE xk (fLEN.getD i 0) hS hk (by omega) _) (va_cwS 2 hts (cg_S ck_175 ck_181 ck_182 ck_172) rfl rfl rfl (by decide +kernel) ⟨Nat.le_of_ble_eq_true rfl, Nat.le_of_ble_eq_true rfl⟩) rfl (Nat.le_of_ble_eq_true rfl) dJ1_charAt_3b067_3 ⟨Nat.le_refl _, Nat.le_refl _⟩) (fun _ => wback [] rfl rfl) (fun H locs _ _ X => ?_)
  refine lv_aload_n hx hb dJ1_charAt_3b067_6 rfl (lv_at hl 0 rfl) ?_
  refine lv_iload_n hx hb dJ1_charAt_3b067_7 rfl (lv_at hl 1 rfl) ?_
  refine va_tb hx hb (hst.1.1 i hi).2.2.2 X.2.2 (vp_in_nI (hk) (by omega)) (v := .int ((fBYT.getD i []).getD xk 0)) (by rw [nI_clamp (by omega)]) dJ1_charAt_3b067_8 ?_
  refine gi_to (a := (fch i xk)) (fch_is i hi xk hk) ?_
  refine lv_sipush (v := nI 255) hx hb dJ1_charAt_3b067_9 (by decide) ?_
  refine lv_iand hx hb dJ1_charAt_3b067_12 ?_
  refine gi_to (a := (fch i xk) % 256) (zand _ 8 (by decide) (by decide)) ?_
  refine gi_eq (a := fch i xk) (Nat.mod_eq_of_lt (by omega)) ?_
  refine lv_i2c (v := (nI (fch i xk))) hx hb dJ1_charAt_3b067_13 (zi2c _ (by omega)) ?_
  exact cfin_I (()) (trivial) (rfl) (rfl) X dJ1_charAt_3b067_14 fin
set_option maxHeartbeats 4000000 in
set_option maxRecDepth 100000 in
theorem k900_charAt_5068e {E : (Nat → Prop) → State → Heap → Prop} (hE : cEok E) {l : Launch} {D : va_G} {Z : Nat → ClassId} {ad av : Nat → Nat} {i : Nat} (xk : Nat) (hS : cStr E ad av) (hi : i < 6) (hk : xk < fLEN.getD i 0) : dtI E l D Z yJ0_charAt_5068e (Cond.code yJ0_charAt_5068e cJ0_charAt_5068e 2 (some .char) :: cW) { frames := 3, cells := 0, slots := 0, locals := 64 } [.ref (ad i), .int (nI xk)] (wcat []) (S := Unit) (fun _ => wcat []) (fun _ => nI (fch i xk)) (fun _ => True) := by
  refine dtC_of hE (cc := cJ0_charAt_5068e) (maxL := 2) (ty := .char) (hnar := fun _ _ => znarC _ (fch_lt i hi xk hk)) (by decide +kernel) (fun w h => List.mem_cons_of_mem _ h) (Nat.le_of_ble_eq_true rfl) ?_
  intro p e s m args below meth c A Q ls hx hb hml hown hts G X hl fin
  replace hl : lv_has ls 2 [(0, .ref (ad i)), (1, .int (nI xk))] := hl
  have hst := hS _ _ _ G.2.2.2.2.2.2.1
  have hfl := fch_lt i hi xk hk
  refine lv_aload_n hx hb dJ0_charAt_5068e_0 rfl (lv_at hl 0 rfl) ?_
  refine dtI_go (w := wcat []) (wf := wcat []) (W1 := fun _ => wcat []) G X (wsel [] rfl rfl) (run_V (As := []) (rest := []) (n := 0) G hml hts hl.1 (vk_recv hst.1 hi X.2.2) (k900_isLatin1_aae02 hE (i := i)  hS hi  _) (cwV 0 hts (cg_V ck_173 ck_198 ck_199 ck_200 ck_172) rfl rfl rfl (by decide +kernel) ⟨Nat.le_of_ble_eq_true rfl, Nat.le_of_ble_eq_true rfl⟩) rfl (Nat.le_of_ble_eq_true rfl) dJ0_charAt_5068e_1 ⟨Nat.le_refl _, Nat.le_refl _⟩) (fun _ => wback [] rfl rfl) (fun H locs _ _ X => ?_)
  refine gn_if_eq (tgt := 16) hx hb dJ0_charAt_5068e_4 (by decide) (by omega) (fun c_4 => ?_) (fun c_4 => ?_)
  · exact absurd c_4 (by decide)
  ·
    refine lv_aload_n hx hb dJ0_charAt_5068e_7 rfl (lv_at hl 0 rfl) ?_
    refine vk_getf hx hb (hst.1.1 i hi).2.2.1 X.2.2 hown (G.2.2.2.1 _ ck_164) (fun _ h => h) dJ0_charAt_5068e_8 ?_
    refine lv_iload_n hx hb dJ0_charAt_5068e_11 rfl (lv_at hl 1 rfl) ?_
    refine dtI_go (w := wcat []) (wf := wcat []) (W1 := fun _ => wcat []) G X (wsel [] rfl rfl) (run_S (As := [.ref (av i), .int (nI xk)]) (rest := []) (n := 2) G hml hts hl.1 (k901_charAt_3b067 hE (i := i) xk hS hi hk _) (va_cwS 2 hts (cg_S ck_180 ck_201 ck_202 ck_203) rfl rfl rfl (by decide +kernel) ⟨Nat.le_of_ble_eq_true rfl, Nat.le_of_ble_eq_true rfl⟩) rfl (Nat.le_of_ble_eq_true rfl) dJ0_charAt_5068e_12 ⟨Nat.le_refl _, Nat.le_refl _⟩) (fun _ => wback [] rfl rfl) (fun H locs _ _ X => ?_)
    exact cfin_I (()) (trivial) (rfl) (rfl) X dJ0_charAt_5068e_15 fin
