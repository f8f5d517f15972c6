section LC
variable {p : Program} {l : Launch} {e : Env} {s : State} {m : MethodId} {args : Array Value} {below : List Frame} {meth : Method} {c : Code} {H : Heap} {locs : List Loc} {cells slots : Nat} {Q : State → Prop}
variable {pc : Nat} {ls : Array Slot} {rest : List Value} {D : va_G} {A : Nat → Prop} {ad av : Nat → Nat} {b L i : Nat} {xs : Nat → Int32}
variable {Z : Nat → ClassId} {an : Nat × Nat × Nat} {wo vq : Nat} {La Li Lt : LA} {tm ta tb tc : Nat × Nat × Nat} {rd : Nat × Nat} {rp rk mo : Nat} {mq : Nat → Nat} {oq : Nat} {σ τ τi : MS} {F F5 : Nat → Nat} {hi : Nat}
set_option maxHeartbeats 4000000 in
set_option maxRecDepth 100000 in
theorem law_image (J : lG ad av p l c s m args D Z A b L xs) (hi6 : i + 6 ≤ L) (hrm : ∀ k n : Nat, k ≤ 6 → n ≤ 102 → cells + k ≤ room_1.cells ∧ slots + n ≤ room_1.slots) (h : zRel σ τ τi F F5 hi) (I : lInv Z an wo vq La Li Lt tm ta tb tc rd rp rk mo mq oq D A s.heap H locs σ τ τi F F5 hi) (hl : lv_has ls 8 [(4, .int (nI i)), (3, .ref oq), (2, .ref mo), (1, .ref an.1), (0, .ref b)])
    (back : ∀ (σ τ τi : MS) (F F5 : Nat → Nat) (hi : Nat) (H : Heap) (locs : List Loc) (ls : Array Slot), zRel σ τ τi F F5 hi → lInv Z an wo vq La Li Lt tm ta tb tc rd rp rk mo mq oq D A s.heap H locs σ τ τi F F5 hi → lv_has ls 8 [(4, .int (nI i)), (3, .ref oq), (2, .ref mo), (1, .ref an.1), (0, .ref b)] → W p l e room_1 s m args below meth c H locs (cells + 6) (slots + 102) Q (F0 m 1505 ls [])) : W p l e room_1 s m args below meth c H locs cells slots Q (F0 m 1105 ls []) := by
  obtain ⟨τt, sb, sc, FM, KM, vv, K, K5, F3, K3, rq, g, r0, a4, a5, a6, a7, a8, a9, a10, a11, b0, hz, X⟩ := I
  have G := J.1
  have hml := J.2.1
  have hts := J.2.2.1
  have hst9 := J.2.2.2.1
  have hx := G.1
  have hb := G.2.1
  have h1 := lSt15 (v := 0) h
  have es0 := lsh15 (Z := Z) (sb := sb) (sc := sc) (σ := σ) (v := 0)
  rw [es0.1, es0.2] at X
  clear es0
  obtain ⟨σ1, e15⟩ : ∃ z, z = sF σ 15 0 := ⟨_, rfl⟩
  rw [← e15] at X h1
  refine lv_aload_n hx hb dL_law_1105 rfl (lv_at hl 3 rfl) ?_
  refine dtI_go (S := Unit) (w := wcat [anP Z an wo La.1 Li.1 Lt.1 ta.1 tb.1 tc.1 rd.1 rp rk hi sb (σ1.2 41), landP Z La τ, landP Z Li τi, thP Z ta F K, thP Z tb F5 K5]) (wf := wcat [wkP Z (wo, La.1, tm.1, vq) r0 a4 a5 a6 a7 a8 a9 a10 a11 vv, landP Z Lt τt, thP Z tm FM KM, thP Z tc F3 K3, rdP Z rd b0 rq, ruP rp 0 0, ruP rk 3 0, shOn (shF Z sb sc σ1) 8, mw mo mq 12 (Z 0) (Z 1) σ, elO Z oq g]) (w' := fun _ => wcat [anP Z an wo La.1 Li.1 Lt.1 ta.1 tb.1 tc.1 rd.1 rp rk 1 sb (σ1.2 41), landP Z La τ, landP Z Li (zlike τi τ), thP Z ta F K, thP Z tb F K5]) (W1 := fun _ => wcat [anP Z an wo La.1 Li.1 Lt.1 ta.1 tb.1 tc.1 rd.1 rp rk 1 sb (σ1.2 41), wkP Z (wo, La.1, tm.1, vq) r0 a4 a5 a6 a7 a8 a9 a10 a11 vv, landP Z La τ, landP Z Li (zlike τi τ), landP Z Lt τt, thP Z tm FM KM, thP Z ta F K, thP Z tb F K5, thP Z tc F3 K3, rdP Z rd b0 rq, ruP rp 0 0, ruP rk 3 0, shOn (shF Z sb sc σ1) 8, mw mo mq 12 (Z 0) (Z 1) σ, elO Z oq g]) G X (wsel2 [0, 2, 3, 6, 7, 1, 4, 5, 8, 9, 10, 11, 12, 13, 14] 15 rfl rfl rfl) (run_V (As := []) (rest := []) (n := 0) G hml hts hl.1 (p_recv G X 0 0 rfl rfl rfl) (k11_image (lE_ok ad av)  _) (cwV 0 hts (gg_W lT_good (fun v h => lT_c h) (lT_c ck_694) (lT_l (List.mem_of_getElem? (i := 149) rfl)) (lT_l (List.mem_of_getElem? (i := 150) rfl)) (lT_l (List.mem_of_getElem? (i := 151) rfl)) (lT_l (List.mem_of_getElem? (i := 2) rfl))) rfl rfl rfl (by decide +kernel) ⟨Nat.le_of_ble_eq_true rfl, Nat.le_of_ble_eq_true rfl⟩) rfl (Nat.le_of_ble_eq_true rfl) dL_law_1106 (hrm _ _ (Nat.le_of_ble_eq_true rfl) (Nat.le_of_ble_eq_true rfl))) (fun _ => wback2 [0, 2, 3, 6, 7, 1, 4, 5, 8, 9, 10, 11, 12, 13, 14] 15 rfl rfl rfl) (fun H locs _ _ X => ?_)
  refine lv_aload_n hx hb dL_law_1109 rfl (lv_at hl 2 rfl) ?_
  refine ctI_V (w := mw mo mq 12 (Z 0) (Z 1) σ) (wf := wcat [anP Z an wo La.1 Li.1 Lt.1 ta.1 tb.1 tc.1 rd.1 rp rk 1 sb (σ1.2 41), wkP Z (wo, La.1, tm.1, vq) r0 a4 a5 a6 a7 a8 a9 a10 a11 vv, landP Z La τ, landP Z Li (zlike τi τ), landP Z Lt τt, thP Z tm FM KM, thP Z ta F K, thP Z tb F K5, thP Z tc F3 K3, rdP Z rd b0 rq, ruP rp 0 0, ruP rk 3 0, shOn (shF Z sb sc σ1) 8, elO Z oq g]) (As := []) (rest := [.int (nI (τ.1 4))]) (n := 0) hx hb hml G.2.2.1 hts G.2.2.2.2.1 G.2.2.2.2.2.2.2 (wh_perm (lsel [13, 0, 1, 2, 3, 4, 5, 6, 7, 8, 9, 10, 11, 12, 14] 15 rfl rfl rfl) X) hl.1 (p_recv G X 13 0 rfl rfl rfl) (c_image2 rfl rfl rfl e15  (zmvO_of h1.1.1 h1.1.2.2.1)) (cwV 0 hts (gg_W lT_good (fun v h => lT_m h) (lT_m mk_278) (lT_l (List.mem_of_getElem? (i := 152) rfl)) (lT_l (List.mem_of_getElem? (i := 153) rfl)) (lT_l (List.mem_of_getElem? (i := 154) rfl)) (lT_l (List.mem_of_getElem? (i := 5) rfl))) rfl rfl rfl (by decide +kernel) ⟨Nat.le_of_ble_eq_true rfl, Nat.le_of_ble_eq_true rfl⟩) rfl (Nat.le_of_ble_eq_true rfl) dL_law_1110 (hrm _ _ (Nat.le_of_ble_eq_true rfl) (Nat.le_of_ble_eq_true rfl)) (fun H locs  X => ?_)
  refine lv_icmp_eq (tgt := 1505) hx hb dL_law_1113 (by decide) (fun _ => ?_) (fun q9 => absurd (congrArg nI (lk_4 (zRel_ag h1))).symm q9)
  have es : shF Z sb sc σ1 = shF Z sb sc (zimgT σ1) ∧ σ1.2 41 = (zimgT σ1).2 41 := (lsh fun j q1 q2 => zimg_2 (by omega))
  rw [es.1, es.2] at X
  refine W.widen (k := cells + 6) (n := slots + 102) (Nat.add_le_add_left (Nat.le_of_ble_eq_true rfl) _) (Nat.add_le_add_left (Nat.le_of_ble_eq_true rfl) _) ?_
  exact back _ _ _ _ _ _ H locs ls (zRel_image h1) ⟨τt, sb, sc, FM, KM, vv, K, K5, F3, K3, rq, g, r0, a4, a5, a6, a7, a8, a9, a10, a11, b0, hz, wh_perm (lback [13, 0, 1, 2, 3, 4, 5, 6, 7, 8, 9, 10, 11, 12, 14] 15 rfl rfl rfl) X⟩ hl
set_option maxHeartbeats 4000000 in
set_option maxRecDepth 100000 in
theorem law_restore (J : lG ad av p l c s m args D Z A b L xs) (hi6 : i + 6 ≤ L) (hrm : ∀ k n : Nat, k ≤ 6 → n ≤ 102 → cells + k ≤ room_1.cells ∧ slots + n ≤ room_1.slots) (h : zRel σ τ τi F F5 hi) (I : lInv Z an wo vq La Li Lt tm ta tb tc rd rp rk mo mq oq D A s.heap H locs σ τ τi F F5 hi) (hl : lv_has ls 8 [(4, .int (nI i)), (3, .ref oq), (2, .ref mo), (1, .ref an.1), (0, .ref b)])
    (back : ∀ (σ τ τi : MS) (F F5 : Nat → Nat) (hi : Nat) (H : Heap) (locs : List Loc) (ls : Array Slot), zRel σ τ τi F F5 hi → lInv Z an wo vq La Li Lt tm ta tb tc rd rp rk mo mq oq D A s.heap H locs σ τ τi F F5 hi → lv_has ls 8 [(4, .int (nI i)), (3, .ref oq), (2, .ref mo), (1, .ref an.1), (0, .ref b)] → W p l e room_1 s m args below meth c H locs (cells + 6) (slots + 102) Q (F0 m 1505 ls [])) : W p l e room_1 s m args below meth c H locs cells slots Q (F0 m 1118 ls []) := by
  obtain ⟨τt, sb, sc, FM, KM, vv, K, K5, F3, K3, rq, g, r0, a4, a5, a6, a7, a8, a9, a10, a11, b0, hz, X⟩ := I
  have G := J.1
  have hml := J.2.1
  have hts := J.2.2.1
  have hst9 := J.2.2.2.1
  have hx := G.1
  have hb := G.2.1
  have h1 := lSt15 (v := 0) h
  have es0 := lsh15 (Z := Z) (sb := sb) (sc := sc) (σ := σ) (v := 0)
  rw [es0.1, es0.2] at X
  clear es0
  obtain ⟨σ1, e15⟩ : ∃ z, z = sF σ 15 0 := ⟨_, rfl⟩
  rw [← e15] at X h1
  refine lv_aload_n hx hb dL_law_1118 rfl (lv_at hl 3 rfl) ?_
  refine dtI_go (S := Unit) (w := wcat [anP Z an wo La.1 Li.1 Lt.1 ta.1 tb.1 tc.1 rd.1 rp rk hi sb (σ1.2 41), landP Z La τ, landP Z Li τi, thP Z ta F K, thP Z tb F5 K5]) (wf := wcat [wkP Z (wo, La.1, tm.1, vq) r0 a4 a5 a6 a7 a8 a9 a10 a11 vv, landP Z Lt τt, thP Z tm FM KM, thP Z tc F3 K3, rdP Z rd b0 rq, ruP rp 0 0, ruP rk 3 0, shOn (shF Z sb sc σ1) 8, mw mo mq 12 (Z 0) (Z 1) σ, elO Z oq g]) (w' := fun _ => wcat [anP Z an wo La.1 Li.1 Lt.1 ta.1 tb.1 tc.1 rd.1 rp rk hi sb (σ1.2 41), landP Z La (if hi = 0 then τ else zwork (zlike τ τi)), landP Z Li τi, thP Z ta (if hi = 0 then F else F5) K, thP Z tb F5 K5]) (W1 := fun _ => wcat [anP Z an wo La.1 Li.1 Lt.1 ta.1 tb.1 tc.1 rd.1 rp rk hi sb (σ1.2 41), wkP Z (wo, La.1, tm.1, vq) r0 a4 a5 a6 a7 a8 a9 a10 a11 vv, landP Z La (if hi = 0 then τ else zwork (zlike τ τi)), landP Z Li τi, landP Z Lt τt, thP Z tm FM KM, thP Z ta (if hi = 0 then F else F5) K, thP Z tb F5 K5, thP Z tc F3 K3, rdP Z rd b0 rq, ruP rp 0 0, ruP rk 3 0, shOn (shF Z sb sc σ1) 8, mw mo mq 12 (Z 0) (Z 1) σ, elO Z oq g]) G X (wsel2 [0, 2, 3, 6, 7, 1, 4, 5, 8, 9, 10, 11, 12, 13, 14] 15 rfl rfl rfl) (run_V (As := []) (rest := []) (n := 0) G hml hts hl.1 (p_recv G X 0 0 rfl rfl rfl) (k11_restore (lE_ok ad av) h1.2.2.2.1 (lzk h1).1 (lzk h1).2.1 (lzk h1).2.2 _) (cwV 0 hts (gg_W lT_good (fun v h => lT_c h) (lT_c ck_695) (lT_l (List.mem_of_getElem? (i := 155) rfl)) (lT_l (List.mem_of_getElem? (i := 156) rfl)) (lT_l (List.mem_of_getElem? (i := 157) rfl)) (lT_l (List.mem_of_getElem? (i := 2) rfl))) rfl rfl rfl (by decide +kernel) ⟨Nat.le_of_ble_eq_true rfl, Nat.le_of_ble_eq_true rfl⟩) rfl (Nat.le_of_ble_eq_true rfl) dL_law_1119 (hrm _ _ (Nat.le_of_ble_eq_true rfl) (Nat.le_of_ble_eq_true rfl))) (fun _ => wback2 [0, 2, 3, 6, 7, 1, 4, 5, 8, 9, 10, 11, 12, 13, 14] 15 rfl rfl rfl) (fun H locs _ _ X => ?_)
  refine lv_aload_n hx hb dL_law_1122 rfl (lv_at hl 2 rfl) ?_
  refine ctI_V (w := mw mo mq 12 (Z 0) (Z 1) σ) (wf := wcat [anP Z an wo La.1 Li.1 Lt.1 ta.1 tb.1 tc.1 rd.1 rp rk hi sb (σ1.2 41), wkP Z (wo, La.1, tm.1, vq) r0 a4 a5 a6 a7 a8 a9 a10 a11 vv, landP Z La (if hi = 0 then τ else zwork (zlike τ τi)), landP Z Li τi, landP Z Lt τt, thP Z tm FM KM, thP Z ta (if hi = 0 then F else F5) K, thP Z tb F5 K5, thP Z tc F3 K3, rdP Z rd b0 rq, ruP rp 0 0, ruP rk 3 0, shOn (shF Z sb sc σ1) 8, elO Z oq g]) (As := []) (rest := [.int (if hi = 0 then -3 else nI (τi.1 4))]) (n := 0) hx hb hml G.2.2.1 hts G.2.2.2.2.1 G.2.2.2.2.2.2.2 (wh_perm (lsel [13, 0, 1, 2, 3, 4, 5, 6, 7, 8, 9, 10, 11, 12, 14] 15 rfl rfl rfl) X) hl.1 (p_recv G X 13 0 rfl rfl rfl) (c_restore2 rfl rfl rfl e15  (zmvO_of h1.1.1 h1.1.2.2.1) (lhi h1)) (cwV 0 hts (gg_W lT_good (fun v h => lT_m h) (lT_m mk_279) (lT_l (List.mem_of_getElem? (i := 158) rfl)) (lT_l (List.mem_of_getElem? (i := 159) rfl)) (lT_l (List.mem_of_getElem? (i := 160) rfl)) (lT_l (List.mem_of_getElem? (i := 5) rfl))) rfl rfl rfl (by decide +kernel) ⟨Nat.le_of_ble_eq_true rfl, Nat.le_of_ble_eq_true rfl⟩) rfl (Nat.le_of_ble_eq_true rfl) dL_law_1123 (hrm _ _ (Nat.le_of_ble_eq_true rfl) (Nat.le_of_ble_eq_true rfl)) (fun H locs  X => ?_)
  refine lv_icmp_eq (tgt := 1505) hx hb dL_law_1126 (by decide) (fun _ => ?_) (fun q9 => absurd (zRel_restore h1).2.symm q9)
  have es : shF Z sb sc σ1 = shF Z sb sc (zresT σ1) ∧ σ1.2 41 = (zresT σ1).2 41 := (lsh fun j q1 q2 => lre2 q1)
  rw [es.1, es.2] at X
  refine W.widen (k := cells + 6) (n := slots + 102) (Nat.add_le_add_left (Nat.le_of_ble_eq_true rfl) _) (Nat.add_le_add_left (Nat.le_of_ble_eq_true rfl) _) ?_
  exact back _ _ _ _ _ _ H locs ls ((zRel_restore h1).1) ⟨τt, sb, sc, FM, KM, vv, K, K5, F3, K3, rq, g, r0, a4, a5, a6, a7, a8, a9, a10, a11, b0, hz, wh_perm (lback [13, 0, 1, 2, 3, 4, 5, 6, 7, 8, 9, 10, 11, 12, 14] 15 rfl rfl rfl) X⟩ hl
set_option maxHeartbeats 4000000 in
set_option maxRecDepth 100000 in
theorem law_count (J : lG ad av p l c s m args D Z A b L xs) (hi6 : i + 6 ≤ L) (hrm : ∀ k n : Nat, k ≤ 6 → n ≤ 102 → cells + k ≤ room_1.cells ∧ slots + n ≤ room_1.slots) (h : zRel σ τ τi F F5 hi) (I : lInv Z an wo vq La Li Lt tm ta tb tc rd rp rk mo mq oq D A s.heap H locs σ τ τi F F5 hi) (hl : lv_has ls 8 [(4, .int (nI i)), (3, .ref oq), (2, .ref mo), (1, .ref an.1), (0, .ref b)])
    (back : ∀ (σ τ τi : MS) (F F5 : Nat → Nat) (hi : Nat) (H : Heap) (locs : List Loc) (ls : Array Slot), zRel σ τ τi F F5 hi → lInv Z an wo vq La Li Lt tm ta tb tc rd rp rk mo mq oq D A s.heap H locs σ τ τi F F5 hi → lv_has ls 8 [(4, .int (nI i)), (3, .ref oq), (2, .ref mo), (1, .ref an.1), (0, .ref b)] → W p l e room_1 s m args below meth c H locs (cells + 6) (slots + 102) Q (F0 m 1505 ls [])) : W p l e room_1 s m args below meth c H locs cells slots Q (F0 m 1131 ls []) := by
  obtain ⟨τt, sb, sc, FM, KM, vv, K, K5, F3, K3, rq, g, r0, a4, a5, a6, a7, a8, a9, a10, a11, b0, hz, X⟩ := I
  have G := J.1
  have hml := J.2.1
  have hts := J.2.2.1
  have hst9 := J.2.2.2.1
  have hx := G.1
  have hb := G.2.1
  have h1 := lSt15 (v := 0) h
  have es0 := lsh15 (Z := Z) (sb := sb) (sc := sc) (σ := σ) (v := 0)
  rw [es0.1, es0.2] at X
  clear es0
  obtain ⟨σ1, e15⟩ : ∃ z, z = sF σ 15 0 := ⟨_, rfl⟩
  rw [← e15] at X h1
  refine lv_aload_n hx hb dL_law_1131 rfl (lv_at hl 3 rfl) ?_
  refine l_arg J hi6 1 (by decide) X hl (List.mem_of_getElem? (i := 0) rfl) (List.mem_of_getElem? (i := 4) rfl) dL_law_1132 dL_law_1133 dL_law_1135 dL_law_1136 dL_law_1137 ?_
  refine dtI_go (S := Unit) (w := wcat [anP Z an wo La.1 Li.1 Lt.1 ta.1 tb.1 tc.1 rd.1 rp rk hi sb (σ1.2 41), landP Z La τ]) (wf := wcat [wkP Z (wo, La.1, tm.1, vq) r0 a4 a5 a6 a7 a8 a9 a10 a11 vv, landP Z Li τi, landP Z Lt τt, thP Z tm FM KM, thP Z ta F K, thP Z tb F5 K5, thP Z tc F3 K3, rdP Z rd b0 rq, ruP rp 0 0, ruP rk 3 0, shOn (shF Z sb sc σ1) 8, mw mo mq 12 (Z 0) (Z 1) σ, elO Z oq g]) (w' := fun _ => wcat [anP Z an wo La.1 Li.1 Lt.1 ta.1 tb.1 tc.1 rd.1 rp rk hi sb (σ1.2 41), landP Z La τ]) (W1 := fun _ => wcat [anP Z an wo La.1 Li.1 Lt.1 ta.1 tb.1 tc.1 rd.1 rp rk hi sb (σ1.2 41), wkP Z (wo, La.1, tm.1, vq) r0 a4 a5 a6 a7 a8 a9 a10 a11 vv, landP Z La τ, landP Z Li τi, landP Z Lt τt, thP Z tm FM KM, thP Z ta F K, thP Z tb F5 K5, thP Z tc F3 K3, rdP Z rd b0 rq, ruP rp 0 0, ruP rk 3 0, shOn (shF Z sb sc σ1) 8, mw mo mq 12 (Z 0) (Z 1) σ, elO Z oq g]) G X (wsel2 [0, 2, 1, 3, 4, 5, 6, 7, 8, 9, 10, 11, 12, 13, 14] 15 rfl rfl rfl) (run_V (As := [.int (xs (i + 1))]) (rest := []) (n := 1) G hml hts hl.1 (p_recv G X 0 0 rfl rfl rfl) (k11_count (lE_ok ad av) (xs (i + 1)) (h1.2.1.2.2.1.1) _) (cwV 1 hts (gg_W lT_good (fun v h => lT_c h) (lT_c ck_696) (lT_l (List.mem_of_getElem? (i := 161) rfl)) (lT_l (List.mem_of_getElem? (i := 162) rfl)) (lT_l (List.mem_of_getElem? (i := 163) rfl)) (lT_l (List.mem_of_getElem? (i := 2) rfl))) rfl rfl rfl (by decide +kernel) ⟨Nat.le_of_ble_eq_true rfl, Nat.le_of_ble_eq_true rfl⟩) rfl (Nat.le_of_ble_eq_true rfl) dL_law_1138 (hrm _ _ (Nat.le_of_ble_eq_true rfl) (Nat.le_of_ble_eq_true rfl))) (fun _ => wback2 [0, 2, 1, 3, 4, 5, 6, 7, 8, 9, 10, 11, 12, 13, 14] 15 rfl rfl rfl) (fun H locs _ _ X => ?_)
  refine lv_aload_n hx hb dL_law_1141 rfl (lv_at hl 2 rfl) ?_
  refine l_arg J hi6 1 (by decide) X hl (List.mem_of_getElem? (i := 0) rfl) (List.mem_of_getElem? (i := 4) rfl) dL_law_1142 dL_law_1143 dL_law_1145 dL_law_1146 dL_law_1147 ?_
  refine ctIP_V (w := mw mo mq 12 (Z 0) (Z 1) σ) (wf := wcat [anP Z an wo La.1 Li.1 Lt.1 ta.1 tb.1 tc.1 rd.1 rp rk hi sb (σ1.2 41), wkP Z (wo, La.1, tm.1, vq) r0 a4 a5 a6 a7 a8 a9 a10 a11 vv, landP Z La τ, landP Z Li τi, landP Z Lt τt, thP Z tm FM KM, thP Z ta F K, thP Z tb F5 K5, thP Z tc F3 K3, rdP Z rd b0 rq, ruP rp 0 0, ruP rk 3 0, shOn (shF Z sb sc σ1) 8, elO Z oq g]) (As := [.int (xs (i + 1))]) (rest := [.int (zcountS τ (xs (i + 1)))]) (n := 1) hx hb hml G.2.2.1 hts G.2.2.2.2.1 G.2.2.2.2.2.2.2 (wh_perm (lsel [13, 0, 1, 2, 3, 4, 5, 6, 7, 8, 9, 10, 11, 12, 14] 15 rfl rfl rfl) X) hl.1 (p_recv G X 13 0 rfl rfl rfl) (c_count rfl rfl rfl e15 (xs (i + 1)) h1.1.1.1 h1.1.2.1) (cwV 1 hts (gg_W lT_good (fun v h => lT_m h) (lT_m mk_280) (lT_l (List.mem_of_getElem? (i := 164) rfl)) (lT_l (List.mem_of_getElem? (i := 165) rfl)) (lT_l (List.mem_of_getElem? (i := 166) rfl)) (lT_l (List.mem_of_getElem? (i := 5) rfl))) rfl rfl rfl (by decide +kernel) ⟨Nat.le_of_ble_eq_true rfl, Nat.le_of_ble_eq_true rfl⟩) rfl (Nat.le_of_ble_eq_true rfl) dL_law_1148 (hrm _ _ (Nat.le_of_ble_eq_true rfl) (Nat.le_of_ble_eq_true rfl)) (fun H locs u9 hu X => ?_)
  refine lv_icmp_eq (tgt := 1505) hx hb dL_law_1151 (by decide) (fun _ => ?_) (fun q9 => absurd (lk_count (zRel_ag h1)) q9)
  have es : shF Z sb sc σ1 = shF Z sb sc u9 ∧ σ1.2 41 = u9.2 41 := (lshE hu)
  rw [es.1, es.2] at X
  refine W.widen (k := cells + 6) (n := slots + 102) (Nat.add_le_add_left (Nat.le_of_ble_eq_true rfl) _) (Nat.add_le_add_left (Nat.le_of_ble_eq_true rfl) _) ?_
  exact back _ _ _ _ _ _ H locs ls (zRel_St h1 (mEq_St hu)) ⟨τt, sb, sc, FM, KM, vv, K, K5, F3, K3, rq, g, r0, a4, a5, a6, a7, a8, a9, a10, a11, b0, hz, wh_perm (lback [13, 0, 1, 2, 3, 4, 5, 6, 7, 8, 9, 10, 11, 12, 14] 15 rfl rfl rfl) X⟩ hl
set_option maxHeartbeats 4000000 in
set_option maxRecDepth 100000 in
theorem law_keep (J : lG ad av p l c s m args D Z A b L xs) (hi6 : i + 6 ≤ L) (hrm : ∀ k n : Nat, k ≤ 6 → n ≤ 102 → cells + k ≤ room_1.cells ∧ slots + n ≤ room_1.slots) (h : zRel σ τ τi F F5 hi) (I : lInv Z an wo vq La Li Lt tm ta tb tc rd rp rk mo mq oq D A s.heap H locs σ τ τi F F5 hi) (hl : lv_has ls 8 [(4, .int (nI i)), (3, .ref oq), (2, .ref mo), (1, .ref an.1), (0, .ref b)])
    (back : ∀ (σ τ τi : MS) (F F5 : Nat → Nat) (hi : Nat) (H : Heap) (locs : List Loc) (ls : Array Slot), zRel σ τ τi F F5 hi → lInv Z an wo vq La Li Lt tm ta tb tc rd rp rk mo mq oq D A s.heap H locs σ τ τi F F5 hi → lv_has ls 8 [(4, .int (nI i)), (3, .ref oq), (2, .ref mo), (1, .ref an.1), (0, .ref b)] → W p l e room_1 s m args below meth c H locs (cells + 6) (slots + 102) Q (F0 m 1505 ls [])) : W p l e room_1 s m args below meth c H locs cells slots Q (F0 m 1156 ls []) := by
  obtain ⟨τt, sb, sc, FM, KM, vv, K, K5, F3, K3, rq, g, r0, a4, a5, a6, a7, a8, a9, a10, a11, b0, hz, X⟩ := I
  have G := J.1
  have hml := J.2.1
  have hts := J.2.2.1
  have hst9 := J.2.2.2.1
  have hx := G.1
  have hb := G.2.1
  have h1 := lSt15 (v := 0) h
  have es0 := lsh15 (Z := Z) (sb := sb) (sc := sc) (σ := σ) (v := 0)
  rw [es0.1, es0.2] at X
  clear es0
  obtain ⟨σ1, e15⟩ : ∃ z, z = sF σ 15 0 := ⟨_, rfl⟩
  rw [← e15] at X h1
  refine lv_aload_n hx hb dL_law_1156 rfl (lv_at hl 3 rfl) ?_
  refine l_arg J hi6 1 (by decide) X hl (List.mem_of_getElem? (i := 0) rfl) (List.mem_of_getElem? (i := 4) rfl) dL_law_1157 dL_law_1158 dL_law_1160 dL_law_1161 dL_law_1162 ?_
  refine l_arg J hi6 2 (by decide) X hl (List.mem_of_getElem? (i := 0) rfl) (List.mem_of_getElem? (i := 4) rfl) dL_law_1163 dL_law_1164 dL_law_1166 dL_law_1167 dL_law_1168 ?_
  refine l_arg J hi6 3 (by decide) X hl (List.mem_of_getElem? (i := 0) rfl) (List.mem_of_getElem? (i := 4) rfl) dL_law_1169 dL_law_1170 dL_law_1172 dL_law_1173 dL_law_1174 ?_
  refine l_arg J hi6 4 (by decide) X hl (List.mem_of_getElem? (i := 0) rfl) (List.mem_of_getElem? (i := 4) rfl) dL_law_1175 dL_law_1176 dL_law_1178 dL_law_1179 dL_law_1180 ?_
  refine dtI_go (S := ((Nat → Nat) × (Nat → Nat))) (w := wcat [anP Z an wo La.1 Li.1 Lt.1 ta.1 tb.1 tc.1 rd.1 rp rk hi sb (σ1.2 41), shOn (shF Z sb sc σ1) 8]) (wf := wcat [wkP Z (wo, La.1, tm.1, vq) r0 a4 a5 a6 a7 a8 a9 a10 a11 vv, landP Z La τ, landP Z Li τi, landP Z Lt τt, thP Z tm FM KM, thP Z ta F K, thP Z tb F5 K5, thP Z tc F3 K3, rdP Z rd b0 rq, ruP rp 0 0, ruP rk 3 0, mw mo mq 12 (Z 0) (Z 1) σ, elO Z oq g]) (w' := fun v9 => wcat [anP Z an wo La.1 Li.1 Lt.1 ta.1 tb.1 tc.1 rd.1 rp rk hi v9.1 ((zkeepTT σ1 (xs (i + 1)) (xs (i + 2)) (xs (i + 3)) (xs (i + 4))).2 41), shOn (shF Z v9.1 v9.2 (zkeepTT σ1 (xs (i + 1)) (xs (i + 2)) (xs (i + 3)) (xs (i + 4)))) 8]) (W1 := fun v9 => wcat [anP Z an wo La.1 Li.1 Lt.1 ta.1 tb.1 tc.1 rd.1 rp rk hi v9.1 ((zkeepTT σ1 (xs (i + 1)) (xs (i + 2)) (xs (i + 3)) (xs (i + 4))).2 41), wkP Z (wo, La.1, tm.1, vq) r0 a4 a5 a6 a7 a8 a9 a10 a11 vv, landP Z La τ, landP Z Li τi, landP Z Lt τt, thP Z tm FM KM, thP Z ta F K, thP Z tb F5 K5, thP Z tc F3 K3, rdP Z rd b0 rq, ruP rp 0 0, ruP rk 3 0, shOn (shF Z v9.1 v9.2 (zkeepTT σ1 (xs (i + 1)) (xs (i + 2)) (xs (i + 3)) (xs (i + 4)))) 8, mw mo mq 12 (Z 0) (Z 1) σ, elO Z oq g]) G X (wsel2 [0, 12, 1, 2, 3, 4, 5, 6, 7, 8, 9, 10, 11, 13, 14] 15 rfl rfl rfl) (run_V (As := [.int (xs (i + 1)), .int (xs (i + 2)), .int (xs (i + 3)), .int (xs (i + 4))]) (rest := []) (n := 4) G hml hts hl.1 (p_recv G X 0 0 rfl rfl rfl) (k11_keep (lE_ok ad av) (xs (i + 1)) (xs (i + 2)) (xs (i + 3)) (xs (i + 4)) (zRel_sh h1) (lE_C ad av) _) (cwV 4 hts (gg_W lT_good (fun v h => lT_c h) (lT_c ck_703) (lT_l (List.mem_of_getElem? (i := 167) rfl)) (lT_l (List.mem_of_getElem? (i := 168) rfl)) (lT_l (List.mem_of_getElem? (i := 169) rfl)) (lT_l (List.mem_of_getElem? (i := 2) rfl))) rfl rfl rfl (by decide +kernel) ⟨Nat.le_of_ble_eq_true rfl, Nat.le_of_ble_eq_true rfl⟩) rfl (Nat.le_of_ble_eq_true rfl) dL_law_1181 (hrm _ _ (Nat.le_of_ble_eq_true rfl) (Nat.le_of_ble_eq_true rfl))) (fun _ => wback2 [0, 12, 1, 2, 3, 4, 5, 6, 7, 8, 9, 10, 11, 13, 14] 15 rfl rfl rfl) (fun H locs v9 _ X => ?_)
  refine lv_aload_n hx hb dL_law_1184 rfl (lv_at hl 2 rfl) ?_
  refine l_arg J hi6 1 (by decide) X hl (List.mem_of_getElem? (i := 0) rfl) (List.mem_of_getElem? (i := 4) rfl) dL_law_1185 dL_law_1186 dL_law_1188 dL_law_1189 dL_law_1190 ?_
  refine l_arg J hi6 2 (by decide) X hl (List.mem_of_getElem? (i := 0) rfl) (List.mem_of_getElem? (i := 4) rfl) dL_law_1191 dL_law_1192 dL_law_1194 dL_law_1195 dL_law_1196 ?_
  refine l_arg J hi6 3 (by decide) X hl (List.mem_of_getElem? (i := 0) rfl) (List.mem_of_getElem? (i := 4) rfl) dL_law_1197 dL_law_1198 dL_law_1200 dL_law_1201 dL_law_1202 ?_
  refine l_arg J hi6 4 (by decide) X hl (List.mem_of_getElem? (i := 0) rfl) (List.mem_of_getElem? (i := 4) rfl) dL_law_1203 dL_law_1204 dL_law_1206 dL_law_1207 dL_law_1208 ?_
  refine ctIP_V (w := mw mo mq 12 (Z 0) (Z 1) σ) (wf := wcat [anP Z an wo La.1 Li.1 Lt.1 ta.1 tb.1 tc.1 rd.1 rp rk hi v9.1 ((zkeepTT σ1 (xs (i + 1)) (xs (i + 2)) (xs (i + 3)) (xs (i + 4))).2 41), wkP Z (wo, La.1, tm.1, vq) r0 a4 a5 a6 a7 a8 a9 a10 a11 vv, landP Z La τ, landP Z Li τi, landP Z Lt τt, thP Z tm FM KM, thP Z ta F K, thP Z tb F5 K5, thP Z tc F3 K3, rdP Z rd b0 rq, ruP rp 0 0, ruP rk 3 0, shOn (shF Z v9.1 v9.2 (zkeepTT σ1 (xs (i + 1)) (xs (i + 2)) (xs (i + 3)) (xs (i + 4)))) 8, elO Z oq g]) (As := [.int (xs (i + 1)), .int (xs (i + 2)), .int (xs (i + 3)), .int (xs (i + 4))]) (rest := [.int (zkeepSS (xs (i + 1)) (xs (i + 2)) (xs (i + 3)) (xs (i + 4)))]) (n := 4) hx hb hml G.2.2.1 hts G.2.2.2.2.1 G.2.2.2.2.2.2.2 (wh_perm (lsel [13, 0, 1, 2, 3, 4, 5, 6, 7, 8, 9, 10, 11, 12, 14] 15 rfl rfl rfl) X) hl.1 (p_recv G X 13 0 rfl rfl rfl) (c_keep rfl rfl rfl e15 (xs (i + 1)) (xs (i + 2)) (xs (i + 3)) (xs (i + 4)) h1.1.1.1 h1.1.2.1) (cwV 4 hts (gg_W lT_good (fun v h => lT_m h) (lT_m mk_281) (lT_l (List.mem_of_getElem? (i := 170) rfl)) (lT_l (List.mem_of_getElem? (i := 171) rfl)) (lT_l (List.mem_of_getElem? (i := 172) rfl)) (lT_l (List.mem_of_getElem? (i := 5) rfl))) rfl rfl rfl (by decide +kernel) ⟨Nat.le_of_ble_eq_true rfl, Nat.le_of_ble_eq_true rfl⟩) rfl (Nat.le_of_ble_eq_true rfl) dL_law_1209 (hrm _ _ (Nat.le_of_ble_eq_true rfl) (Nat.le_of_ble_eq_true rfl)) (fun H locs u9 hu X => ?_)
  refine lv_icmp_eq (tgt := 1505) hx hb dL_law_1212 (by decide) (fun _ => ?_) (fun q9 => absurd rfl q9)
  have es : shF Z v9.1 v9.2 (zkeepTT σ1 (xs (i + 1)) (xs (i + 2)) (xs (i + 3)) (xs (i + 4))) = shF Z v9.1 v9.2 u9 ∧ (zkeepTT σ1 (xs (i + 1)) (xs (i + 2)) (xs (i + 3)) (xs (i + 4))).2 41 = u9.2 41 := (lshE hu)
  rw [es.1, es.2] at X
  refine W.widen (k := cells + 6) (n := slots + 102) (Nat.add_le_add_left (Nat.le_of_ble_eq_true rfl) _) (Nat.add_le_add_left (Nat.le_of_ble_eq_true rfl) _) ?_
  exact back _ _ _ _ _ _ H locs ls (zRel_keep h1 hu) ⟨τt, v9.1, v9.2, FM, KM, vv, K, K5, F3, K3, rq, g, r0, a4, a5, a6, a7, a8, a9, a10, a11, b0, hz, wh_perm (lback [13, 0, 1, 2, 3, 4, 5, 6, 7, 8, 9, 10, 11, 12, 14] 15 rfl rfl rfl) X⟩ hl
set_option maxHeartbeats 4000000 in
set_option maxRecDepth 100000 in
theorem law_row (J : lG ad av p l c s m args D Z A b L xs) (hi6 : i + 6 ≤ L) (hrm : ∀ k n : Nat, k ≤ 6 → n ≤ 102 → cells + k ≤ room_1.cells ∧ slots + n ≤ room_1.slots) (h : zRel σ τ τi F F5 hi) (I : lInv Z an wo vq La Li Lt tm ta tb tc rd rp rk mo mq oq D A s.heap H locs σ τ τi F F5 hi) (hl : lv_has ls 8 [(4, .int (nI i)), (3, .ref oq), (2, .ref mo), (1, .ref an.1), (0, .ref b)])
    (back : ∀ (σ τ τi : MS) (F F5 : Nat → Nat) (hi : Nat) (H : Heap) (locs : List Loc) (ls : Array Slot), zRel σ τ τi F F5 hi → lInv Z an wo vq La Li Lt tm ta tb tc rd rp rk mo mq oq D A s.heap H locs σ τ τi F F5 hi → lv_has ls 8 [(4, .int (nI i)), (3, .ref oq), (2, .ref mo), (1, .ref an.1), (0, .ref b)] → W p l e room_1 s m args below meth c H locs (cells + 6) (slots + 102) Q (F0 m 1505 ls [])) : W p l e room_1 s m args below meth c H locs cells slots Q (F0 m 1217 ls []) := by
  obtain ⟨τt, sb, sc, FM, KM, vv, K, K5, F3, K3, rq, g, r0, a4, a5, a6, a7, a8, a9, a10, a11, b0, hz, X⟩ := I
  have G := J.1
  have hml := J.2.1
  have hts := J.2.2.1
  have hst9 := J.2.2.2.1
  have hx := G.1
  have hb := G.2.1
  have h1 := lSt15 (v := 0) h
  have es0 := lsh15 (Z := Z) (sb := sb) (sc := sc) (σ := σ) (v := 0)
  rw [es0.1, es0.2] at X
  clear es0
  obtain ⟨σ1, e15⟩ : ∃ z, z = sF σ 15 0 := ⟨_, rfl⟩
  rw [← e15] at X h1
  refine lv_aload_n hx hb dL_law_1217 rfl (lv_at hl 3 rfl) ?_
  refine l_arg J hi6 1 (by decide) X hl (List.mem_of_getElem? (i := 0) rfl) (List.mem_of_getElem? (i := 4) rfl) dL_law_1218 dL_law_1219 dL_law_1221 dL_law_1222 dL_law_1223 ?_
  refine l_arg J hi6 2 (by decide) X hl (List.mem_of_getElem? (i := 0) rfl) (List.mem_of_getElem? (i := 4) rfl) dL_law_1224 dL_law_1225 dL_law_1227 dL_law_1228 dL_law_1229 ?_
  refine l_arg J hi6 3 (by decide) X hl (List.mem_of_getElem? (i := 0) rfl) (List.mem_of_getElem? (i := 4) rfl) dL_law_1230 dL_law_1231 dL_law_1233 dL_law_1234 dL_law_1235 ?_
  refine dtI_go (S := ((Nat → Nat) × (Nat → Nat))) (w := wcat [anP Z an wo La.1 Li.1 Lt.1 ta.1 tb.1 tc.1 rd.1 rp rk hi sb (σ1.2 41), shOn (shF Z sb sc σ1) 8]) (wf := wcat [wkP Z (wo, La.1, tm.1, vq) r0 a4 a5 a6 a7 a8 a9 a10 a11 vv, landP Z La τ, landP Z Li τi, landP Z Lt τt, thP Z tm FM KM, thP Z ta F K, thP Z tb F5 K5, thP Z tc F3 K3, rdP Z rd b0 rq, ruP rp 0 0, ruP rk 3 0, mw mo mq 12 (Z 0) (Z 1) σ, elO Z oq g]) (w' := fun v9 => wcat [anP Z an wo La.1 Li.1 Lt.1 ta.1 tb.1 tc.1 rd.1 rp rk hi v9.1 ((zrowT σ1 (xs (i + 1)) (xs (i + 2)) (xs (i + 3))).2 41), shOn (shF Z v9.1 v9.2 (zrowT σ1 (xs (i + 1)) (xs (i + 2)) (xs (i + 3)))) 8]) (W1 := fun v9 => wcat [anP Z an wo La.1 Li.1 Lt.1 ta.1 tb.1 tc.1 rd.1 rp rk hi v9.1 ((zrowT σ1 (xs (i + 1)) (xs (i + 2)) (xs (i + 3))).2 41), wkP Z (wo, La.1, tm.1, vq) r0 a4 a5 a6 a7 a8 a9 a10 a11 vv, landP Z La τ, landP Z Li τi, landP Z Lt τt, thP Z tm FM KM, thP Z ta F K, thP Z tb F5 K5, thP Z tc F3 K3, rdP Z rd b0 rq, ruP rp 0 0, ruP rk 3 0, shOn (shF Z v9.1 v9.2 (zrowT σ1 (xs (i + 1)) (xs (i + 2)) (xs (i + 3)))) 8, mw mo mq 12 (Z 0) (Z 1) σ, elO Z oq g]) G X (wsel2 [0, 12, 1, 2, 3, 4, 5, 6, 7, 8, 9, 10, 11, 13, 14] 15 rfl rfl rfl) (run_V (As := [.int (xs (i + 1)), .int (xs (i + 2)), .int (xs (i + 3))]) (rest := []) (n := 3) G hml hts hl.1 (p_recv G X 0 0 rfl rfl rfl) (k11_row (lE_ok ad av) (xs (i + 1)) (xs (i + 2)) (xs (i + 3)) (zRel_sh h1) _) (cwV 3 hts (gg_W lT_good (fun v h => lT_c h) (lT_c ck_704) (lT_l (List.mem_of_getElem? (i := 173) rfl)) (lT_l (List.mem_of_getElem? (i := 174) rfl)) (lT_l (List.mem_of_getElem? (i := 175) rfl)) (lT_l (List.mem_of_getElem? (i := 2) rfl))) rfl rfl rfl (by decide +kernel) ⟨Nat.le_of_ble_eq_true rfl, Nat.le_of_ble_eq_true rfl⟩) rfl (Nat.le_of_ble_eq_true rfl) dL_law_1236 (hrm _ _ (Nat.le_of_ble_eq_true rfl) (Nat.le_of_ble_eq_true rfl))) (fun _ => wback2 [0, 12, 1, 2, 3, 4, 5, 6, 7, 8, 9, 10, 11, 13, 14] 15 rfl rfl rfl) (fun H locs v9 _ X => ?_)
  refine lv_aload_n hx hb dL_law_1239 rfl (lv_at hl 2 rfl) ?_
  refine l_arg J hi6 1 (by decide) X hl (List.mem_of_getElem? (i := 0) rfl) (List.mem_of_getElem? (i := 4) rfl) dL_law_1240 dL_law_1241 dL_law_1243 dL_law_1244 dL_law_1245 ?_
  refine l_arg J hi6 2 (by decide) X hl (List.mem_of_getElem? (i := 0) rfl) (List.mem_of_getElem? (i := 4) rfl) dL_law_1246 dL_law_1247 dL_law_1249 dL_law_1250 dL_law_1251 ?_
  refine l_arg J hi6 3 (by decide) X hl (List.mem_of_getElem? (i := 0) rfl) (List.mem_of_getElem? (i := 4) rfl) dL_law_1252 dL_law_1253 dL_law_1255 dL_law_1256 dL_law_1257 ?_
  refine ctIP_V (w := mw mo mq 12 (Z 0) (Z 1) σ) (wf := wcat [anP Z an wo La.1 Li.1 Lt.1 ta.1 tb.1 tc.1 rd.1 rp rk hi v9.1 ((zrowT σ1 (xs (i + 1)) (xs (i + 2)) (xs (i + 3))).2 41), wkP Z (wo, La.1, tm.1, vq) r0 a4 a5 a6 a7 a8 a9 a10 a11 vv, landP Z La τ, landP Z Li τi, landP Z Lt τt, thP Z tm FM KM, thP Z ta F K, thP Z tb F5 K5, thP Z tc F3 K3, rdP Z rd b0 rq, ruP rp 0 0, ruP rk 3 0, shOn (shF Z v9.1 v9.2 (zrowT σ1 (xs (i + 1)) (xs (i + 2)) (xs (i + 3)))) 8, elO Z oq g]) (As := [.int (xs (i + 1)), .int (xs (i + 2)), .int (xs (i + 3))]) (rest := [.int (zrowS (xs (i + 1)) (xs (i + 2)) (xs (i + 3)))]) (n := 3) hx hb hml G.2.2.1 hts G.2.2.2.2.1 G.2.2.2.2.2.2.2 (wh_perm (lsel [13, 0, 1, 2, 3, 4, 5, 6, 7, 8, 9, 10, 11, 12, 14] 15 rfl rfl rfl) X) hl.1 (p_recv G X 13 0 rfl rfl rfl) (c_row rfl rfl rfl e15 (xs (i + 1)) (xs (i + 2)) (xs (i + 3)) h1.1.1.1 h1.1.2.1) (cwV 3 hts (gg_W lT_good (fun v h => lT_m h) (lT_m mk_283) (lT_l (List.mem_of_getElem? (i := 176) rfl)) (lT_l (List.mem_of_getElem? (i := 177) rfl)) (lT_l (List.mem_of_getElem? (i := 178) rfl)) (lT_l (List.mem_of_getElem? (i := 5) rfl))) rfl rfl rfl (by decide +kernel) ⟨Nat.le_of_ble_eq_true rfl, Nat.le_of_ble_eq_true rfl⟩) rfl (Nat.le_of_ble_eq_true rfl) dL_law_1258 (hrm _ _ (Nat.le_of_ble_eq_true rfl) (Nat.le_of_ble_eq_true rfl)) (fun H locs u9 hu X => ?_)
  refine lv_icmp_eq (tgt := 1505) hx hb dL_law_1261 (by decide) (fun _ => ?_) (fun q9 => absurd rfl q9)
  have es : shF Z v9.1 v9.2 (zrowT σ1 (xs (i + 1)) (xs (i + 2)) (xs (i + 3))) = shF Z v9.1 v9.2 u9 ∧ (zrowT σ1 (xs (i + 1)) (xs (i + 2)) (xs (i + 3))).2 41 = u9.2 41 := (lshE hu)
  rw [es.1, es.2] at X
  refine W.widen (k := cells + 6) (n := slots + 102) (Nat.add_le_add_left (Nat.le_of_ble_eq_true rfl) _) (Nat.add_le_add_left (Nat.le_of_ble_eq_true rfl) _) ?_
  exact back _ _ _ _ _ _ H locs ls (zRel_row h1 hu) ⟨τt, v9.1, v9.2, FM, KM, vv, K, K5, F3, K3, rq, g, r0, a4, a5, a6, a7, a8, a9, a10, a11, b0, hz, wh_perm (lback [13, 0, 1, 2, 3, 4, 5, 6, 7, 8, 9, 10, 11, 12, 14] 15 rfl rfl rfl) X⟩ hl
set_option maxHeartbeats 4000000 in
set_option maxRecDepth 100000 in
theorem law_put (J : lG ad av p l c s m args D Z A b L xs) (hi6 : i + 6 ≤ L) (hrm : ∀ k n : Nat, k ≤ 6 → n ≤ 102 → cells + k ≤ room_1.cells ∧ slots + n ≤ room_1.slots) (h : zRel σ τ τi F F5 hi) (I : lInv Z an wo vq La Li Lt tm ta tb tc rd rp rk mo mq oq D A s.heap H locs σ τ τi F F5 hi) (hl : lv_has ls 8 [(4, .int (nI i)), (3, .ref oq), (2, .ref mo), (1, .ref an.1), (0, .ref b)])
    (back : ∀ (σ τ τi : MS) (F F5 : Nat → Nat) (hi : Nat) (H : Heap) (locs : List Loc) (ls : Array Slot), zRel σ τ τi F F5 hi → lInv Z an wo vq La Li Lt tm ta tb tc rd rp rk mo mq oq D A s.heap H locs σ τ τi F F5 hi → lv_has ls 8 [(4, .int (nI i)), (3, .ref oq), (2, .ref mo), (1, .ref an.1), (0, .ref b)] → W p l e room_1 s m args below meth c H locs (cells + 6) (slots + 102) Q (F0 m 1505 ls [])) : W p l e room_1 s m args below meth c H locs cells slots Q (F0 m 1266 ls []) := by
  obtain ⟨τt, sb, sc, FM, KM, vv, K, K5, F3, K3, rq, g, r0, a4, a5, a6, a7, a8, a9, a10, a11, b0, hz, X⟩ := I
  have G := J.1
  have hml := J.2.1
  have hts := J.2.2.1
  have hst9 := J.2.2.2.1
  have hx := G.1
  have hb := G.2.1
  have h1 := lSt15 (v := 0) h
  have es0 := lsh15 (Z := Z) (sb := sb) (sc := sc) (σ := σ) (v := 0)
  rw [es0.1, es0.2] at X
  clear es0
  obtain ⟨σ1, e15⟩ : ∃ z, z = sF σ 15 0 := ⟨_, rfl⟩
  rw [← e15] at X h1
  refine lv_aload_n hx hb dL_law_1266 rfl (lv_at hl 3 rfl) ?_
  refine l_arg J hi6 1 (by decide) X hl (List.mem_of_getElem? (i := 0) rfl) (List.mem_of_getElem? (i := 4) rfl) dL_law_1267 dL_law_1268 dL_law_1270 dL_law_1271 dL_law_1272 ?_
  refine l_arg J hi6 2 (by decide) X hl (List.mem_of_getElem? (i := 0) rfl) (List.mem_of_getElem? (i := 4) rfl) dL_law_1273 dL_law_1274 dL_law_1276 dL_law_1277 dL_law_1278 ?_
  refine l_arg J hi6 3 (by decide) X hl (List.mem_of_getElem? (i := 0) rfl) (List.mem_of_getElem? (i := 4) rfl) dL_law_1279 dL_law_1280 dL_law_1282 dL_law_1283 dL_law_1284 ?_
  refine dtI_go (S := Unit) (w := wcat [anP Z an wo La.1 Li.1 Lt.1 ta.1 tb.1 tc.1 rd.1 rp rk hi sb (σ1.2 41), shOn (shF Z sb sc σ1) 8]) (wf := wcat [wkP Z (wo, La.1, tm.1, vq) r0 a4 a5 a6 a7 a8 a9 a10 a11 vv, landP Z La τ, landP Z Li τi, landP Z Lt τt, thP Z tm FM KM, thP Z ta F K, thP Z tb F5 K5, thP Z tc F3 K3, rdP Z rd b0 rq, ruP rp 0 0, ruP rk 3 0, mw mo mq 12 (Z 0) (Z 1) σ, elO Z oq g]) (w' := fun _ => wcat [anP Z an wo La.1 Li.1 Lt.1 ta.1 tb.1 tc.1 rd.1 rp rk hi sb ((zputT σ1 (xs (i + 1)) (xs (i + 2)) (xs (i + 3))).2 41), shOn (shF Z sb sc (zputT σ1 (xs (i + 1)) (xs (i + 2)) (xs (i + 3)))) 8]) (W1 := fun _ => wcat [anP Z an wo La.1 Li.1 Lt.1 ta.1 tb.1 tc.1 rd.1 rp rk hi sb ((zputT σ1 (xs (i + 1)) (xs (i + 2)) (xs (i + 3))).2 41), wkP Z (wo, La.1, tm.1, vq) r0 a4 a5 a6 a7 a8 a9 a10 a11 vv, landP Z La τ, landP Z Li τi, landP Z Lt τt, thP Z tm FM KM, thP Z ta F K, thP Z tb F5 K5, thP Z tc F3 K3, rdP Z rd b0 rq, ruP rp 0 0, ruP rk 3 0, shOn (shF Z sb sc (zputT σ1 (xs (i + 1)) (xs (i + 2)) (xs (i + 3)))) 8, mw mo mq 12 (Z 0) (Z 1) σ, elO Z oq g]) G X (wsel2 [0, 12, 1, 2, 3, 4, 5, 6, 7, 8, 9, 10, 11, 13, 14] 15 rfl rfl rfl) (run_V (As := [.int (xs (i + 1)), .int (xs (i + 2)), .int (xs (i + 3))]) (rest := []) (n := 3) G hml hts hl.1 (p_recv G X 0 0 rfl rfl rfl) (k11_put (lE_ok ad av) (xs (i + 1)) (xs (i + 2)) (xs (i + 3)) (zRel_sh h1) _) (cwV 3 hts (gg_W lT_good (fun v h => lT_c h) (lT_c ck_714) (lT_l (List.mem_of_getElem? (i := 179) rfl)) (lT_l (List.mem_of_getElem? (i := 180) rfl)) (lT_l (List.mem_of_getElem? (i := 181) rfl)) (lT_l (List.mem_of_getElem? (i := 2) rfl))) rfl rfl rfl (by decide +kernel) ⟨Nat.le_of_ble_eq_true rfl, Nat.le_of_ble_eq_true rfl⟩) rfl (Nat.le_of_ble_eq_true rfl) dL_law_1285 (hrm _ _ (Nat.le_of_ble_eq_true rfl) (Nat.le_of_ble_eq_true rfl))) (fun _ => wback2 [0, 12, 1, 2, 3, 4, 5, 6, 7, 8, 9, 10, 11, 13, 14] 15 rfl rfl rfl) (fun H locs _ _ X => ?_)
  refine lv_aload_n hx hb dL_law_1288 rfl (lv_at hl 2 rfl) ?_
  refine l_arg J hi6 1 (by decide) X hl (List.mem_of_getElem? (i := 0) rfl) (List.mem_of_getElem? (i := 4) rfl) dL_law_1289 dL_law_1290 dL_law_1292 dL_law_1293 dL_law_1294 ?_
  refine l_arg J hi6 2 (by decide) X hl (List.mem_of_getElem? (i := 0) rfl) (List.mem_of_getElem? (i := 4) rfl) dL_law_1295 dL_law_1296 dL_law_1298 dL_law_1299 dL_law_1300 ?_
  refine l_arg J hi6 3 (by decide) X hl (List.mem_of_getElem? (i := 0) rfl) (List.mem_of_getElem? (i := 4) rfl) dL_law_1301 dL_law_1302 dL_law_1304 dL_law_1305 dL_law_1306 ?_
  refine ctIP_V (w := mw mo mq 12 (Z 0) (Z 1) σ) (wf := wcat [anP Z an wo La.1 Li.1 Lt.1 ta.1 tb.1 tc.1 rd.1 rp rk hi sb ((zputT σ1 (xs (i + 1)) (xs (i + 2)) (xs (i + 3))).2 41), wkP Z (wo, La.1, tm.1, vq) r0 a4 a5 a6 a7 a8 a9 a10 a11 vv, landP Z La τ, landP Z Li τi, landP Z Lt τt, thP Z tm FM KM, thP Z ta F K, thP Z tb F5 K5, thP Z tc F3 K3, rdP Z rd b0 rq, ruP rp 0 0, ruP rk 3 0, shOn (shF Z sb sc (zputT σ1 (xs (i + 1)) (xs (i + 2)) (xs (i + 3)))) 8, elO Z oq g]) (As := [.int (xs (i + 1)), .int (xs (i + 2)), .int (xs (i + 3))]) (rest := [.int (zputS σ1 (xs (i + 1)) (xs (i + 2)))]) (n := 3) hx hb hml G.2.2.1 hts G.2.2.2.2.1 G.2.2.2.2.2.2.2 (wh_perm (lsel [13, 0, 1, 2, 3, 4, 5, 6, 7, 8, 9, 10, 11, 12, 14] 15 rfl rfl rfl) X) hl.1 (p_recv G X 13 0 rfl rfl rfl) (c_put rfl rfl rfl e15 (xs (i + 1)) (xs (i + 2)) (xs (i + 3)) h1.1.1.1 h1.1.2.1) (cwV 3 hts (gg_W lT_good (fun v h => lT_m h) (lT_m mk_284) (lT_l (List.mem_of_getElem? (i := 182) rfl)) (lT_l (List.mem_of_getElem? (i := 183) rfl)) (lT_l (List.mem_of_getElem? (i := 184) rfl)) (lT_l (List.mem_of_getElem? (i := 5) rfl))) rfl rfl rfl (by decide +kernel) ⟨Nat.le_of_ble_eq_true rfl, Nat.le_of_ble_eq_true rfl⟩) rfl (Nat.le_of_ble_eq_true rfl) dL_law_1307 (hrm _ _ (Nat.le_of_ble_eq_true rfl) (Nat.le_of_ble_eq_true rfl)) (fun H locs u9 hu X => ?_)
  refine lv_icmp_eq (tgt := 1505) hx hb dL_law_1310 (by decide) (fun _ => ?_) (fun q9 => absurd rfl q9)
  have es : shF Z sb sc (zputT σ1 (xs (i + 1)) (xs (i + 2)) (xs (i + 3))) = shF Z sb sc u9 ∧ (zputT σ1 (xs (i + 1)) (xs (i + 2)) (xs (i + 3))).2 41 = u9.2 41 := (lshE hu)
  rw [es.1, es.2] at X
  refine W.widen (k := cells + 6) (n := slots + 102) (Nat.add_le_add_left (Nat.le_of_ble_eq_true rfl) _) (Nat.add_le_add_left (Nat.le_of_ble_eq_true rfl) _) ?_
  exact back _ _ _ _ _ _ H locs ls (zRel_put h1 hu) ⟨τt, sb, sc, FM, KM, vv, K, K5, F3, K3, rq, g, r0, a4, a5, a6, a7, a8, a9, a10, a11, b0, hz, wh_perm (lback [13, 0, 1, 2, 3, 4, 5, 6, 7, 8, 9, 10, 11, 12, 14] 15 rfl rfl rfl) X⟩ hl
set_option maxHeartbeats 4000000 in
set_option maxRecDepth 100000 in
theorem law_element (J : lG ad av p l c s m args D Z A b L xs) (hi6 : i + 6 ≤ L) (hrm : ∀ k n : Nat, k ≤ 6 → n ≤ 102 → cells + k ≤ room_1.cells ∧ slots + n ≤ room_1.slots) (h : zRel σ τ τi F F5 hi) (I : lInv Z an wo vq La Li Lt tm ta tb tc rd rp rk mo mq oq D A s.heap H locs σ τ τi F F5 hi) (hl : lv_has ls 8 [(4, .int (nI i)), (3, .ref oq), (2, .ref mo), (1, .ref an.1), (0, .ref b)])
    (back : ∀ (σ τ τi : MS) (F F5 : Nat → Nat) (hi : Nat) (H : Heap) (locs : List Loc) (ls : Array Slot), zRel σ τ τi F F5 hi → lInv Z an wo vq La Li Lt tm ta tb tc rd rp rk mo mq oq D A s.heap H locs σ τ τi F F5 hi → lv_has ls 8 [(4, .int (nI i)), (3, .ref oq), (2, .ref mo), (1, .ref an.1), (0, .ref b)] → W p l e room_1 s m args below meth c H locs (cells + 6) (slots + 102) Q (F0 m 1505 ls [])) : W p l e room_1 s m args below meth c H locs cells slots Q (F0 m 1315 ls []) := by
  obtain ⟨τt, sb, sc, FM, KM, vv, K, K5, F3, K3, rq, g, r0, a4, a5, a6, a7, a8, a9, a10, a11, b0, hz, X⟩ := I
  have G := J.1
  have hml := J.2.1
  have hts := J.2.2.1
  have hst9 := J.2.2.2.1
  have hx := G.1
  have hb := G.2.1
  have hl0 := hl
  refine lv_aload_n hx hb dL_law_1315 rfl (lv_at hl 3 rfl) ?_
  refine l_arg J hi6 1 (by decide) X hl (List.mem_of_getElem? (i := 0) rfl) (List.mem_of_getElem? (i := 4) rfl) dL_law_1316 dL_law_1317 dL_law_1319 dL_law_1320 dL_law_1321 ?_
  refine l_arg J hi6 2 (by decide) X hl (List.mem_of_getElem? (i := 0) rfl) (List.mem_of_getElem? (i := 4) rfl) dL_law_1322 dL_law_1323 dL_law_1325 dL_law_1326 dL_law_1327 ?_
  refine lv_aload_n hx hb dL_law_1328 rfl (lv_at hl 1 rfl) ?_
  refine dtI_go (S := Unit) (w := wcat [anP Z an wo La.1 Li.1 Lt.1 ta.1 tb.1 tc.1 rd.1 rp rk hi sb (σ.2 41), shOn (shF Z sb sc σ) 8, elO Z oq g]) (wf := wcat [wkP Z (wo, La.1, tm.1, vq) r0 a4 a5 a6 a7 a8 a9 a10 a11 vv, landP Z La τ, landP Z Li τi, landP Z Lt τt, thP Z tm FM KM, thP Z ta F K, thP Z tb F5 K5, thP Z tc F3 K3, rdP Z rd b0 rq, ruP rp 0 0, ruP rk 3 0, mw mo mq 12 (Z 0) (Z 1) σ]) (w' := fun _ => wcat [anP Z an wo La.1 Li.1 Lt.1 ta.1 tb.1 tc.1 rd.1 rp rk hi sb (σ.2 41), shOn (shF Z sb sc σ) 8, elO Z oq (elG σ (xs (i + 1)) (xs (i + 2)) g)]) (W1 := fun _ => wcat [anP Z an wo La.1 Li.1 Lt.1 ta.1 tb.1 tc.1 rd.1 rp rk hi sb (σ.2 41), wkP Z (wo, La.1, tm.1, vq) r0 a4 a5 a6 a7 a8 a9 a10 a11 vv, landP Z La τ, landP Z Li τi, landP Z Lt τt, thP Z tm FM KM, thP Z ta F K, thP Z tb F5 K5, thP Z tc F3 K3, rdP Z rd b0 rq, ruP rp 0 0, ruP rk 3 0, shOn (shF Z sb sc σ) 8, mw mo mq 12 (Z 0) (Z 1) σ, elO Z oq (elG σ (xs (i + 1)) (xs (i + 2)) g)]) G X (wsel2 [0, 12, 14, 1, 2, 3, 4, 5, 6, 7, 8, 9, 10, 11, 13] 15 rfl rfl rfl) (run_SW (As := [.ref an.1, .int (xs (i + 1)), .int (xs (i + 2)), .ref oq]) (rest := []) (n := 4) G hml hts hl.1 (kL_element (lE_ok ad av) (xs (i + 1)) (xs (i + 2)) (zRel_sh h) (lE_T ad av) (lE_L ad av) hst9 _) (vx_cwSW 4 hts (gg_S lT_good (fun v h => (List.mem_append.mp h).elim lT_e lT_c) (lT_l (List.mem_of_getElem? (i := 188) rfl)) (lT_l (List.mem_of_getElem? (i := 185) rfl)) (lT_l (List.mem_of_getElem? (i := 186) rfl)) (lT_l (List.mem_of_getElem? (i := 187) rfl))) rfl rfl rfl (by decide +kernel) ⟨Nat.le_of_ble_eq_true rfl, Nat.le_of_ble_eq_true rfl⟩) rfl (Nat.le_of_ble_eq_true rfl) dL_law_1329 (hrm _ _ (Nat.le_of_ble_eq_true rfl) (Nat.le_of_ble_eq_true rfl))) (fun _ => wback2 [0, 12, 14, 1, 2, 3, 4, 5, 6, 7, 8, 9, 10, 11, 13] 15 rfl rfl rfl) (fun H locs _ _ X => ?_)
  refine lv_istore (lv' := [(5, .int (nI (zelT σ (xs (i + 1)) (xs (i + 2))))), (4, .int (nI i)), (3, .ref oq), (2, .ref mo), (1, .ref an.1), (0, .ref b)]) hx hb dL_law_1332 hl (by decide) rfl (fun ls hl => ?_)
  refine lv_aload_n hx hb dL_law_1334 rfl (lv_at hl 3 rfl) ?_
  refine l_arg J hi6 1 (by decide) X hl (List.mem_of_getElem? (i := 1) rfl) (List.mem_of_getElem? (i := 5) rfl) dL_law_1335 dL_law_1336 dL_law_1338 dL_law_1339 dL_law_1340 ?_
  refine l_arg J hi6 2 (by decide) X hl (List.mem_of_getElem? (i := 1) rfl) (List.mem_of_getElem? (i := 5) rfl) dL_law_1341 dL_law_1342 dL_law_1344 dL_law_1345 dL_law_1346 ?_
  refine ctL_V (w := mw mo mq 12 (Z 0) (Z 1) σ) (wf := wcat [anP Z an wo La.1 Li.1 Lt.1 ta.1 tb.1 tc.1 rd.1 rp rk hi sb (σ.2 41), wkP Z (wo, La.1, tm.1, vq) r0 a4 a5 a6 a7 a8 a9 a10 a11 vv, landP Z La τ, landP Z Li τi, landP Z Lt τt, thP Z tm FM KM, thP Z ta F K, thP Z tb F5 K5, thP Z tc F3 K3, rdP Z rd b0 rq, ruP rp 0 0, ruP rk 3 0, shOn (shF Z sb sc σ) 8, elO Z oq (elG σ (xs (i + 1)) (xs (i + 2)) g)]) (As := [.int (xs (i + 1)), .int (xs (i + 2))]) (rest := []) (n := 2) hx hb hml G.2.2.1 hts G.2.2.2.2.1 G.2.2.2.2.2.2.2 (wh_perm (lsel [13, 0, 1, 2, 3, 4, 5, 6, 7, 8, 9, 10, 11, 12, 14] 15 rfl rfl rfl) X) hl.1 (p_recv G X 13 0 rfl rfl rfl) (c_element rfl rfl rfl (xs (i + 1)) (xs (i + 2)) h.1.1.1 h.1.2.1) (cwV 2 hts (gg_W lT_good (fun v h => lT_m h) (lT_m mk_287) (lT_l (List.mem_of_getElem? (i := 189) rfl)) (lT_l (List.mem_of_getElem? (i := 190) rfl)) (lT_l (List.mem_of_getElem? (i := 191) rfl)) (lT_l (List.mem_of_getElem? (i := 5) rfl))) rfl rfl rfl (by decide +kernel) ⟨Nat.le_of_ble_eq_true rfl, Nat.le_of_ble_eq_true rfl⟩) rfl (Nat.le_of_ble_eq_true rfl) dL_law_1347 (hrm _ _ (Nat.le_of_ble_eq_true rfl) (Nat.le_of_ble_eq_true rfl)) (fun H locs X => ?_)
  have es := lsh15 (Z := Z) (sb := sb) (sc := sc) (σ := σ) (v := zelT σ (xs (i + 1)) (xs (i + 2)))
  replace X := wh_perm (lback (ps := [anP Z an wo La.1 Li.1 Lt.1 ta.1 tb.1 tc.1 rd.1 rp rk hi sb (σ.2 41), wkP Z (wo, La.1, tm.1, vq) r0 a4 a5 a6 a7 a8 a9 a10 a11 vv, landP Z La τ, landP Z Li τi, landP Z Lt τt, thP Z tm FM KM, thP Z ta F K, thP Z tb F5 K5, thP Z tc F3 K3, rdP Z rd b0 rq, ruP rp 0 0, ruP rk 3 0, shOn (shF Z sb sc σ) 8, mw mo mq 12 (Z 0) (Z 1) (sF σ 15 (zelT σ (xs (i + 1)) (xs (i + 2)))), elO Z oq (elG σ (xs (i + 1)) (xs (i + 2)) g)]) [13, 0, 1, 2, 3, 4, 5, 6, 7, 8, 9, 10, 11, 12, 14] 15 rfl rfl rfl) X
  rw [es.1, es.2] at X
  refine lv_lstore (lv' := [(6, .long (zelS σ (xs (i + 1)) (xs (i + 2)))), (5, .int (nI (zelT σ (xs (i + 1)) (xs (i + 2))))), (4, .int (nI i)), (3, .ref oq), (2, .ref mo), (1, .ref an.1), (0, .ref b)]) hx hb dL_law_1350 hl (by decide) rfl (fun ls hl => ?_)
  refine lv_aload_n hx hb dL_law_1352 rfl (lv_at hl 4 rfl) ?_
  refine ctI_V (w := mw mo mq 12 (Z 0) (Z 1) (sF σ 15 (zelT σ (xs (i + 1)) (xs (i + 2))))) (wf := wcat [anP Z an wo La.1 Li.1 Lt.1 ta.1 tb.1 tc.1 rd.1 rp rk hi sb ((sF σ 15 (zelT σ (xs (i + 1)) (xs (i + 2)))).2 41), wkP Z (wo, La.1, tm.1, vq) r0 a4 a5 a6 a7 a8 a9 a10 a11 vv, landP Z La τ, landP Z Li τi, landP Z Lt τt, thP Z tm FM KM, thP Z ta F K, thP Z tb F5 K5, thP Z tc F3 K3, rdP Z rd b0 rq, ruP rp 0 0, ruP rk 3 0, shOn (shF Z sb sc (sF σ 15 (zelT σ (xs (i + 1)) (xs (i + 2))))) 8, elO Z oq (elG σ (xs (i + 1)) (xs (i + 2)) g)]) (As := []) (rest := []) (n := 0) hx hb hml G.2.2.1 hts G.2.2.2.2.1 G.2.2.2.2.2.2.2 (wh_perm (lsel [13, 0, 1, 2, 3, 4, 5, 6, 7, 8, 9, 10, 11, 12, 14] 15 rfl rfl rfl) X) hl.1 (p_recv G X 13 0 rfl rfl rfl) (c_thrown rfl rfl rfl) (cwV 0 hts (gg_W lT_good (fun v h => lT_m h) (lT_m mk_37) (lT_l (List.mem_of_getElem? (i := 192) rfl)) (lT_l (List.mem_of_getElem? (i := 193) rfl)) (lT_l (List.mem_of_getElem? (i := 194) rfl)) (lT_l (List.mem_of_getElem? (i := 5) rfl))) rfl rfl rfl (by decide +kernel) ⟨Nat.le_of_ble_eq_true rfl, Nat.le_of_ble_eq_true rfl⟩) rfl (Nat.le_of_ble_eq_true rfl) dL_law_1353 (hrm _ _ (Nat.le_of_ble_eq_true rfl) (Nat.le_of_ble_eq_true rfl)) (fun H locs X => ?_)
  replace X := wh_perm (lback (ps := [anP Z an wo La.1 Li.1 Lt.1 ta.1 tb.1 tc.1 rd.1 rp rk hi sb ((sF σ 15 (zelT σ (xs (i + 1)) (xs (i + 2)))).2 41), wkP Z (wo, La.1, tm.1, vq) r0 a4 a5 a6 a7 a8 a9 a10 a11 vv, landP Z La τ, landP Z Li τi, landP Z Lt τt, thP Z tm FM KM, thP Z ta F K, thP Z tb F5 K5, thP Z tc F3 K3, rdP Z rd b0 rq, ruP rp 0 0, ruP rk 3 0, shOn (shF Z sb sc (sF σ 15 (zelT σ (xs (i + 1)) (xs (i + 2))))) 8, mw mo mq 12 (Z 0) (Z 1) (sF σ 15 (zelT σ (xs (i + 1)) (xs (i + 2)))), elO Z oq (elG σ (xs (i + 1)) (xs (i + 2)) g)]) [13, 0, 1, 2, 3, 4, 5, 6, 7, 8, 9, 10, 11, 12, 14] 15 rfl rfl rfl) X
  refine lv_iload hx hb dL_law_1356 (lv_at hl 1 rfl) ?_
  refine lv_icmp_eq (tgt := 1363) hx hb dL_law_1358 (by decide) (fun _ => ?_) (fun q9 => absurd (show nI ((sF σ 15 (zelT σ (xs (i + 1)) (xs (i + 2)))).1 15) = nI (zelT σ (xs (i + 1)) (xs (i + 2))) from rfl) q9)
  refine lv_iload hx hb dL_law_1363 (lv_at hl 1 rfl) ?_
  have fin2 : W p l e room_1 s m args below meth c H locs (cells + 1) (slots + 6) Q (F0 m 1379 ls []) := lv_goto (tgt := 1505) hx hb dL_law_1379 (by decide) (W.widen (k := cells + 6) (n := slots + 102) (by omega) (by omega) (back _ _ _ _ _ _ H locs ls (lSt15 h) ⟨τt, sb, sc, FM, KM, vv, K, K5, F3, K3, rq, (elG σ (xs (i + 1)) (xs (i + 2)) g), r0, a4, a5, a6, a7, a8, a9, a10, a11, b0, hz, X⟩ (lv_sub hl [2, 3, 4, 5, 6] rfl)))
  refine lv_if_ne (tgt := 1379) hx hb dL_law_1365 (by decide) (fun _ => fin2) (fun q0 => ?_)
  have hb3 : zelT σ (xs (i + 1)) (xs (i + 2)) < 3 := by unfold zelT; (repeat' split) <;> omega
  have t0 : zelT σ (xs (i + 1)) (xs (i + 2)) = 0 := by
    rcases (show zelT σ (xs (i + 1)) (xs (i + 2)) = 0 ∨ zelT σ (xs (i + 1)) (xs (i + 2)) = 1 ∨ zelT σ (xs (i + 1)) (xs (i + 2)) = 2 by omega) with e | e | e
    · exact e
    · rw [e] at q0; exact absurd q0 (by decide)
    · rw [e] at q0; exact absurd q0 (by decide)
  have eg : lN ((elG σ (xs (i + 1)) (xs (i + 2)) g) 0) = zelS σ (xs (i + 1)) (xs (i + 2)) := by
    have e0 : (elG σ (xs (i + 1)) (xs (i + 2)) g) = (fun b => if b = 0 then lNN (zelC σ (xs (i + 1)) (xs (i + 2))) else g b) := if_pos t0
    rw [e0]
    show lN (if 0 = 0 then lNN (zelC σ (xs (i + 1)) (xs (i + 2))) else g 0) = _
    rw [if_pos rfl, lN_lNN]
    exact lk_element (zRel_sh h) h.1.2.2.2.1
  refine lv_aload_n hx hb dL_law_1368 rfl (lv_at hl 3 rfl) ?_
  refine lv_iconst (v := nI 0) hx hb dL_law_1369 (by decide) ?_
  refine cr_lald G X 14 0 rfl rfl (by decide) (by decide) dL_law_1370 ?_
  refine lv_lload hx hb dL_law_1371 (lv_at hl 0 rfl) ?_
  exact W.lcmp hx hb dL_law_1373 (lv_if_eq (tgt := 1379) hx hb dL_law_1374 (by decide) (fun _ => fin2) (fun q9 => absurd (Eq.mpr (zc_eq _ _) eg) q9))
set_option maxHeartbeats 4000000 in
set_option maxRecDepth 100000 in
theorem law_copy (J : lG ad av p l c s m args D Z A b L xs) (hi6 : i + 6 ≤ L) (hrm : ∀ k n : Nat, k ≤ 6 → n ≤ 102 → cells + k ≤ room_1.cells ∧ slots + n ≤ room_1.slots) (h : zRel σ τ τi F F5 hi) (I : lInv Z an wo vq La Li Lt tm ta tb tc rd rp rk mo mq oq D A s.heap H locs σ τ τi F F5 hi) (hl : lv_has ls 8 [(4, .int (nI i)), (3, .ref oq), (2, .ref mo), (1, .ref an.1), (0, .ref b)])
    (back : ∀ (σ τ τi : MS) (F F5 : Nat → Nat) (hi : Nat) (H : Heap) (locs : List Loc) (ls : Array Slot), zRel σ τ τi F F5 hi → lInv Z an wo vq La Li Lt tm ta tb tc rd rp rk mo mq oq D A s.heap H locs σ τ τi F F5 hi → lv_has ls 8 [(4, .int (nI i)), (3, .ref oq), (2, .ref mo), (1, .ref an.1), (0, .ref b)] → W p l e room_1 s m args below meth c H locs (cells + 6) (slots + 102) Q (F0 m 1505 ls [])) : W p l e room_1 s m args below meth c H locs cells slots Q (F0 m 1382 ls []) := by
  obtain ⟨τt, sb, sc, FM, KM, vv, K, K5, F3, K3, rq, g, r0, a4, a5, a6, a7, a8, a9, a10, a11, b0, hz, X⟩ := I
  have G := J.1
  have hml := J.2.1
  have hts := J.2.2.1
  have hst9 := J.2.2.2.1
  have hx := G.1
  have hb := G.2.1
  have h1 := lSt15 (v := 0) h
  have es0 := lsh15 (Z := Z) (sb := sb) (sc := sc) (σ := σ) (v := 0)
  rw [es0.1, es0.2] at X
  clear es0
  obtain ⟨σ1, e15⟩ : ∃ z, z = sF σ 15 0 := ⟨_, rfl⟩
  rw [← e15] at X h1
  refine lv_aload_n hx hb dL_law_1382 rfl (lv_at hl 3 rfl) ?_
  refine l_arg J hi6 1 (by decide) X hl (List.mem_of_getElem? (i := 0) rfl) (List.mem_of_getElem? (i := 4) rfl) dL_law_1383 dL_law_1384 dL_law_1386 dL_law_1387 dL_law_1388 ?_
  refine l_arg J hi6 2 (by decide) X hl (List.mem_of_getElem? (i := 0) rfl) (List.mem_of_getElem? (i := 4) rfl) dL_law_1389 dL_law_1390 dL_law_1392 dL_law_1393 dL_law_1394 ?_
  refine l_arg J hi6 3 (by decide) X hl (List.mem_of_getElem? (i := 0) rfl) (List.mem_of_getElem? (i := 4) rfl) dL_law_1395 dL_law_1396 dL_law_1398 dL_law_1399 dL_law_1400 ?_
  refine l_arg J hi6 4 (by decide) X hl (List.mem_of_getElem? (i := 0) rfl) (List.mem_of_getElem? (i := 4) rfl) dL_law_1401 dL_law_1402 dL_law_1404 dL_law_1405 dL_law_1406 ?_
  refine l_arg J hi6 5 (by decide) X hl (List.mem_of_getElem? (i := 0) rfl) (List.mem_of_getElem? (i := 4) rfl) dL_law_1407 dL_law_1408 dL_law_1410 dL_law_1411 dL_law_1412 ?_
  refine dtI_go (S := Unit) (w := wcat [anP Z an wo La.1 Li.1 Lt.1 ta.1 tb.1 tc.1 rd.1 rp rk hi sb (σ1.2 41), shOn (shF Z sb sc σ1) 8]) (wf := wcat [wkP Z (wo, La.1, tm.1, vq) r0 a4 a5 a6 a7 a8 a9 a10 a11 vv, landP Z La τ, landP Z Li τi, landP Z Lt τt, thP Z tm FM KM, thP Z ta F K, thP Z tb F5 K5, thP Z tc F3 K3, rdP Z rd b0 rq, ruP rp 0 0, ruP rk 3 0, mw mo mq 12 (Z 0) (Z 1) σ, elO Z oq g]) (w' := fun _ => wcat [anP Z an wo La.1 Li.1 Lt.1 ta.1 tb.1 tc.1 rd.1 rp rk hi sb ((zcopyT σ1 (xs (i + 1)) (xs (i + 2)) (xs (i + 3)) (xs (i + 4)) (xs (i + 5))).2 41), shOn (shF Z sb sc (zcopyT σ1 (xs (i + 1)) (xs (i + 2)) (xs (i + 3)) (xs (i + 4)) (xs (i + 5)))) 8]) (W1 := fun _ => wcat [anP Z an wo La.1 Li.1 Lt.1 ta.1 tb.1 tc.1 rd.1 rp rk hi sb ((zcopyT σ1 (xs (i + 1)) (xs (i + 2)) (xs (i + 3)) (xs (i + 4)) (xs (i + 5))).2 41), wkP Z (wo, La.1, tm.1, vq) r0 a4 a5 a6 a7 a8 a9 a10 a11 vv, landP Z La τ, landP Z Li τi, landP Z Lt τt, thP Z tm FM KM, thP Z ta F K, thP Z tb F5 K5, thP Z tc F3 K3, rdP Z rd b0 rq, ruP rp 0 0, ruP rk 3 0, shOn (shF Z sb sc (zcopyT σ1 (xs (i + 1)) (xs (i + 2)) (xs (i + 3)) (xs (i + 4)) (xs (i + 5)))) 8, mw mo mq 12 (Z 0) (Z 1) σ, elO Z oq g]) G X (wsel2 [0, 12, 1, 2, 3, 4, 5, 6, 7, 8, 9, 10, 11, 13, 14] 15 rfl rfl rfl) (run_V (As := [.int (xs (i + 1)), .int (xs (i + 2)), .int (xs (i + 3)), .int (xs (i + 4)), .int (xs (i + 5))]) (rest := []) (n := 5) G hml hts hl.1 (p_recv G X 0 0 rfl rfl rfl) (k11_copy (lE_ok ad av) (xs (i + 1)) (xs (i + 2)) (xs (i + 3)) (xs (i + 4)) (xs (i + 5)) (zRel_sh h1) _) (cwV 5 hts (gg_W lT_good (fun v h => lT_c h) (lT_c ck_723) (lT_l (List.mem_of_getElem? (i := 195) rfl)) (lT_l (List.mem_of_getElem? (i := 196) rfl)) (lT_l (List.mem_of_getElem? (i := 197) rfl)) (lT_l (List.mem_of_getElem? (i := 2) rfl))) rfl rfl rfl (by decide +kernel) ⟨Nat.le_of_ble_eq_true rfl, Nat.le_of_ble_eq_true rfl⟩) rfl (Nat.le_of_ble_eq_true rfl) dL_law_1413 (hrm _ _ (Nat.le_of_ble_eq_true rfl) (Nat.le_of_ble_eq_true rfl))) (fun _ => wback2 [0, 12, 1, 2, 3, 4, 5, 6, 7, 8, 9, 10, 11, 13, 14] 15 rfl rfl rfl) (fun H locs _ _ X => ?_)
  refine lv_aload_n hx hb dL_law_1416 rfl (lv_at hl 2 rfl) ?_
  refine l_arg J hi6 1 (by decide) X hl (List.mem_of_getElem? (i := 0) rfl) (List.mem_of_getElem? (i := 4) rfl) dL_law_1417 dL_law_1418 dL_law_1420 dL_law_1421 dL_law_1422 ?_
  refine l_arg J hi6 2 (by decide) X hl (List.mem_of_getElem? (i := 0) rfl) (List.mem_of_getElem? (i := 4) rfl) dL_law_1423 dL_law_1424 dL_law_1426 dL_law_1427 dL_law_1428 ?_
  refine l_arg J hi6 3 (by decide) X hl (List.mem_of_getElem? (i := 0) rfl) (List.mem_of_getElem? (i := 4) rfl) dL_law_1429 dL_law_1430 dL_law_1432 dL_law_1433 dL_law_1434 ?_
  refine l_arg J hi6 4 (by decide) X hl (List.mem_of_getElem? (i := 0) rfl) (List.mem_of_getElem? (i := 4) rfl) dL_law_1435 dL_law_1436 dL_law_1438 dL_law_1439 dL_law_1440 ?_
  refine l_arg J hi6 5 (by decide) X hl (List.mem_of_getElem? (i := 0) rfl) (List.mem_of_getElem? (i := 4) rfl) dL_law_1441 dL_law_1442 dL_law_1444 dL_law_1445 dL_law_1446 ?_
  refine ctIP_V (w := mw mo mq 12 (Z 0) (Z 1) σ) (wf := wcat [anP Z an wo La.1 Li.1 Lt.1 ta.1 tb.1 tc.1 rd.1 rp rk hi sb ((zcopyT σ1 (xs (i + 1)) (xs (i + 2)) (xs (i + 3)) (xs (i + 4)) (xs (i + 5))).2 41), wkP Z (wo, La.1, tm.1, vq) r0 a4 a5 a6 a7 a8 a9 a10 a11 vv, landP Z La τ, landP Z Li τi, landP Z Lt τt, thP Z tm FM KM, thP Z ta F K, thP Z tb F5 K5, thP Z tc F3 K3, rdP Z rd b0 rq, ruP rp 0 0, ruP rk 3 0, shOn (shF Z sb sc (zcopyT σ1 (xs (i + 1)) (xs (i + 2)) (xs (i + 3)) (xs (i + 4)) (xs (i + 5)))) 8, elO Z oq g]) (As := [.int (xs (i + 1)), .int (xs (i + 2)), .int (xs (i + 3)), .int (xs (i + 4)), .int (xs (i + 5))]) (rest := [.int (zcopyS σ1 (xs (i + 1)) (xs (i + 2)) (xs (i + 3)) (xs (i + 4)) (xs (i + 5)))]) (n := 5) hx hb hml G.2.2.1 hts G.2.2.2.2.1 G.2.2.2.2.2.2.2 (wh_perm (lsel [13, 0, 1, 2, 3, 4, 5, 6, 7, 8, 9, 10, 11, 12, 14] 15 rfl rfl rfl) X) hl.1 (p_recv G X 13 0 rfl rfl rfl) (c_copy rfl rfl rfl e15 (xs (i + 1)) (xs (i + 2)) (xs (i + 3)) (xs (i + 4)) (xs (i + 5)) h1.1.1.1 h1.1.2.1) (cwV 5 hts (gg_W lT_good (fun v h => lT_m h) (lT_m mk_288) (lT_l (List.mem_of_getElem? (i := 198) rfl)) (lT_l (List.mem_of_getElem? (i := 199) rfl)) (lT_l (List.mem_of_getElem? (i := 200) rfl)) (lT_l (List.mem_of_getElem? (i := 5) rfl))) rfl rfl rfl (by decide +kernel) ⟨Nat.le_of_ble_eq_true rfl, Nat.le_of_ble_eq_true rfl⟩) rfl (Nat.le_of_ble_eq_true rfl) dL_law_1447 (hrm _ _ (Nat.le_of_ble_eq_true rfl) (Nat.le_of_ble_eq_true rfl)) (fun H locs u9 hu X => ?_)
  refine lv_icmp_eq (tgt := 1505) hx hb dL_law_1450 (by decide) (fun _ => ?_) (fun q9 => absurd rfl q9)
  have es : shF Z sb sc (zcopyT σ1 (xs (i + 1)) (xs (i + 2)) (xs (i + 3)) (xs (i + 4)) (xs (i + 5))) = shF Z sb sc u9 ∧ (zcopyT σ1 (xs (i + 1)) (xs (i + 2)) (xs (i + 3)) (xs (i + 4)) (xs (i + 5))).2 41 = u9.2 41 := (lshE hu)
  rw [es.1, es.2] at X
  refine W.widen (k := cells + 6) (n := slots + 102) (Nat.add_le_add_left (Nat.le_of_ble_eq_true rfl) _) (Nat.add_le_add_left (Nat.le_of_ble_eq_true rfl) _) ?_
  exact back _ _ _ _ _ _ H locs ls (zRel_copy h1 hu) ⟨τt, sb, sc, FM, KM, vv, K, K5, F3, K3, rq, g, r0, a4, a5, a6, a7, a8, a9, a10, a11, b0, hz, wh_perm (lback [13, 0, 1, 2, 3, 4, 5, 6, 7, 8, 9, 10, 11, 12, 14] 15 rfl rfl rfl) X⟩ hl
set_option maxHeartbeats 4000000 in
set_option maxRecDepth 100000 in
theorem law_weight (J : lG ad av p l c s m args D Z A b L xs) (hi6 : i + 6 ≤ L) (hrm : ∀ k n : Nat, k ≤ 6 → n ≤ 102 → cells + k ≤ room_1.cells ∧ slots + n ≤ room_1.slots) (h : zRel σ τ τi F F5 hi) (I : lInv Z an wo vq La Li Lt tm ta tb tc rd rp rk mo mq oq D A s.heap H locs σ τ τi F F5 hi) (hl : lv_has ls 8 [(4, .int (nI i)), (3, .ref oq), (2, .ref mo), (1, .ref an.1), (0, .ref b)])
    (back : ∀ (σ τ τi : MS) (F F5 : Nat → Nat) (hi : Nat) (H : Heap) (locs : List Loc) (ls : Array Slot), zRel σ τ τi F F5 hi → lInv Z an wo vq La Li Lt tm ta tb tc rd rp rk mo mq oq D A s.heap H locs σ τ τi F F5 hi → lv_has ls 8 [(4, .int (nI i)), (3, .ref oq), (2, .ref mo), (1, .ref an.1), (0, .ref b)] → W p l e room_1 s m args below meth c H locs (cells + 6) (slots + 102) Q (F0 m 1505 ls [])) : W p l e room_1 s m args below meth c H locs cells slots Q (F0 m 1455 ls []) := by
  obtain ⟨τt, sb, sc, FM, KM, vv, K, K5, F3, K3, rq, g, r0, a4, a5, a6, a7, a8, a9, a10, a11, b0, hz, X⟩ := I
  have G := J.1
  have hml := J.2.1
  have hts := J.2.2.1
  have hst9 := J.2.2.2.1
  have hx := G.1
  have hb := G.2.1
  have h1 := lSt15 (v := 0) h
  have es0 := lsh15 (Z := Z) (sb := sb) (sc := sc) (σ := σ) (v := 0)
  rw [es0.1, es0.2] at X
  clear es0
  obtain ⟨σ1, e15⟩ : ∃ z, z = sF σ 15 0 := ⟨_, rfl⟩
  rw [← e15] at X h1
  refine lv_aload_n hx hb dL_law_1455 rfl (lv_at hl 3 rfl) ?_
  refine l_arg J hi6 1 (by decide) X hl (List.mem_of_getElem? (i := 0) rfl) (List.mem_of_getElem? (i := 4) rfl) dL_law_1456 dL_law_1457 dL_law_1459 dL_law_1460 dL_law_1461 ?_
  refine dtI_go (S := Unit) (w := wcat [anP Z an wo La.1 Li.1 Lt.1 ta.1 tb.1 tc.1 rd.1 rp rk hi sb (σ1.2 41), shOn (shF Z sb sc σ1) 8]) (wf := wcat [wkP Z (wo, La.1, tm.1, vq) r0 a4 a5 a6 a7 a8 a9 a10 a11 vv, landP Z La τ, landP Z Li τi, landP Z Lt τt, thP Z tm FM KM, thP Z ta F K, thP Z tb F5 K5, thP Z tc F3 K3, rdP Z rd b0 rq, ruP rp 0 0, ruP rk 3 0, mw mo mq 12 (Z 0) (Z 1) σ, elO Z oq g]) (w' := fun _ => wcat [anP Z an wo La.1 Li.1 Lt.1 ta.1 tb.1 tc.1 rd.1 rp rk hi sb (σ1.2 41), shOn (shF Z sb sc σ1) 8]) (W1 := fun _ => wcat [anP Z an wo La.1 Li.1 Lt.1 ta.1 tb.1 tc.1 rd.1 rp rk hi sb (σ1.2 41), wkP Z (wo, La.1, tm.1, vq) r0 a4 a5 a6 a7 a8 a9 a10 a11 vv, landP Z La τ, landP Z Li τi, landP Z Lt τt, thP Z tm FM KM, thP Z ta F K, thP Z tb F5 K5, thP Z tc F3 K3, rdP Z rd b0 rq, ruP rp 0 0, ruP rk 3 0, shOn (shF Z sb sc σ1) 8, mw mo mq 12 (Z 0) (Z 1) σ, elO Z oq g]) G X (wsel2 [0, 12, 1, 2, 3, 4, 5, 6, 7, 8, 9, 10, 11, 13, 14] 15 rfl rfl rfl) (run_V (As := [.int (xs (i + 1))]) (rest := []) (n := 1) G hml hts hl.1 (p_recv G X 0 0 rfl rfl rfl) (k11_weight (lE_ok ad av) (xs (i + 1)) (zRel_sh h1) _) (cwV 1 hts (gg_W lT_good (fun v h => lT_c h) (lT_c ck_736) (lT_l (List.mem_of_getElem? (i := 201) rfl)) (lT_l (List.mem_of_getElem? (i := 202) rfl)) (lT_l (List.mem_of_getElem? (i := 203) rfl)) (lT_l (List.mem_of_getElem? (i := 2) rfl))) rfl rfl rfl (by decide +kernel) ⟨Nat.le_of_ble_eq_true rfl, Nat.le_of_ble_eq_true rfl⟩) rfl (Nat.le_of_ble_eq_true rfl) dL_law_1462 (hrm _ _ (Nat.le_of_ble_eq_true rfl) (Nat.le_of_ble_eq_true rfl))) (fun _ => wback2 [0, 12, 1, 2, 3, 4, 5, 6, 7, 8, 9, 10, 11, 13, 14] 15 rfl rfl rfl) (fun H locs _ _ X => ?_)
  refine lv_aload_n hx hb dL_law_1465 rfl (lv_at hl 2 rfl) ?_
  refine l_arg J hi6 1 (by decide) X hl (List.mem_of_getElem? (i := 0) rfl) (List.mem_of_getElem? (i := 4) rfl) dL_law_1466 dL_law_1467 dL_law_1469 dL_law_1470 dL_law_1471 ?_
  refine ctIP_V (w := mw mo mq 12 (Z 0) (Z 1) σ) (wf := wcat [anP Z an wo La.1 Li.1 Lt.1 ta.1 tb.1 tc.1 rd.1 rp rk hi sb (σ1.2 41), wkP Z (wo, La.1, tm.1, vq) r0 a4 a5 a6 a7 a8 a9 a10 a11 vv, landP Z La τ, landP Z Li τi, landP Z Lt τt, thP Z tm FM KM, thP Z ta F K, thP Z tb F5 K5, thP Z tc F3 K3, rdP Z rd b0 rq, ruP rp 0 0, ruP rk 3 0, shOn (shF Z sb sc σ1) 8, elO Z oq g]) (As := [.int (xs (i + 1))]) (rest := [.int (zweightS σ1 (xs (i + 1)))]) (n := 1) hx hb hml G.2.2.1 hts G.2.2.2.2.1 G.2.2.2.2.2.2.2 (wh_perm (lsel [13, 0, 1, 2, 3, 4, 5, 6, 7, 8, 9, 10, 11, 12, 14] 15 rfl rfl rfl) X) hl.1 (p_recv G X 13 0 rfl rfl rfl) (c_weight rfl rfl rfl e15 (xs (i + 1)) h1.1.1.1 h1.1.2.1) (cwV 1 hts (gg_W lT_good (fun v h => lT_m h) (lT_m mk_291) (lT_l (List.mem_of_getElem? (i := 204) rfl)) (lT_l (List.mem_of_getElem? (i := 205) rfl)) (lT_l (List.mem_of_getElem? (i := 206) rfl)) (lT_l (List.mem_of_getElem? (i := 5) rfl))) rfl rfl rfl (by decide +kernel) ⟨Nat.le_of_ble_eq_true rfl, Nat.le_of_ble_eq_true rfl⟩) rfl (Nat.le_of_ble_eq_true rfl) dL_law_1472 (hrm _ _ (Nat.le_of_ble_eq_true rfl) (Nat.le_of_ble_eq_true rfl)) (fun H locs u9 hu X => ?_)
  refine lv_icmp_eq (tgt := 1505) hx hb dL_law_1475 (by decide) (fun _ => ?_) (fun q9 => absurd rfl q9)
  have es : shF Z sb sc σ1 = shF Z sb sc u9 ∧ σ1.2 41 = u9.2 41 := (lshE hu)
  rw [es.1, es.2] at X
  refine W.widen (k := cells + 6) (n := slots + 102) (Nat.add_le_add_left (Nat.le_of_ble_eq_true rfl) _) (Nat.add_le_add_left (Nat.le_of_ble_eq_true rfl) _) ?_
  exact back _ _ _ _ _ _ H locs ls (zRel_St h1 (mEq_St hu)) ⟨τt, sb, sc, FM, KM, vv, K, K5, F3, K3, rq, g, r0, a4, a5, a6, a7, a8, a9, a10, a11, b0, hz, wh_perm (lback [13, 0, 1, 2, 3, 4, 5, 6, 7, 8, 9, 10, 11, 12, 14] 15 rfl rfl rfl) X⟩ hl
set_option maxHeartbeats 4000000 in
set_option maxRecDepth 100000 in
theorem law_toss (J : lG ad av p l c s m args D Z A b L xs) (hi6 : i + 6 ≤ L) (hrm : ∀ k n : Nat, k ≤ 6 → n ≤ 102 → cells + k ≤ room_1.cells ∧ slots + n ≤ room_1.slots) (h : zRel σ τ τi F F5 hi) (I : lInv Z an wo vq La Li Lt tm ta tb tc rd rp rk mo mq oq D A s.heap H locs σ τ τi F F5 hi) (hl : lv_has ls 8 [(4, .int (nI i)), (3, .ref oq), (2, .ref mo), (1, .ref an.1), (0, .ref b)])
    (back : ∀ (σ τ τi : MS) (F F5 : Nat → Nat) (hi : Nat) (H : Heap) (locs : List Loc) (ls : Array Slot), zRel σ τ τi F F5 hi → lInv Z an wo vq La Li Lt tm ta tb tc rd rp rk mo mq oq D A s.heap H locs σ τ τi F F5 hi → lv_has ls 8 [(4, .int (nI i)), (3, .ref oq), (2, .ref mo), (1, .ref an.1), (0, .ref b)] → W p l e room_1 s m args below meth c H locs (cells + 6) (slots + 102) Q (F0 m 1505 ls [])) : W p l e room_1 s m args below meth c H locs cells slots Q (F0 m 1480 ls []) := by
  obtain ⟨τt, sb, sc, FM, KM, vv, K, K5, F3, K3, rq, g, r0, a4, a5, a6, a7, a8, a9, a10, a11, b0, hz, X⟩ := I
  have G := J.1
  have hml := J.2.1
  have hts := J.2.2.1
  have hst9 := J.2.2.2.1
  have hx := G.1
  have hb := G.2.1
  have h1 := lSt15 (v := 0) h
  have es0 := lsh15 (Z := Z) (sb := sb) (sc := sc) (σ := σ) (v := 0)
  rw [es0.1, es0.2] at X
  clear es0
  obtain ⟨σ1, e15⟩ : ∃ z, z = sF σ 15 0 := ⟨_, rfl⟩
  rw [← e15] at X h1
  refine lv_aload_n hx hb dL_law_1480 rfl (lv_at hl 3 rfl) ?_
  refine l_arg J hi6 1 (by decide) X hl (List.mem_of_getElem? (i := 0) rfl) (List.mem_of_getElem? (i := 4) rfl) dL_law_1481 dL_law_1482 dL_law_1484 dL_law_1485 dL_law_1486 ?_
  refine dtI_go (S := Unit) (w := wcat [anP Z an wo La.1 Li.1 Lt.1 ta.1 tb.1 tc.1 rd.1 rp rk hi sb (σ1.2 41), shOn (shF Z sb sc σ1) 8]) (wf := wcat [wkP Z (wo, La.1, tm.1, vq) r0 a4 a5 a6 a7 a8 a9 a10 a11 vv, landP Z La τ, landP Z Li τi, landP Z Lt τt, thP Z tm FM KM, thP Z ta F K, thP Z tb F5 K5, thP Z tc F3 K3, rdP Z rd b0 rq, ruP rp 0 0, ruP rk 3 0, mw mo mq 12 (Z 0) (Z 1) σ, elO Z oq g]) (w' := fun _ => wcat [anP Z an wo La.1 Li.1 Lt.1 ta.1 tb.1 tc.1 rd.1 rp rk hi sb (σ1.2 41), shOn (shF Z sb sc σ1) 8]) (W1 := fun _ => wcat [anP Z an wo La.1 Li.1 Lt.1 ta.1 tb.1 tc.1 rd.1 rp rk hi sb (σ1.2 41), wkP Z (wo, La.1, tm.1, vq) r0 a4 a5 a6 a7 a8 a9 a10 a11 vv, landP Z La τ, landP Z Li τi, landP Z Lt τt, thP Z tm FM KM, thP Z ta F K, thP Z tb F5 K5, thP Z tc F3 K3, rdP Z rd b0 rq, ruP rp 0 0, ruP rk 3 0, shOn (shF Z sb sc σ1) 8, mw mo mq 12 (Z 0) (Z 1) σ, elO Z oq g]) G X (wsel2 [0, 12, 1, 2, 3, 4, 5, 6, 7, 8, 9, 10, 11, 13, 14] 15 rfl rfl rfl) (run_VW (As := [.int (xs (i + 1))]) (rest := []) (n := 1) G hml hts hl.1 (p_recv G X 0 0 rfl rfl rfl) (k11_toss (lE_ok ad av) (xs (i + 1)) (zRel_sh h1) (lE_T ad av) hst9 _) (vx_cwVW 1 hts (gg_W lT_good (fun v h => lT_c h) (lT_c ck_754) (lT_l (List.mem_of_getElem? (i := 207) rfl)) (lT_l (List.mem_of_getElem? (i := 208) rfl)) (lT_l (List.mem_of_getElem? (i := 209) rfl)) (lT_l (List.mem_of_getElem? (i := 2) rfl))) rfl rfl rfl (by decide +kernel) ⟨Nat.le_of_ble_eq_true rfl, Nat.le_of_ble_eq_true rfl⟩) rfl (Nat.le_of_ble_eq_true rfl) dL_law_1487 (hrm _ _ (Nat.le_of_ble_eq_true rfl) (Nat.le_of_ble_eq_true rfl))) (fun _ => wback2 [0, 12, 1, 2, 3, 4, 5, 6, 7, 8, 9, 10, 11, 13, 14] 15 rfl rfl rfl) (fun H locs _ _ X => ?_)
  refine lv_aload_n hx hb dL_law_1490 rfl (lv_at hl 2 rfl) ?_
  refine l_arg J hi6 1 (by decide) X hl (List.mem_of_getElem? (i := 0) rfl) (List.mem_of_getElem? (i := 4) rfl) dL_law_1491 dL_law_1492 dL_law_1494 dL_law_1495 dL_law_1496 ?_
  refine ctIP_V (w := mw mo mq 12 (Z 0) (Z 1) σ) (wf := wcat [anP Z an wo La.1 Li.1 Lt.1 ta.1 tb.1 tc.1 rd.1 rp rk hi sb (σ1.2 41), wkP Z (wo, La.1, tm.1, vq) r0 a4 a5 a6 a7 a8 a9 a10 a11 vv, landP Z La τ, landP Z Li τi, landP Z Lt τt, thP Z tm FM KM, thP Z ta F K, thP Z tb F5 K5, thP Z tc F3 K3, rdP Z rd b0 rq, ruP rp 0 0, ruP rk 3 0, shOn (shF Z sb sc σ1) 8, elO Z oq g]) (As := [.int (xs (i + 1))]) (rest := [.int (ztossS σ1 (xs (i + 1)))]) (n := 1) hx hb hml G.2.2.1 hts G.2.2.2.2.1 G.2.2.2.2.2.2.2 (wh_perm (lsel [13, 0, 1, 2, 3, 4, 5, 6, 7, 8, 9, 10, 11, 12, 14] 15 rfl rfl rfl) X) hl.1 (p_recv G X 13 0 rfl rfl rfl) (c_toss rfl rfl rfl e15 (xs (i + 1)) h1.1.1.1 h1.1.2.1) (cwV 1 hts (gg_W lT_good (fun v h => lT_m h) (lT_m mk_298) (lT_l (List.mem_of_getElem? (i := 210) rfl)) (lT_l (List.mem_of_getElem? (i := 211) rfl)) (lT_l (List.mem_of_getElem? (i := 212) rfl)) (lT_l (List.mem_of_getElem? (i := 5) rfl))) rfl rfl rfl (by decide +kernel) ⟨Nat.le_of_ble_eq_true rfl, Nat.le_of_ble_eq_true rfl⟩) rfl (Nat.le_of_ble_eq_true rfl) dL_law_1497 (hrm _ _ (Nat.le_of_ble_eq_true rfl) (Nat.le_of_ble_eq_true rfl)) (fun H locs u9 hu X => ?_)
  refine lv_icmp_eq (tgt := 1505) hx hb dL_law_1500 (by decide) (fun _ => ?_) (fun q9 => absurd rfl q9)
  have es : shF Z sb sc σ1 = shF Z sb sc u9 ∧ σ1.2 41 = u9.2 41 := (lshE hu)
  rw [es.1, es.2] at X
  refine W.widen (k := cells + 6) (n := slots + 102) (Nat.add_le_add_left (Nat.le_of_ble_eq_true rfl) _) (Nat.add_le_add_left (Nat.le_of_ble_eq_true rfl) _) ?_
  exact back _ _ _ _ _ _ H locs ls (zRel_St h1 (mEq_St hu)) ⟨τt, sb, sc, FM, KM, vv, K, K5, F3, K3, rq, g, r0, a4, a5, a6, a7, a8, a9, a10, a11, b0, hz, wh_perm (lback [13, 0, 1, 2, 3, 4, 5, 6, 7, 8, 9, 10, 11, 12, 14] 15 rfl rfl rfl) X⟩ hl
end LC
