section LC
variable {p : Program} {l : Launch} {e : Env} {s : State} {m : MethodId} {args : Array Value} {below : List Frame} {meth : Method} {c : Code} {H : Heap} {locs : List Loc} {cells slots : Nat} {Q : State → Prop}
variable {pc : Nat} {ls : Array Slot} {rest : List Value} {D : va_G} {A : Nat → Prop} {ad av : Nat → Nat} {b L i : Nat} {xs : Nat → Int32}
variable {Z : Nat → ClassId} {an : Nat × Nat × Nat} {wo vq : Nat} {La Li Lt : LA} {tm ta tb tc : Nat × Nat × Nat} {rd : Nat × Nat} {rp rk mo : Nat} {mq : Nat → Nat} {oq : Nat} {σ τ τi : MS} {F F5 : Nat → Nat} {hi : Nat}
set_option maxHeartbeats 4000000 in
set_option maxRecDepth 100000 in
theorem law_land (J : lG ad av p l c s m args D Z A b L xs) (hi6 : i + 6 ≤ L) (hrm : ∀ k n : Nat, k ≤ 6 → n ≤ 102 → cells + k ≤ room_1.cells ∧ slots + n ≤ room_1.slots) (h : zRel σ τ τi F F5 hi) (I : lInv Z an wo vq La Li Lt tm ta tb tc rd rp rk mo mq oq D A s.heap H locs σ τ τi F F5 hi) (hl : lv_has ls 8 [(4, .int (nI i)), (3, .ref oq), (2, .ref mo), (1, .ref an.1), (0, .ref b)])
    (back : ∀ (σ τ τi : MS) (F F5 : Nat → Nat) (hi : Nat) (H : Heap) (locs : List Loc) (ls : Array Slot), zRel σ τ τi F F5 hi → lInv Z an wo vq La Li Lt tm ta tb tc rd rp rk mo mq oq D A s.heap H locs σ τ τi F F5 hi → lv_has ls 8 [(4, .int (nI i)), (3, .ref oq), (2, .ref mo), (1, .ref an.1), (0, .ref b)] → W p l e room_1 s m args below meth c H locs (cells + 6) (slots + 102) Q (F0 m 1505 ls [])) : W p l e room_1 s m args below meth c H locs cells slots Q (F0 m 188 ls []) := by
  obtain ⟨τt, sb, sc, FM, KM, vv, K, K5, F3, K3, rq, g, r0, a4, a5, a6, a7, a8, a9, a10, a11, b0, hz, X⟩ := I
  have G := J.1
  have hml := J.2.1
  have hts := J.2.2.1
  have hst9 := J.2.2.2.1
  have hx := G.1
  have hb := G.2.1
  have h1 := lSt15 (v := 0) h
  have es0 := lsh15 (Z := Z) (sb := sb) (sc := sc) (σ := σ) (v := 0)
  rw [es0.1, es0.2] at X
  clear es0
  obtain ⟨σ1, e15⟩ : ∃ z, z = sF σ 15 0 := ⟨_, rfl⟩
  rw [← e15] at X h1
  refine lv_aload_n hx hb dL_law_188 rfl (lv_at hl 3 rfl) ?_
  refine l_arg J hi6 1 (by decide) X hl (List.mem_of_getElem? (i := 0) rfl) (List.mem_of_getElem? (i := 4) rfl) dL_law_189 dL_law_190 dL_law_192 dL_law_193 dL_law_194 ?_
  refine dtI_go (S := ((Nat → Nat) × MS × (Nat → Nat) × Nat)) (w := wcat [anP Z an wo La.1 Li.1 Lt.1 ta.1 tb.1 tc.1 rd.1 rp rk hi sb (σ1.2 41), landP Z La τ, landP Z Lt τt, thP Z ta F K, rdP Z rd b0 rq, shOn (shF Z sb sc σ1) 8]) (wf := wcat [wkP Z (wo, La.1, tm.1, vq) r0 a4 a5 a6 a7 a8 a9 a10 a11 vv, landP Z Li τi, thP Z tm FM KM, thP Z tb F5 K5, thP Z tc F3 K3, ruP rp 0 0, ruP rk 3 0, mw mo mq 12 (Z 0) (Z 1) σ, elO Z oq g]) (w' := fun v9 => wcat [anP Z an wo La.1 Li.1 Lt.1 ta.1 tb.1 tc.1 rd.1 rp rk hi sb (σ1.2 41), landP Z La ((zlanT σ1 τ F (xs (i + 1)) v9.2.2.1).1), landP Z Lt v9.2.1, thP Z ta ((zlanT σ1 τ F (xs (i + 1)) v9.2.2.1).2) K, rdP Z rd v9.2.2.2 v9.1, shOn (shF Z sb sc σ1) 8]) (W1 := fun v9 => wcat [anP Z an wo La.1 Li.1 Lt.1 ta.1 tb.1 tc.1 rd.1 rp rk hi sb (σ1.2 41), wkP Z (wo, La.1, tm.1, vq) r0 a4 a5 a6 a7 a8 a9 a10 a11 vv, landP Z La ((zlanT σ1 τ F (xs (i + 1)) v9.2.2.1).1), landP Z Li τi, landP Z Lt v9.2.1, thP Z tm FM KM, thP Z ta ((zlanT σ1 τ F (xs (i + 1)) v9.2.2.1).2) K, thP Z tb F5 K5, thP Z tc F3 K3, rdP Z rd v9.2.2.2 v9.1, ruP rp 0 0, ruP rk 3 0, shOn (shF Z sb sc σ1) 8, mw mo mq 12 (Z 0) (Z 1) σ, elO Z oq g]) G X (wsel2 [0, 2, 4, 6, 9, 12, 1, 3, 5, 7, 8, 10, 11, 13, 14] 15 rfl rfl rfl) (run_V (As := [.int (xs (i + 1))]) (rest := []) (n := 1) G hml hts hl.1 (p_recv G X 0 0 rfl rfl rfl) (k11_land (lE_ok ad av) (xs (i + 1)) (zRel_sh h1) (lE_S ad av) hz h1.2.1.2.1 h1.2.1.2.2.2.2.1 _) (cwV 1 hts (gg_W lT_good (fun v h => lT_c h) (lT_c ck_555) (lT_l (List.mem_of_getElem? (i := 11) rfl)) (lT_l (List.mem_of_getElem? (i := 12) rfl)) (lT_l (List.mem_of_getElem? (i := 13) rfl)) (lT_l (List.mem_of_getElem? (i := 2) rfl))) rfl rfl rfl (by decide +kernel) ⟨Nat.le_of_ble_eq_true rfl, Nat.le_of_ble_eq_true rfl⟩) rfl (Nat.le_of_ble_eq_true rfl) dL_law_195 (hrm _ _ (Nat.le_of_ble_eq_true rfl) (Nat.le_of_ble_eq_true rfl))) (fun _ => wback2 [0, 2, 4, 6, 9, 12, 1, 3, 5, 7, 8, 10, 11, 13, 14] 15 rfl rfl rfl) (fun H locs v9 hv X => ?_)
  refine lv_aload_n hx hb dL_law_198 rfl (lv_at hl 2 rfl) ?_
  refine l_arg J hi6 1 (by decide) X hl (List.mem_of_getElem? (i := 0) rfl) (List.mem_of_getElem? (i := 4) rfl) dL_law_199 dL_law_200 dL_law_202 dL_law_203 dL_law_204 ?_
  refine ctIP_V (w := mw mo mq 12 (Z 0) (Z 1) σ) (wf := wcat [anP Z an wo La.1 Li.1 Lt.1 ta.1 tb.1 tc.1 rd.1 rp rk hi sb (σ1.2 41), wkP Z (wo, La.1, tm.1, vq) r0 a4 a5 a6 a7 a8 a9 a10 a11 vv, landP Z La ((zlanT σ1 τ F (xs (i + 1)) v9.2.2.1).1), landP Z Li τi, landP Z Lt v9.2.1, thP Z tm FM KM, thP Z ta ((zlanT σ1 τ F (xs (i + 1)) v9.2.2.1).2) K, thP Z tb F5 K5, thP Z tc F3 K3, rdP Z rd v9.2.2.2 v9.1, ruP rp 0 0, ruP rk 3 0, shOn (shF Z sb sc σ1) 8, elO Z oq g]) (As := [.int (xs (i + 1))]) (rest := [.int (zlanR σ1 τ (xs (i + 1)) v9.2.2.1)]) (n := 1) hx hb hml G.2.2.1 hts G.2.2.2.2.1 G.2.2.2.2.2.2.2 (wh_perm (lsel [13, 0, 1, 2, 3, 4, 5, 6, 7, 8, 9, 10, 11, 12, 14] 15 rfl rfl rfl) X) hl.1 (p_recv G X 13 0 rfl rfl rfl) (c_land rfl rfl rfl e15 (xs (i + 1)) h1.1.1.1 h1.1.2.1 h1.1.1 h1.1.2.2.2.2 h1.1.2.2.1) (cwV 1 hts (gg_W lT_good (fun v h => lT_m h) (lT_m mk_100) (lT_l (List.mem_of_getElem? (i := 14) rfl)) (lT_l (List.mem_of_getElem? (i := 15) rfl)) (lT_l (List.mem_of_getElem? (i := 16) rfl)) (lT_l (List.mem_of_getElem? (i := 5) rfl))) rfl rfl rfl (by decide +kernel) ⟨Nat.le_of_ble_eq_true rfl, Nat.le_of_ble_eq_true rfl⟩) rfl (Nat.le_of_ble_eq_true rfl) dL_law_205 (hrm _ _ (Nat.le_of_ble_eq_true rfl) (Nat.le_of_ble_eq_true rfl)) (fun H locs u9 hu X => ?_)
  refine lv_icmp_eq (tgt := 1505) hx hb dL_law_208 (by decide) (fun _ => ?_) (fun q9 => absurd (zlan_cong (zRel_sh h1) (zLd_s h1.2.1.1) h1.1.1 v9.2.2.1) q9)
  have es : shF Z sb sc σ1 = shF Z sb sc u9 ∧ σ1.2 41 = u9.2 41 := (lsh fun j h1 h2 => (hu.1 j (nScr j (Or.inr (Or.inr (Or.inr (Or.inr ⟨h1, h2⟩))))) (by omega)).2)
  rw [es.1, es.2] at X
  refine W.widen (k := cells + 6) (n := slots + 102) (Nat.add_le_add_left (Nat.le_of_ble_eq_true rfl) _) (Nat.add_le_add_left (Nat.le_of_ble_eq_true rfl) _) ?_
  exact back _ _ _ _ _ _ H locs ls (zRel_land h1 hu) ⟨v9.2.1, sb, sc, FM, KM, vv, K, K5, F3, K3, v9.1, g, r0, a4, a5, a6, a7, a8, a9, a10, a11, v9.2.2.2, hv, wh_perm (lback [13, 0, 1, 2, 3, 4, 5, 6, 7, 8, 9, 10, 11, 12, 14] 15 rfl rfl rfl) X⟩ hl
set_option maxHeartbeats 4000000 in
set_option maxRecDepth 100000 in
theorem law_road (J : lG ad av p l c s m args D Z A b L xs) (hi6 : i + 6 ≤ L) (hrm : ∀ k n : Nat, k ≤ 6 → n ≤ 102 → cells + k ≤ room_1.cells ∧ slots + n ≤ room_1.slots) (h : zRel σ τ τi F F5 hi) (I : lInv Z an wo vq La Li Lt tm ta tb tc rd rp rk mo mq oq D A s.heap H locs σ τ τi F F5 hi) (hl : lv_has ls 8 [(4, .int (nI i)), (3, .ref oq), (2, .ref mo), (1, .ref an.1), (0, .ref b)])
    (back : ∀ (σ τ τi : MS) (F F5 : Nat → Nat) (hi : Nat) (H : Heap) (locs : List Loc) (ls : Array Slot), zRel σ τ τi F F5 hi → lInv Z an wo vq La Li Lt tm ta tb tc rd rp rk mo mq oq D A s.heap H locs σ τ τi F F5 hi → lv_has ls 8 [(4, .int (nI i)), (3, .ref oq), (2, .ref mo), (1, .ref an.1), (0, .ref b)] → W p l e room_1 s m args below meth c H locs (cells + 6) (slots + 102) Q (F0 m 1505 ls [])) : W p l e room_1 s m args below meth c H locs cells slots Q (F0 m 213 ls []) := by
  obtain ⟨τt, sb, sc, FM, KM, vv, K, K5, F3, K3, rq, g, r0, a4, a5, a6, a7, a8, a9, a10, a11, b0, hz, X⟩ := I
  have G := J.1
  have hml := J.2.1
  have hts := J.2.2.1
  have hst9 := J.2.2.2.1
  have hx := G.1
  have hb := G.2.1
  have h1 := lSt15 (v := 0) h
  have es0 := lsh15 (Z := Z) (sb := sb) (sc := sc) (σ := σ) (v := 0)
  rw [es0.1, es0.2] at X
  clear es0
  obtain ⟨σ1, e15⟩ : ∃ z, z = sF σ 15 0 := ⟨_, rfl⟩
  rw [← e15] at X h1
  refine lv_aload_n hx hb dL_law_213 rfl (lv_at hl 3 rfl) ?_
  refine l_arg J hi6 1 (by decide) X hl (List.mem_of_getElem? (i := 0) rfl) (List.mem_of_getElem? (i := 4) rfl) dL_law_214 dL_law_215 dL_law_217 dL_law_218 dL_law_219 ?_
  refine l_arg J hi6 2 (by decide) X hl (List.mem_of_getElem? (i := 0) rfl) (List.mem_of_getElem? (i := 4) rfl) dL_law_220 dL_law_221 dL_law_223 dL_law_224 dL_law_225 ?_
  refine dtI_go (S := Unit) (w := wcat [anP Z an wo La.1 Li.1 Lt.1 ta.1 tb.1 tc.1 rd.1 rp rk hi sb (σ1.2 41), landP Z La τ]) (wf := wcat [wkP Z (wo, La.1, tm.1, vq) r0 a4 a5 a6 a7 a8 a9 a10 a11 vv, landP Z Li τi, landP Z Lt τt, thP Z tm FM KM, thP Z ta F K, thP Z tb F5 K5, thP Z tc F3 K3, rdP Z rd b0 rq, ruP rp 0 0, ruP rk 3 0, shOn (shF Z sb sc σ1) 8, mw mo mq 12 (Z 0) (Z 1) σ, elO Z oq g]) (w' := fun _ => wcat [anP Z an wo La.1 Li.1 Lt.1 ta.1 tb.1 tc.1 rd.1 rp rk hi sb (σ1.2 41), landP Z La τ]) (W1 := fun _ => wcat [anP Z an wo La.1 Li.1 Lt.1 ta.1 tb.1 tc.1 rd.1 rp rk hi sb (σ1.2 41), wkP Z (wo, La.1, tm.1, vq) r0 a4 a5 a6 a7 a8 a9 a10 a11 vv, landP Z La τ, landP Z Li τi, landP Z Lt τt, thP Z tm FM KM, thP Z ta F K, thP Z tb F5 K5, thP Z tc F3 K3, rdP Z rd b0 rq, ruP rp 0 0, ruP rk 3 0, shOn (shF Z sb sc σ1) 8, mw mo mq 12 (Z 0) (Z 1) σ, elO Z oq g]) G X (wsel2 [0, 2, 1, 3, 4, 5, 6, 7, 8, 9, 10, 11, 12, 13, 14] 15 rfl rfl rfl) (run_V (As := [.int (xs (i + 1)), .int (xs (i + 2))]) (rest := []) (n := 2) G hml hts hl.1 (p_recv G X 0 0 rfl rfl rfl) (k11_road (lE_ok ad av) (xs (i + 1)) (xs (i + 2)) (h1.2.1.2.2.1.1) _) (cwV 2 hts (gg_W lT_good (fun v h => lT_c h) (lT_c ck_556) (lT_l (List.mem_of_getElem? (i := 17) rfl)) (lT_l (List.mem_of_getElem? (i := 18) rfl)) (lT_l (List.mem_of_getElem? (i := 19) rfl)) (lT_l (List.mem_of_getElem? (i := 2) rfl))) rfl rfl rfl (by decide +kernel) ⟨Nat.le_of_ble_eq_true rfl, Nat.le_of_ble_eq_true rfl⟩) rfl (Nat.le_of_ble_eq_true rfl) dL_law_226 (hrm _ _ (Nat.le_of_ble_eq_true rfl) (Nat.le_of_ble_eq_true rfl))) (fun _ => wback2 [0, 2, 1, 3, 4, 5, 6, 7, 8, 9, 10, 11, 12, 13, 14] 15 rfl rfl rfl) (fun H locs _ _ X => ?_)
  refine lv_aload_n hx hb dL_law_229 rfl (lv_at hl 2 rfl) ?_
  refine l_arg J hi6 1 (by decide) X hl (List.mem_of_getElem? (i := 0) rfl) (List.mem_of_getElem? (i := 4) rfl) dL_law_230 dL_law_231 dL_law_233 dL_law_234 dL_law_235 ?_
  refine l_arg J hi6 2 (by decide) X hl (List.mem_of_getElem? (i := 0) rfl) (List.mem_of_getElem? (i := 4) rfl) dL_law_236 dL_law_237 dL_law_239 dL_law_240 dL_law_241 ?_
  refine ctIP_V (w := mw mo mq 12 (Z 0) (Z 1) σ) (wf := wcat [anP Z an wo La.1 Li.1 Lt.1 ta.1 tb.1 tc.1 rd.1 rp rk hi sb (σ1.2 41), wkP Z (wo, La.1, tm.1, vq) r0 a4 a5 a6 a7 a8 a9 a10 a11 vv, landP Z La τ, landP Z Li τi, landP Z Lt τt, thP Z tm FM KM, thP Z ta F K, thP Z tb F5 K5, thP Z tc F3 K3, rdP Z rd b0 rq, ruP rp 0 0, ruP rk 3 0, shOn (shF Z sb sc σ1) 8, elO Z oq g]) (As := [.int (xs (i + 1)), .int (xs (i + 2))]) (rest := [.int (zroadS τ (xs (i + 1)) (xs (i + 2)))]) (n := 2) hx hb hml G.2.2.1 hts G.2.2.2.2.1 G.2.2.2.2.2.2.2 (wh_perm (lsel [13, 0, 1, 2, 3, 4, 5, 6, 7, 8, 9, 10, 11, 12, 14] 15 rfl rfl rfl) X) hl.1 (p_recv G X 13 0 rfl rfl rfl) (c_road rfl rfl rfl e15 (xs (i + 1)) (xs (i + 2)) h1.1.1.1 h1.1.2.1) (cwV 2 hts (gg_W lT_good (fun v h => lT_m h) (lT_m mk_101) (lT_l (List.mem_of_getElem? (i := 20) rfl)) (lT_l (List.mem_of_getElem? (i := 21) rfl)) (lT_l (List.mem_of_getElem? (i := 22) rfl)) (lT_l (List.mem_of_getElem? (i := 5) rfl))) rfl rfl rfl (by decide +kernel) ⟨Nat.le_of_ble_eq_true rfl, Nat.le_of_ble_eq_true rfl⟩) rfl (Nat.le_of_ble_eq_true rfl) dL_law_242 (hrm _ _ (Nat.le_of_ble_eq_true rfl) (Nat.le_of_ble_eq_true rfl)) (fun H locs u9 hu X => ?_)
  refine lv_icmp_eq (tgt := 1505) hx hb dL_law_245 (by decide) (fun _ => ?_) (fun q9 => absurd (lk_road (zRel_ag h1) (h1.2.1.2.2.1.1)) q9)
  have es : shF Z sb sc σ1 = shF Z sb sc u9 ∧ σ1.2 41 = u9.2 41 := (lshE hu)
  rw [es.1, es.2] at X
  refine W.widen (k := cells + 6) (n := slots + 102) (Nat.add_le_add_left (Nat.le_of_ble_eq_true rfl) _) (Nat.add_le_add_left (Nat.le_of_ble_eq_true rfl) _) ?_
  exact back _ _ _ _ _ _ H locs ls (zRel_St h1 (mEq_St hu)) ⟨τt, sb, sc, FM, KM, vv, K, K5, F3, K3, rq, g, r0, a4, a5, a6, a7, a8, a9, a10, a11, b0, hz, wh_perm (lback [13, 0, 1, 2, 3, 4, 5, 6, 7, 8, 9, 10, 11, 12, 14] 15 rfl rfl rfl) X⟩ hl
set_option maxHeartbeats 4000000 in
set_option maxRecDepth 100000 in
theorem law_world (J : lG ad av p l c s m args D Z A b L xs) (hi6 : i + 6 ≤ L) (hrm : ∀ k n : Nat, k ≤ 6 → n ≤ 102 → cells + k ≤ room_1.cells ∧ slots + n ≤ room_1.slots) (h : zRel σ τ τi F F5 hi) (I : lInv Z an wo vq La Li Lt tm ta tb tc rd rp rk mo mq oq D A s.heap H locs σ τ τi F F5 hi) (hl : lv_has ls 8 [(4, .int (nI i)), (3, .ref oq), (2, .ref mo), (1, .ref an.1), (0, .ref b)])
    (back : ∀ (σ τ τi : MS) (F F5 : Nat → Nat) (hi : Nat) (H : Heap) (locs : List Loc) (ls : Array Slot), zRel σ τ τi F F5 hi → lInv Z an wo vq La Li Lt tm ta tb tc rd rp rk mo mq oq D A s.heap H locs σ τ τi F F5 hi → lv_has ls 8 [(4, .int (nI i)), (3, .ref oq), (2, .ref mo), (1, .ref an.1), (0, .ref b)] → W p l e room_1 s m args below meth c H locs (cells + 6) (slots + 102) Q (F0 m 1505 ls [])) : W p l e room_1 s m args below meth c H locs cells slots Q (F0 m 250 ls []) := by
  obtain ⟨τt, sb, sc, FM, KM, vv, K, K5, F3, K3, rq, g, r0, a4, a5, a6, a7, a8, a9, a10, a11, b0, hz, X⟩ := I
  have G := J.1
  have hml := J.2.1
  have hts := J.2.2.1
  have hst9 := J.2.2.2.1
  have hx := G.1
  have hb := G.2.1
  have h1 := lSt15 (v := 0) h
  have es0 := lsh15 (Z := Z) (sb := sb) (sc := sc) (σ := σ) (v := 0)
  rw [es0.1, es0.2] at X
  clear es0
  obtain ⟨σ1, e15⟩ : ∃ z, z = sF σ 15 0 := ⟨_, rfl⟩
  rw [← e15] at X h1
  refine lv_aload_n hx hb dL_law_250 rfl (lv_at hl 3 rfl) ?_
  refine l_arg J hi6 1 (by decide) X hl (List.mem_of_getElem? (i := 0) rfl) (List.mem_of_getElem? (i := 4) rfl) dL_law_251 dL_law_252 dL_law_254 dL_law_255 dL_law_256 ?_
  refine l_arg J hi6 2 (by decide) X hl (List.mem_of_getElem? (i := 0) rfl) (List.mem_of_getElem? (i := 4) rfl) dL_law_257 dL_law_258 dL_law_260 dL_law_261 dL_law_262 ?_
  refine dtI_go (S := Unit) (w := wcat [anP Z an wo La.1 Li.1 Lt.1 ta.1 tb.1 tc.1 rd.1 rp rk hi sb (σ1.2 41), landP Z La τ]) (wf := wcat [wkP Z (wo, La.1, tm.1, vq) r0 a4 a5 a6 a7 a8 a9 a10 a11 vv, landP Z Li τi, landP Z Lt τt, thP Z tm FM KM, thP Z ta F K, thP Z tb F5 K5, thP Z tc F3 K3, rdP Z rd b0 rq, ruP rp 0 0, ruP rk 3 0, shOn (shF Z sb sc σ1) 8, mw mo mq 12 (Z 0) (Z 1) σ, elO Z oq g]) (w' := fun _ => wcat [anP Z an wo La.1 Li.1 Lt.1 ta.1 tb.1 tc.1 rd.1 rp rk hi sb (σ1.2 41), landP Z La τ]) (W1 := fun _ => wcat [anP Z an wo La.1 Li.1 Lt.1 ta.1 tb.1 tc.1 rd.1 rp rk hi sb (σ1.2 41), wkP Z (wo, La.1, tm.1, vq) r0 a4 a5 a6 a7 a8 a9 a10 a11 vv, landP Z La τ, landP Z Li τi, landP Z Lt τt, thP Z tm FM KM, thP Z ta F K, thP Z tb F5 K5, thP Z tc F3 K3, rdP Z rd b0 rq, ruP rp 0 0, ruP rk 3 0, shOn (shF Z sb sc σ1) 8, mw mo mq 12 (Z 0) (Z 1) σ, elO Z oq g]) G X (wsel2 [0, 2, 1, 3, 4, 5, 6, 7, 8, 9, 10, 11, 12, 13, 14] 15 rfl rfl rfl) (run_V (As := [.int (xs (i + 1)), .int (xs (i + 2))]) (rest := []) (n := 2) G hml hts hl.1 (p_recv G X 0 0 rfl rfl rfl) (k11_world (lE_ok ad av) (xs (i + 1)) (xs (i + 2)) (h1.2.1.2.2.1.1) _) (cwV 2 hts (gg_W lT_good (fun v h => lT_c h) (lT_c ck_561) (lT_l (List.mem_of_getElem? (i := 23) rfl)) (lT_l (List.mem_of_getElem? (i := 24) rfl)) (lT_l (List.mem_of_getElem? (i := 25) rfl)) (lT_l (List.mem_of_getElem? (i := 2) rfl))) rfl rfl rfl (by decide +kernel) ⟨Nat.le_of_ble_eq_true rfl, Nat.le_of_ble_eq_true rfl⟩) rfl (Nat.le_of_ble_eq_true rfl) dL_law_263 (hrm _ _ (Nat.le_of_ble_eq_true rfl) (Nat.le_of_ble_eq_true rfl))) (fun _ => wback2 [0, 2, 1, 3, 4, 5, 6, 7, 8, 9, 10, 11, 12, 13, 14] 15 rfl rfl rfl) (fun H locs _ _ X => ?_)
  refine lv_aload_n hx hb dL_law_266 rfl (lv_at hl 2 rfl) ?_
  refine l_arg J hi6 1 (by decide) X hl (List.mem_of_getElem? (i := 0) rfl) (List.mem_of_getElem? (i := 4) rfl) dL_law_267 dL_law_268 dL_law_270 dL_law_271 dL_law_272 ?_
  refine l_arg J hi6 2 (by decide) X hl (List.mem_of_getElem? (i := 0) rfl) (List.mem_of_getElem? (i := 4) rfl) dL_law_273 dL_law_274 dL_law_276 dL_law_277 dL_law_278 ?_
  refine ctIP_V (w := mw mo mq 12 (Z 0) (Z 1) σ) (wf := wcat [anP Z an wo La.1 Li.1 Lt.1 ta.1 tb.1 tc.1 rd.1 rp rk hi sb (σ1.2 41), wkP Z (wo, La.1, tm.1, vq) r0 a4 a5 a6 a7 a8 a9 a10 a11 vv, landP Z La τ, landP Z Li τi, landP Z Lt τt, thP Z tm FM KM, thP Z ta F K, thP Z tb F5 K5, thP Z tc F3 K3, rdP Z rd b0 rq, ruP rp 0 0, ruP rk 3 0, shOn (shF Z sb sc σ1) 8, elO Z oq g]) (As := [.int (xs (i + 1)), .int (xs (i + 2))]) (rest := [.int (zworldS τ (xs (i + 1)) (xs (i + 2)))]) (n := 2) hx hb hml G.2.2.1 hts G.2.2.2.2.1 G.2.2.2.2.2.2.2 (wh_perm (lsel [13, 0, 1, 2, 3, 4, 5, 6, 7, 8, 9, 10, 11, 12, 14] 15 rfl rfl rfl) X) hl.1 (p_recv G X 13 0 rfl rfl rfl) (c_world rfl rfl rfl e15 (xs (i + 1)) (xs (i + 2)) h1.1.1.1 h1.1.2.1) (cwV 2 hts (gg_W lT_good (fun v h => lT_m h) (lT_m mk_103) (lT_l (List.mem_of_getElem? (i := 26) rfl)) (lT_l (List.mem_of_getElem? (i := 27) rfl)) (lT_l (List.mem_of_getElem? (i := 28) rfl)) (lT_l (List.mem_of_getElem? (i := 5) rfl))) rfl rfl rfl (by decide +kernel) ⟨Nat.le_of_ble_eq_true rfl, Nat.le_of_ble_eq_true rfl⟩) rfl (Nat.le_of_ble_eq_true rfl) dL_law_279 (hrm _ _ (Nat.le_of_ble_eq_true rfl) (Nat.le_of_ble_eq_true rfl)) (fun H locs u9 hu X => ?_)
  refine lv_icmp_eq (tgt := 1505) hx hb dL_law_282 (by decide) (fun _ => ?_) (fun q9 => absurd (lk_world (zRel_ag h1) (h1.2.1.2.2.1.1)) q9)
  have es : shF Z sb sc σ1 = shF Z sb sc u9 ∧ σ1.2 41 = u9.2 41 := (lshE hu)
  rw [es.1, es.2] at X
  refine W.widen (k := cells + 6) (n := slots + 102) (Nat.add_le_add_left (Nat.le_of_ble_eq_true rfl) _) (Nat.add_le_add_left (Nat.le_of_ble_eq_true rfl) _) ?_
  exact back _ _ _ _ _ _ H locs ls (zRel_St h1 (mEq_St hu)) ⟨τt, sb, sc, FM, KM, vv, K, K5, F3, K3, rq, g, r0, a4, a5, a6, a7, a8, a9, a10, a11, b0, hz, wh_perm (lback [13, 0, 1, 2, 3, 4, 5, 6, 7, 8, 9, 10, 11, 12, 14] 15 rfl rfl rfl) X⟩ hl
set_option maxHeartbeats 4000000 in
set_option maxRecDepth 100000 in
theorem law_met (J : lG ad av p l c s m args D Z A b L xs) (hi6 : i + 6 ≤ L) (hrm : ∀ k n : Nat, k ≤ 6 → n ≤ 102 → cells + k ≤ room_1.cells ∧ slots + n ≤ room_1.slots) (h : zRel σ τ τi F F5 hi) (I : lInv Z an wo vq La Li Lt tm ta tb tc rd rp rk mo mq oq D A s.heap H locs σ τ τi F F5 hi) (hl : lv_has ls 8 [(4, .int (nI i)), (3, .ref oq), (2, .ref mo), (1, .ref an.1), (0, .ref b)])
    (back : ∀ (σ τ τi : MS) (F F5 : Nat → Nat) (hi : Nat) (H : Heap) (locs : List Loc) (ls : Array Slot), zRel σ τ τi F F5 hi → lInv Z an wo vq La Li Lt tm ta tb tc rd rp rk mo mq oq D A s.heap H locs σ τ τi F F5 hi → lv_has ls 8 [(4, .int (nI i)), (3, .ref oq), (2, .ref mo), (1, .ref an.1), (0, .ref b)] → W p l e room_1 s m args below meth c H locs (cells + 6) (slots + 102) Q (F0 m 1505 ls [])) : W p l e room_1 s m args below meth c H locs cells slots Q (F0 m 287 ls []) := by
  obtain ⟨τt, sb, sc, FM, KM, vv, K, K5, F3, K3, rq, g, r0, a4, a5, a6, a7, a8, a9, a10, a11, b0, hz, X⟩ := I
  have G := J.1
  have hml := J.2.1
  have hts := J.2.2.1
  have hst9 := J.2.2.2.1
  have hx := G.1
  have hb := G.2.1
  have h1 := lSt15 (v := 0) h
  have es0 := lsh15 (Z := Z) (sb := sb) (sc := sc) (σ := σ) (v := 0)
  rw [es0.1, es0.2] at X
  clear es0
  obtain ⟨σ1, e15⟩ : ∃ z, z = sF σ 15 0 := ⟨_, rfl⟩
  rw [← e15] at X h1
  refine lv_aload_n hx hb dL_law_287 rfl (lv_at hl 3 rfl) ?_
  refine l_arg J hi6 1 (by decide) X hl (List.mem_of_getElem? (i := 0) rfl) (List.mem_of_getElem? (i := 4) rfl) dL_law_288 dL_law_289 dL_law_291 dL_law_292 dL_law_293 ?_
  refine l_arg J hi6 2 (by decide) X hl (List.mem_of_getElem? (i := 0) rfl) (List.mem_of_getElem? (i := 4) rfl) dL_law_294 dL_law_295 dL_law_297 dL_law_298 dL_law_299 ?_
  refine dtI_go (S := Unit) (w := wcat [anP Z an wo La.1 Li.1 Lt.1 ta.1 tb.1 tc.1 rd.1 rp rk hi sb (σ1.2 41), landP Z La τ]) (wf := wcat [wkP Z (wo, La.1, tm.1, vq) r0 a4 a5 a6 a7 a8 a9 a10 a11 vv, landP Z Li τi, landP Z Lt τt, thP Z tm FM KM, thP Z ta F K, thP Z tb F5 K5, thP Z tc F3 K3, rdP Z rd b0 rq, ruP rp 0 0, ruP rk 3 0, shOn (shF Z sb sc σ1) 8, mw mo mq 12 (Z 0) (Z 1) σ, elO Z oq g]) (w' := fun _ => wcat [anP Z an wo La.1 Li.1 Lt.1 ta.1 tb.1 tc.1 rd.1 rp rk hi sb (σ1.2 41), landP Z La τ]) (W1 := fun _ => wcat [anP Z an wo La.1 Li.1 Lt.1 ta.1 tb.1 tc.1 rd.1 rp rk hi sb (σ1.2 41), wkP Z (wo, La.1, tm.1, vq) r0 a4 a5 a6 a7 a8 a9 a10 a11 vv, landP Z La τ, landP Z Li τi, landP Z Lt τt, thP Z tm FM KM, thP Z ta F K, thP Z tb F5 K5, thP Z tc F3 K3, rdP Z rd b0 rq, ruP rp 0 0, ruP rk 3 0, shOn (shF Z sb sc σ1) 8, mw mo mq 12 (Z 0) (Z 1) σ, elO Z oq g]) G X (wsel2 [0, 2, 1, 3, 4, 5, 6, 7, 8, 9, 10, 11, 12, 13, 14] 15 rfl rfl rfl) (run_V (As := [.int (xs (i + 1)), .int (xs (i + 2))]) (rest := []) (n := 2) G hml hts hl.1 (p_recv G X 0 0 rfl rfl rfl) (k11_met (lE_ok ad av) (xs (i + 1)) (xs (i + 2)) (h1.2.1.2.2.1.1) _) (cwV 2 hts (gg_W lT_good (fun v h => lT_c h) (lT_c ck_566) (lT_l (List.mem_of_getElem? (i := 29) rfl)) (lT_l (List.mem_of_getElem? (i := 30) rfl)) (lT_l (List.mem_of_getElem? (i := 31) rfl)) (lT_l (List.mem_of_getElem? (i := 2) rfl))) rfl rfl rfl (by decide +kernel) ⟨Nat.le_of_ble_eq_true rfl, Nat.le_of_ble_eq_true rfl⟩) rfl (Nat.le_of_ble_eq_true rfl) dL_law_300 (hrm _ _ (Nat.le_of_ble_eq_true rfl) (Nat.le_of_ble_eq_true rfl))) (fun _ => wback2 [0, 2, 1, 3, 4, 5, 6, 7, 8, 9, 10, 11, 12, 13, 14] 15 rfl rfl rfl) (fun H locs _ _ X => ?_)
  refine lv_aload_n hx hb dL_law_303 rfl (lv_at hl 2 rfl) ?_
  refine l_arg J hi6 1 (by decide) X hl (List.mem_of_getElem? (i := 0) rfl) (List.mem_of_getElem? (i := 4) rfl) dL_law_304 dL_law_305 dL_law_307 dL_law_308 dL_law_309 ?_
  refine l_arg J hi6 2 (by decide) X hl (List.mem_of_getElem? (i := 0) rfl) (List.mem_of_getElem? (i := 4) rfl) dL_law_310 dL_law_311 dL_law_313 dL_law_314 dL_law_315 ?_
  refine ctIP_V (w := mw mo mq 12 (Z 0) (Z 1) σ) (wf := wcat [anP Z an wo La.1 Li.1 Lt.1 ta.1 tb.1 tc.1 rd.1 rp rk hi sb (σ1.2 41), wkP Z (wo, La.1, tm.1, vq) r0 a4 a5 a6 a7 a8 a9 a10 a11 vv, landP Z La τ, landP Z Li τi, landP Z Lt τt, thP Z tm FM KM, thP Z ta F K, thP Z tb F5 K5, thP Z tc F3 K3, rdP Z rd b0 rq, ruP rp 0 0, ruP rk 3 0, shOn (shF Z sb sc σ1) 8, elO Z oq g]) (As := [.int (xs (i + 1)), .int (xs (i + 2))]) (rest := [.int (zmetS τ (xs (i + 1)) (xs (i + 2)))]) (n := 2) hx hb hml G.2.2.1 hts G.2.2.2.2.1 G.2.2.2.2.2.2.2 (wh_perm (lsel [13, 0, 1, 2, 3, 4, 5, 6, 7, 8, 9, 10, 11, 12, 14] 15 rfl rfl rfl) X) hl.1 (p_recv G X 13 0 rfl rfl rfl) (c_met rfl rfl rfl e15 (xs (i + 1)) (xs (i + 2)) h1.1.1.1 h1.1.2.1) (cwV 2 hts (gg_W lT_good (fun v h => lT_m h) (lT_m mk_107) (lT_l (List.mem_of_getElem? (i := 32) rfl)) (lT_l (List.mem_of_getElem? (i := 33) rfl)) (lT_l (List.mem_of_getElem? (i := 34) rfl)) (lT_l (List.mem_of_getElem? (i := 5) rfl))) rfl rfl rfl (by decide +kernel) ⟨Nat.le_of_ble_eq_true rfl, Nat.le_of_ble_eq_true rfl⟩) rfl (Nat.le_of_ble_eq_true rfl) dL_law_316 (hrm _ _ (Nat.le_of_ble_eq_true rfl) (Nat.le_of_ble_eq_true rfl)) (fun H locs u9 hu X => ?_)
  refine lv_icmp_eq (tgt := 1505) hx hb dL_law_319 (by decide) (fun _ => ?_) (fun q9 => absurd (lk_met (zRel_ag h1) (h1.2.1.2.2.1.1)) q9)
  have es : shF Z sb sc σ1 = shF Z sb sc u9 ∧ σ1.2 41 = u9.2 41 := (lshE hu)
  rw [es.1, es.2] at X
  refine W.widen (k := cells + 6) (n := slots + 102) (Nat.add_le_add_left (Nat.le_of_ble_eq_true rfl) _) (Nat.add_le_add_left (Nat.le_of_ble_eq_true rfl) _) ?_
  exact back _ _ _ _ _ _ H locs ls (zRel_St h1 (mEq_St hu)) ⟨τt, sb, sc, FM, KM, vv, K, K5, F3, K3, rq, g, r0, a4, a5, a6, a7, a8, a9, a10, a11, b0, hz, wh_perm (lback [13, 0, 1, 2, 3, 4, 5, 6, 7, 8, 9, 10, 11, 12, 14] 15 rfl rfl rfl) X⟩ hl
set_option maxHeartbeats 4000000 in
set_option maxRecDepth 100000 in
theorem law_set (J : lG ad av p l c s m args D Z A b L xs) (hi6 : i + 6 ≤ L) (hrm : ∀ k n : Nat, k ≤ 6 → n ≤ 102 → cells + k ≤ room_1.cells ∧ slots + n ≤ room_1.slots) (h : zRel σ τ τi F F5 hi) (I : lInv Z an wo vq La Li Lt tm ta tb tc rd rp rk mo mq oq D A s.heap H locs σ τ τi F F5 hi) (hl : lv_has ls 8 [(4, .int (nI i)), (3, .ref oq), (2, .ref mo), (1, .ref an.1), (0, .ref b)])
    (back : ∀ (σ τ τi : MS) (F F5 : Nat → Nat) (hi : Nat) (H : Heap) (locs : List Loc) (ls : Array Slot), zRel σ τ τi F F5 hi → lInv Z an wo vq La Li Lt tm ta tb tc rd rp rk mo mq oq D A s.heap H locs σ τ τi F F5 hi → lv_has ls 8 [(4, .int (nI i)), (3, .ref oq), (2, .ref mo), (1, .ref an.1), (0, .ref b)] → W p l e room_1 s m args below meth c H locs (cells + 6) (slots + 102) Q (F0 m 1505 ls [])) : W p l e room_1 s m args below meth c H locs cells slots Q (F0 m 324 ls []) := by
  obtain ⟨τt, sb, sc, FM, KM, vv, K, K5, F3, K3, rq, g, r0, a4, a5, a6, a7, a8, a9, a10, a11, b0, hz, X⟩ := I
  have G := J.1
  have hml := J.2.1
  have hts := J.2.2.1
  have hst9 := J.2.2.2.1
  have hx := G.1
  have hb := G.2.1
  have h1 := lSt15 (v := 0) h
  have es0 := lsh15 (Z := Z) (sb := sb) (sc := sc) (σ := σ) (v := 0)
  rw [es0.1, es0.2] at X
  clear es0
  obtain ⟨σ1, e15⟩ : ∃ z, z = sF σ 15 0 := ⟨_, rfl⟩
  rw [← e15] at X h1
  refine lv_aload_n hx hb dL_law_324 rfl (lv_at hl 3 rfl) ?_
  refine l_arg J hi6 1 (by decide) X hl (List.mem_of_getElem? (i := 0) rfl) (List.mem_of_getElem? (i := 4) rfl) dL_law_325 dL_law_326 dL_law_328 dL_law_329 dL_law_330 ?_
  refine l_arg J hi6 2 (by decide) X hl (List.mem_of_getElem? (i := 0) rfl) (List.mem_of_getElem? (i := 4) rfl) dL_law_331 dL_law_332 dL_law_334 dL_law_335 dL_law_336 ?_
  refine dtI_go (S := Unit) (w := wcat [anP Z an wo La.1 Li.1 Lt.1 ta.1 tb.1 tc.1 rd.1 rp rk hi sb (σ1.2 41), landP Z La τ]) (wf := wcat [wkP Z (wo, La.1, tm.1, vq) r0 a4 a5 a6 a7 a8 a9 a10 a11 vv, landP Z Li τi, landP Z Lt τt, thP Z tm FM KM, thP Z ta F K, thP Z tb F5 K5, thP Z tc F3 K3, rdP Z rd b0 rq, ruP rp 0 0, ruP rk 3 0, shOn (shF Z sb sc σ1) 8, mw mo mq 12 (Z 0) (Z 1) σ, elO Z oq g]) (w' := fun _ => wcat [anP Z an wo La.1 Li.1 Lt.1 ta.1 tb.1 tc.1 rd.1 rp rk hi sb (σ1.2 41), landP Z La (zsetC τ (xs (i + 1)) (xs (i + 2)))]) (W1 := fun _ => wcat [anP Z an wo La.1 Li.1 Lt.1 ta.1 tb.1 tc.1 rd.1 rp rk hi sb (σ1.2 41), wkP Z (wo, La.1, tm.1, vq) r0 a4 a5 a6 a7 a8 a9 a10 a11 vv, landP Z La (zsetC τ (xs (i + 1)) (xs (i + 2))), landP Z Li τi, landP Z Lt τt, thP Z tm FM KM, thP Z ta F K, thP Z tb F5 K5, thP Z tc F3 K3, rdP Z rd b0 rq, ruP rp 0 0, ruP rk 3 0, shOn (shF Z sb sc σ1) 8, mw mo mq 12 (Z 0) (Z 1) σ, elO Z oq g]) G X (wsel2 [0, 2, 1, 3, 4, 5, 6, 7, 8, 9, 10, 11, 12, 13, 14] 15 rfl rfl rfl) (run_V (As := [.int (xs (i + 1)), .int (xs (i + 2))]) (rest := []) (n := 2) G hml hts hl.1 (p_recv G X 0 0 rfl rfl rfl) (k11_set (lE_ok ad av) (xs (i + 1)) (xs (i + 2)) (h1.2.1.2.2.1.1) _) (cwV 2 hts (gg_W lT_good (fun v h => lT_c h) (lT_c ck_570) (lT_l (List.mem_of_getElem? (i := 35) rfl)) (lT_l (List.mem_of_getElem? (i := 36) rfl)) (lT_l (List.mem_of_getElem? (i := 37) rfl)) (lT_l (List.mem_of_getElem? (i := 2) rfl))) rfl rfl rfl (by decide +kernel) ⟨Nat.le_of_ble_eq_true rfl, Nat.le_of_ble_eq_true rfl⟩) rfl (Nat.le_of_ble_eq_true rfl) dL_law_337 (hrm _ _ (Nat.le_of_ble_eq_true rfl) (Nat.le_of_ble_eq_true rfl))) (fun _ => wback2 [0, 2, 1, 3, 4, 5, 6, 7, 8, 9, 10, 11, 12, 13, 14] 15 rfl rfl rfl) (fun H locs _ _ X => ?_)
  refine lv_aload_n hx hb dL_law_340 rfl (lv_at hl 2 rfl) ?_
  refine l_arg J hi6 1 (by decide) X hl (List.mem_of_getElem? (i := 0) rfl) (List.mem_of_getElem? (i := 4) rfl) dL_law_341 dL_law_342 dL_law_344 dL_law_345 dL_law_346 ?_
  refine l_arg J hi6 2 (by decide) X hl (List.mem_of_getElem? (i := 0) rfl) (List.mem_of_getElem? (i := 4) rfl) dL_law_347 dL_law_348 dL_law_350 dL_law_351 dL_law_352 ?_
  refine ctIP_V (w := mw mo mq 12 (Z 0) (Z 1) σ) (wf := wcat [anP Z an wo La.1 Li.1 Lt.1 ta.1 tb.1 tc.1 rd.1 rp rk hi sb (σ1.2 41), wkP Z (wo, La.1, tm.1, vq) r0 a4 a5 a6 a7 a8 a9 a10 a11 vv, landP Z La (zsetC τ (xs (i + 1)) (xs (i + 2))), landP Z Li τi, landP Z Lt τt, thP Z tm FM KM, thP Z ta F K, thP Z tb F5 K5, thP Z tc F3 K3, rdP Z rd b0 rq, ruP rp 0 0, ruP rk 3 0, shOn (shF Z sb sc σ1) 8, elO Z oq g]) (As := [.int (xs (i + 1)), .int (xs (i + 2))]) (rest := [.int (zsetS τ (xs (i + 1)) (xs (i + 2)))]) (n := 2) hx hb hml G.2.2.1 hts G.2.2.2.2.1 G.2.2.2.2.2.2.2 (wh_perm (lsel [13, 0, 1, 2, 3, 4, 5, 6, 7, 8, 9, 10, 11, 12, 14] 15 rfl rfl rfl) X) hl.1 (p_recv G X 13 0 rfl rfl rfl) (c_set rfl rfl rfl e15 (xs (i + 1)) (xs (i + 2)) h1.1.1.1 h1.1.2.1) (cwV 2 hts (gg_W lT_good (fun v h => lT_m h) (lT_m mk_111) (lT_l (List.mem_of_getElem? (i := 38) rfl)) (lT_l (List.mem_of_getElem? (i := 39) rfl)) (lT_l (List.mem_of_getElem? (i := 40) rfl)) (lT_l (List.mem_of_getElem? (i := 5) rfl))) rfl rfl rfl (by decide +kernel) ⟨Nat.le_of_ble_eq_true rfl, Nat.le_of_ble_eq_true rfl⟩) rfl (Nat.le_of_ble_eq_true rfl) dL_law_353 (hrm _ _ (Nat.le_of_ble_eq_true rfl) (Nat.le_of_ble_eq_true rfl)) (fun H locs u9 hu X => ?_)
  refine lv_icmp_eq (tgt := 1505) hx hb dL_law_356 (by decide) (fun _ => ?_) (fun q9 => absurd (lk_setS (zRel_ag h1)) q9)
  have es : shF Z sb sc σ1 = shF Z sb sc u9 ∧ σ1.2 41 = u9.2 41 := (lshT zset_sh hu)
  rw [es.1, es.2] at X
  refine W.widen (k := cells + 6) (n := slots + 102) (Nat.add_le_add_left (Nat.le_of_ble_eq_true rfl) _) (Nat.add_le_add_left (Nat.le_of_ble_eq_true rfl) _) ?_
  exact back _ _ _ _ _ _ H locs ls (zRel_set h1 hu) ⟨τt, sb, sc, FM, KM, vv, K, K5, F3, K3, rq, g, r0, a4, a5, a6, a7, a8, a9, a10, a11, b0, hz, wh_perm (lback [13, 0, 1, 2, 3, 4, 5, 6, 7, 8, 9, 10, 11, 12, 14] 15 rfl rfl rfl) X⟩ hl
set_option maxHeartbeats 4000000 in
set_option maxRecDepth 100000 in
theorem law_way (J : lG ad av p l c s m args D Z A b L xs) (hi6 : i + 6 ≤ L) (hrm : ∀ k n : Nat, k ≤ 6 → n ≤ 102 → cells + k ≤ room_1.cells ∧ slots + n ≤ room_1.slots) (h : zRel σ τ τi F F5 hi) (I : lInv Z an wo vq La Li Lt tm ta tb tc rd rp rk mo mq oq D A s.heap H locs σ τ τi F F5 hi) (hl : lv_has ls 8 [(4, .int (nI i)), (3, .ref oq), (2, .ref mo), (1, .ref an.1), (0, .ref b)])
    (back : ∀ (σ τ τi : MS) (F F5 : Nat → Nat) (hi : Nat) (H : Heap) (locs : List Loc) (ls : Array Slot), zRel σ τ τi F F5 hi → lInv Z an wo vq La Li Lt tm ta tb tc rd rp rk mo mq oq D A s.heap H locs σ τ τi F F5 hi → lv_has ls 8 [(4, .int (nI i)), (3, .ref oq), (2, .ref mo), (1, .ref an.1), (0, .ref b)] → W p l e room_1 s m args below meth c H locs (cells + 6) (slots + 102) Q (F0 m 1505 ls [])) : W p l e room_1 s m args below meth c H locs cells slots Q (F0 m 361 ls []) := by
  obtain ⟨τt, sb, sc, FM, KM, vv, K, K5, F3, K3, rq, g, r0, a4, a5, a6, a7, a8, a9, a10, a11, b0, hz, X⟩ := I
  have G := J.1
  have hml := J.2.1
  have hts := J.2.2.1
  have hst9 := J.2.2.2.1
  have hx := G.1
  have hb := G.2.1
  have h1 := lSt15 (v := 0) h
  have es0 := lsh15 (Z := Z) (sb := sb) (sc := sc) (σ := σ) (v := 0)
  rw [es0.1, es0.2] at X
  clear es0
  obtain ⟨σ1, e15⟩ : ∃ z, z = sF σ 15 0 := ⟨_, rfl⟩
  rw [← e15] at X h1
  refine lv_aload_n hx hb dL_law_361 rfl (lv_at hl 3 rfl) ?_
  refine l_arg J hi6 1 (by decide) X hl (List.mem_of_getElem? (i := 0) rfl) (List.mem_of_getElem? (i := 4) rfl) dL_law_362 dL_law_363 dL_law_365 dL_law_366 dL_law_367 ?_
  refine l_arg J hi6 2 (by decide) X hl (List.mem_of_getElem? (i := 0) rfl) (List.mem_of_getElem? (i := 4) rfl) dL_law_368 dL_law_369 dL_law_371 dL_law_372 dL_law_373 ?_
  refine dtI_go (S := Unit) (w := wcat [anP Z an wo La.1 Li.1 Lt.1 ta.1 tb.1 tc.1 rd.1 rp rk hi sb (σ1.2 41), landP Z La τ]) (wf := wcat [wkP Z (wo, La.1, tm.1, vq) r0 a4 a5 a6 a7 a8 a9 a10 a11 vv, landP Z Li τi, landP Z Lt τt, thP Z tm FM KM, thP Z ta F K, thP Z tb F5 K5, thP Z tc F3 K3, rdP Z rd b0 rq, ruP rp 0 0, ruP rk 3 0, shOn (shF Z sb sc σ1) 8, mw mo mq 12 (Z 0) (Z 1) σ, elO Z oq g]) (w' := fun _ => wcat [anP Z an wo La.1 Li.1 Lt.1 ta.1 tb.1 tc.1 rd.1 rp rk hi sb (σ1.2 41), landP Z La τ]) (W1 := fun _ => wcat [anP Z an wo La.1 Li.1 Lt.1 ta.1 tb.1 tc.1 rd.1 rp rk hi sb (σ1.2 41), wkP Z (wo, La.1, tm.1, vq) r0 a4 a5 a6 a7 a8 a9 a10 a11 vv, landP Z La τ, landP Z Li τi, landP Z Lt τt, thP Z tm FM KM, thP Z ta F K, thP Z tb F5 K5, thP Z tc F3 K3, rdP Z rd b0 rq, ruP rp 0 0, ruP rk 3 0, shOn (shF Z sb sc σ1) 8, mw mo mq 12 (Z 0) (Z 1) σ, elO Z oq g]) G X (wsel2 [0, 2, 1, 3, 4, 5, 6, 7, 8, 9, 10, 11, 12, 13, 14] 15 rfl rfl rfl) (run_V (As := [.int (xs (i + 1)), .int (xs (i + 2))]) (rest := []) (n := 2) G hml hts hl.1 (p_recv G X 0 0 rfl rfl rfl) (k11_way (lE_ok ad av) (xs (i + 1)) (xs (i + 2)) (h1.2.1.2.2.1.1) _) (cwV 2 hts (gg_W lT_good (fun v h => lT_c h) (lT_c ck_573) (lT_l (List.mem_of_getElem? (i := 41) rfl)) (lT_l (List.mem_of_getElem? (i := 42) rfl)) (lT_l (List.mem_of_getElem? (i := 43) rfl)) (lT_l (List.mem_of_getElem? (i := 2) rfl))) rfl rfl rfl (by decide +kernel) ⟨Nat.le_of_ble_eq_true rfl, Nat.le_of_ble_eq_true rfl⟩) rfl (Nat.le_of_ble_eq_true rfl) dL_law_374 (hrm _ _ (Nat.le_of_ble_eq_true rfl) (Nat.le_of_ble_eq_true rfl))) (fun _ => wback2 [0, 2, 1, 3, 4, 5, 6, 7, 8, 9, 10, 11, 12, 13, 14] 15 rfl rfl rfl) (fun H locs _ _ X => ?_)
  refine lv_aload_n hx hb dL_law_377 rfl (lv_at hl 2 rfl) ?_
  refine l_arg J hi6 1 (by decide) X hl (List.mem_of_getElem? (i := 0) rfl) (List.mem_of_getElem? (i := 4) rfl) dL_law_378 dL_law_379 dL_law_381 dL_law_382 dL_law_383 ?_
  refine l_arg J hi6 2 (by decide) X hl (List.mem_of_getElem? (i := 0) rfl) (List.mem_of_getElem? (i := 4) rfl) dL_law_384 dL_law_385 dL_law_387 dL_law_388 dL_law_389 ?_
  refine ctIP_V (w := mw mo mq 12 (Z 0) (Z 1) σ) (wf := wcat [anP Z an wo La.1 Li.1 Lt.1 ta.1 tb.1 tc.1 rd.1 rp rk hi sb (σ1.2 41), wkP Z (wo, La.1, tm.1, vq) r0 a4 a5 a6 a7 a8 a9 a10 a11 vv, landP Z La τ, landP Z Li τi, landP Z Lt τt, thP Z tm FM KM, thP Z ta F K, thP Z tb F5 K5, thP Z tc F3 K3, rdP Z rd b0 rq, ruP rp 0 0, ruP rk 3 0, shOn (shF Z sb sc σ1) 8, elO Z oq g]) (As := [.int (xs (i + 1)), .int (xs (i + 2))]) (rest := [.int (zwayC τ (xs (i + 1)) (xs (i + 2)))]) (n := 2) hx hb hml G.2.2.1 hts G.2.2.2.2.1 G.2.2.2.2.2.2.2 (wh_perm (lsel [13, 0, 1, 2, 3, 4, 5, 6, 7, 8, 9, 10, 11, 12, 14] 15 rfl rfl rfl) X) hl.1 (p_recv G X 13 0 rfl rfl rfl) (c_way rfl rfl rfl e15 (xs (i + 1)) (xs (i + 2)) h1.1.1.1 h1.1.2.1) (cwV 2 hts (gg_W lT_good (fun v h => lT_m h) (lT_m mk_131) (lT_l (List.mem_of_getElem? (i := 44) rfl)) (lT_l (List.mem_of_getElem? (i := 45) rfl)) (lT_l (List.mem_of_getElem? (i := 46) rfl)) (lT_l (List.mem_of_getElem? (i := 5) rfl))) rfl rfl rfl (by decide +kernel) ⟨Nat.le_of_ble_eq_true rfl, Nat.le_of_ble_eq_true rfl⟩) rfl (Nat.le_of_ble_eq_true rfl) dL_law_390 (hrm _ _ (Nat.le_of_ble_eq_true rfl) (Nat.le_of_ble_eq_true rfl)) (fun H locs u9 hu X => ?_)
  refine lv_icmp_eq (tgt := 1505) hx hb dL_law_393 (by decide) (fun _ => ?_) (fun q9 => absurd (lk_way (zRel_ag h1) (h1.2.1.2.2.1.1)) q9)
  have es : shF Z sb sc σ1 = shF Z sb sc u9 ∧ σ1.2 41 = u9.2 41 := (lshE hu)
  rw [es.1, es.2] at X
  refine W.widen (k := cells + 6) (n := slots + 102) (Nat.add_le_add_left (Nat.le_of_ble_eq_true rfl) _) (Nat.add_le_add_left (Nat.le_of_ble_eq_true rfl) _) ?_
  exact back _ _ _ _ _ _ H locs ls (zRel_St h1 (mEq_St hu)) ⟨τt, sb, sc, FM, KM, vv, K, K5, F3, K3, rq, g, r0, a4, a5, a6, a7, a8, a9, a10, a11, b0, hz, wh_perm (lback [13, 0, 1, 2, 3, 4, 5, 6, 7, 8, 9, 10, 11, 12, 14] 15 rfl rfl rfl) X⟩ hl
set_option maxHeartbeats 4000000 in
set_option maxRecDepth 100000 in
theorem law_next (J : lG ad av p l c s m args D Z A b L xs) (hi6 : i + 6 ≤ L) (hrm : ∀ k n : Nat, k ≤ 6 → n ≤ 102 → cells + k ≤ room_1.cells ∧ slots + n ≤ room_1.slots) (h : zRel σ τ τi F F5 hi) (I : lInv Z an wo vq La Li Lt tm ta tb tc rd rp rk mo mq oq D A s.heap H locs σ τ τi F F5 hi) (hl : lv_has ls 8 [(4, .int (nI i)), (3, .ref oq), (2, .ref mo), (1, .ref an.1), (0, .ref b)])
    (back : ∀ (σ τ τi : MS) (F F5 : Nat → Nat) (hi : Nat) (H : Heap) (locs : List Loc) (ls : Array Slot), zRel σ τ τi F F5 hi → lInv Z an wo vq La Li Lt tm ta tb tc rd rp rk mo mq oq D A s.heap H locs σ τ τi F F5 hi → lv_has ls 8 [(4, .int (nI i)), (3, .ref oq), (2, .ref mo), (1, .ref an.1), (0, .ref b)] → W p l e room_1 s m args below meth c H locs (cells + 6) (slots + 102) Q (F0 m 1505 ls [])) : W p l e room_1 s m args below meth c H locs cells slots Q (F0 m 398 ls []) := by
  obtain ⟨τt, sb, sc, FM, KM, vv, K, K5, F3, K3, rq, g, r0, a4, a5, a6, a7, a8, a9, a10, a11, b0, hz, X⟩ := I
  have G := J.1
  have hml := J.2.1
  have hts := J.2.2.1
  have hst9 := J.2.2.2.1
  have hx := G.1
  have hb := G.2.1
  have h1 := lSt15 (v := 0) h
  have es0 := lsh15 (Z := Z) (sb := sb) (sc := sc) (σ := σ) (v := 0)
  rw [es0.1, es0.2] at X
  clear es0
  obtain ⟨σ1, e15⟩ : ∃ z, z = sF σ 15 0 := ⟨_, rfl⟩
  rw [← e15] at X h1
  refine lv_aload_n hx hb dL_law_398 rfl (lv_at hl 3 rfl) ?_
  refine l_arg J hi6 1 (by decide) X hl (List.mem_of_getElem? (i := 0) rfl) (List.mem_of_getElem? (i := 4) rfl) dL_law_399 dL_law_400 dL_law_402 dL_law_403 dL_law_404 ?_
  refine l_arg J hi6 2 (by decide) X hl (List.mem_of_getElem? (i := 0) rfl) (List.mem_of_getElem? (i := 4) rfl) dL_law_405 dL_law_406 dL_law_408 dL_law_409 dL_law_410 ?_
  refine dtI_go (S := Unit) (w := wcat [anP Z an wo La.1 Li.1 Lt.1 ta.1 tb.1 tc.1 rd.1 rp rk hi sb (σ1.2 41), landP Z La τ]) (wf := wcat [wkP Z (wo, La.1, tm.1, vq) r0 a4 a5 a6 a7 a8 a9 a10 a11 vv, landP Z Li τi, landP Z Lt τt, thP Z tm FM KM, thP Z ta F K, thP Z tb F5 K5, thP Z tc F3 K3, rdP Z rd b0 rq, ruP rp 0 0, ruP rk 3 0, shOn (shF Z sb sc σ1) 8, mw mo mq 12 (Z 0) (Z 1) σ, elO Z oq g]) (w' := fun _ => wcat [anP Z an wo La.1 Li.1 Lt.1 ta.1 tb.1 tc.1 rd.1 rp rk hi sb (σ1.2 41), landP Z La τ]) (W1 := fun _ => wcat [anP Z an wo La.1 Li.1 Lt.1 ta.1 tb.1 tc.1 rd.1 rp rk hi sb (σ1.2 41), wkP Z (wo, La.1, tm.1, vq) r0 a4 a5 a6 a7 a8 a9 a10 a11 vv, landP Z La τ, landP Z Li τi, landP Z Lt τt, thP Z tm FM KM, thP Z ta F K, thP Z tb F5 K5, thP Z tc F3 K3, rdP Z rd b0 rq, ruP rp 0 0, ruP rk 3 0, shOn (shF Z sb sc σ1) 8, mw mo mq 12 (Z 0) (Z 1) σ, elO Z oq g]) G X (wsel2 [0, 2, 1, 3, 4, 5, 6, 7, 8, 9, 10, 11, 12, 13, 14] 15 rfl rfl rfl) (run_V (As := [.int (xs (i + 1)), .int (xs (i + 2))]) (rest := []) (n := 2) G hml hts hl.1 (p_recv G X 0 0 rfl rfl rfl) (k11_next (lE_ok ad av) (xs (i + 1)) (xs (i + 2)) (h1.2.1.2.2.1.1) _) (cwV 2 hts (gg_W lT_good (fun v h => lT_c h) (lT_c ck_575) (lT_l (List.mem_of_getElem? (i := 47) rfl)) (lT_l (List.mem_of_getElem? (i := 48) rfl)) (lT_l (List.mem_of_getElem? (i := 49) rfl)) (lT_l (List.mem_of_getElem? (i := 2) rfl))) rfl rfl rfl (by decide +kernel) ⟨Nat.le_of_ble_eq_true rfl, Nat.le_of_ble_eq_true rfl⟩) rfl (Nat.le_of_ble_eq_true rfl) dL_law_411 (hrm _ _ (Nat.le_of_ble_eq_true rfl) (Nat.le_of_ble_eq_true rfl))) (fun _ => wback2 [0, 2, 1, 3, 4, 5, 6, 7, 8, 9, 10, 11, 12, 13, 14] 15 rfl rfl rfl) (fun H locs _ _ X => ?_)
  refine lv_aload_n hx hb dL_law_414 rfl (lv_at hl 2 rfl) ?_
  refine l_arg J hi6 1 (by decide) X hl (List.mem_of_getElem? (i := 0) rfl) (List.mem_of_getElem? (i := 4) rfl) dL_law_415 dL_law_416 dL_law_418 dL_law_419 dL_law_420 ?_
  refine l_arg J hi6 2 (by decide) X hl (List.mem_of_getElem? (i := 0) rfl) (List.mem_of_getElem? (i := 4) rfl) dL_law_421 dL_law_422 dL_law_424 dL_law_425 dL_law_426 ?_
  refine ctIP_V (w := mw mo mq 12 (Z 0) (Z 1) σ) (wf := wcat [anP Z an wo La.1 Li.1 Lt.1 ta.1 tb.1 tc.1 rd.1 rp rk hi sb (σ1.2 41), wkP Z (wo, La.1, tm.1, vq) r0 a4 a5 a6 a7 a8 a9 a10 a11 vv, landP Z La τ, landP Z Li τi, landP Z Lt τt, thP Z tm FM KM, thP Z ta F K, thP Z tb F5 K5, thP Z tc F3 K3, rdP Z rd b0 rq, ruP rp 0 0, ruP rk 3 0, shOn (shF Z sb sc σ1) 8, elO Z oq g]) (As := [.int (xs (i + 1)), .int (xs (i + 2))]) (rest := [.int (znextC τ (xs (i + 1)) (xs (i + 2)))]) (n := 2) hx hb hml G.2.2.1 hts G.2.2.2.2.1 G.2.2.2.2.2.2.2 (wh_perm (lsel [13, 0, 1, 2, 3, 4, 5, 6, 7, 8, 9, 10, 11, 12, 14] 15 rfl rfl rfl) X) hl.1 (p_recv G X 13 0 rfl rfl rfl) (c_next rfl rfl rfl e15 (xs (i + 1)) (xs (i + 2)) h1.1.1.1 h1.1.2.1) (cwV 2 hts (gg_W lT_good (fun v h => lT_m h) (lT_m mk_135) (lT_l (List.mem_of_getElem? (i := 50) rfl)) (lT_l (List.mem_of_getElem? (i := 51) rfl)) (lT_l (List.mem_of_getElem? (i := 52) rfl)) (lT_l (List.mem_of_getElem? (i := 5) rfl))) rfl rfl rfl (by decide +kernel) ⟨Nat.le_of_ble_eq_true rfl, Nat.le_of_ble_eq_true rfl⟩) rfl (Nat.le_of_ble_eq_true rfl) dL_law_427 (hrm _ _ (Nat.le_of_ble_eq_true rfl) (Nat.le_of_ble_eq_true rfl)) (fun H locs u9 hu X => ?_)
  refine lv_icmp_eq (tgt := 1505) hx hb dL_law_430 (by decide) (fun _ => ?_) (fun q9 => absurd (lk_next (zRel_ag h1) h1.2.1.2.2.1) q9)
  have es : shF Z sb sc σ1 = shF Z sb sc u9 ∧ σ1.2 41 = u9.2 41 := (lshE hu)
  rw [es.1, es.2] at X
  refine W.widen (k := cells + 6) (n := slots + 102) (Nat.add_le_add_left (Nat.le_of_ble_eq_true rfl) _) (Nat.add_le_add_left (Nat.le_of_ble_eq_true rfl) _) ?_
  exact back _ _ _ _ _ _ H locs ls (zRel_St h1 (mEq_St hu)) ⟨τt, sb, sc, FM, KM, vv, K, K5, F3, K3, rq, g, r0, a4, a5, a6, a7, a8, a9, a10, a11, b0, hz, wh_perm (lback [13, 0, 1, 2, 3, 4, 5, 6, 7, 8, 9, 10, 11, 12, 14] 15 rfl rfl rfl) X⟩ hl
set_option maxHeartbeats 4000000 in
set_option maxRecDepth 100000 in
theorem law_says (J : lG ad av p l c s m args D Z A b L xs) (hi6 : i + 6 ≤ L) (hrm : ∀ k n : Nat, k ≤ 6 → n ≤ 102 → cells + k ≤ room_1.cells ∧ slots + n ≤ room_1.slots) (h : zRel σ τ τi F F5 hi) (I : lInv Z an wo vq La Li Lt tm ta tb tc rd rp rk mo mq oq D A s.heap H locs σ τ τi F F5 hi) (hl : lv_has ls 8 [(4, .int (nI i)), (3, .ref oq), (2, .ref mo), (1, .ref an.1), (0, .ref b)])
    (back : ∀ (σ τ τi : MS) (F F5 : Nat → Nat) (hi : Nat) (H : Heap) (locs : List Loc) (ls : Array Slot), zRel σ τ τi F F5 hi → lInv Z an wo vq La Li Lt tm ta tb tc rd rp rk mo mq oq D A s.heap H locs σ τ τi F F5 hi → lv_has ls 8 [(4, .int (nI i)), (3, .ref oq), (2, .ref mo), (1, .ref an.1), (0, .ref b)] → W p l e room_1 s m args below meth c H locs (cells + 6) (slots + 102) Q (F0 m 1505 ls [])) : W p l e room_1 s m args below meth c H locs cells slots Q (F0 m 435 ls []) := by
  obtain ⟨τt, sb, sc, FM, KM, vv, K, K5, F3, K3, rq, g, r0, a4, a5, a6, a7, a8, a9, a10, a11, b0, hz, X⟩ := I
  have G := J.1
  have hml := J.2.1
  have hts := J.2.2.1
  have hst9 := J.2.2.2.1
  have hx := G.1
  have hb := G.2.1
  have h1 := lSt15 (v := 0) h
  have es0 := lsh15 (Z := Z) (sb := sb) (sc := sc) (σ := σ) (v := 0)
  rw [es0.1, es0.2] at X
  clear es0
  obtain ⟨σ1, e15⟩ : ∃ z, z = sF σ 15 0 := ⟨_, rfl⟩
  rw [← e15] at X h1
  refine lv_aload_n hx hb dL_law_435 rfl (lv_at hl 3 rfl) ?_
  refine l_arg J hi6 1 (by decide) X hl (List.mem_of_getElem? (i := 0) rfl) (List.mem_of_getElem? (i := 4) rfl) dL_law_436 dL_law_437 dL_law_439 dL_law_440 dL_law_441 ?_
  refine l_arg J hi6 2 (by decide) X hl (List.mem_of_getElem? (i := 0) rfl) (List.mem_of_getElem? (i := 4) rfl) dL_law_442 dL_law_443 dL_law_445 dL_law_446 dL_law_447 ?_
  refine l_arg J hi6 3 (by decide) X hl (List.mem_of_getElem? (i := 0) rfl) (List.mem_of_getElem? (i := 4) rfl) dL_law_448 dL_law_449 dL_law_451 dL_law_452 dL_law_453 ?_
  refine dtI_go (S := Unit) (w := wcat [anP Z an wo La.1 Li.1 Lt.1 ta.1 tb.1 tc.1 rd.1 rp rk hi sb (σ1.2 41), landP Z La τ]) (wf := wcat [wkP Z (wo, La.1, tm.1, vq) r0 a4 a5 a6 a7 a8 a9 a10 a11 vv, landP Z Li τi, landP Z Lt τt, thP Z tm FM KM, thP Z ta F K, thP Z tb F5 K5, thP Z tc F3 K3, rdP Z rd b0 rq, ruP rp 0 0, ruP rk 3 0, shOn (shF Z sb sc σ1) 8, mw mo mq 12 (Z 0) (Z 1) σ, elO Z oq g]) (w' := fun _ => wcat [anP Z an wo La.1 Li.1 Lt.1 ta.1 tb.1 tc.1 rd.1 rp rk hi sb (σ1.2 41), landP Z La τ]) (W1 := fun _ => wcat [anP Z an wo La.1 Li.1 Lt.1 ta.1 tb.1 tc.1 rd.1 rp rk hi sb (σ1.2 41), wkP Z (wo, La.1, tm.1, vq) r0 a4 a5 a6 a7 a8 a9 a10 a11 vv, landP Z La τ, landP Z Li τi, landP Z Lt τt, thP Z tm FM KM, thP Z ta F K, thP Z tb F5 K5, thP Z tc F3 K3, rdP Z rd b0 rq, ruP rp 0 0, ruP rk 3 0, shOn (shF Z sb sc σ1) 8, mw mo mq 12 (Z 0) (Z 1) σ, elO Z oq g]) G X (wsel2 [0, 2, 1, 3, 4, 5, 6, 7, 8, 9, 10, 11, 12, 13, 14] 15 rfl rfl rfl) (run_V (As := [.int (xs (i + 1)), .int (xs (i + 2)), .int (xs (i + 3))]) (rest := []) (n := 3) G hml hts hl.1 (p_recv G X 0 0 rfl rfl rfl) (k11_says (lE_ok ad av) (xs (i + 1)) (xs (i + 2)) (xs (i + 3)) (h1.2.1.2.2.1.1) h1.2.1.2.2.1.2.1 _) (cwV 3 hts (gg_W lT_good (fun v h => lT_c h) (lT_c ck_577) (lT_l (List.mem_of_getElem? (i := 53) rfl)) (lT_l (List.mem_of_getElem? (i := 54) rfl)) (lT_l (List.mem_of_getElem? (i := 55) rfl)) (lT_l (List.mem_of_getElem? (i := 2) rfl))) rfl rfl rfl (by decide +kernel) ⟨Nat.le_of_ble_eq_true rfl, Nat.le_of_ble_eq_true rfl⟩) rfl (Nat.le_of_ble_eq_true rfl) dL_law_454 (hrm _ _ (Nat.le_of_ble_eq_true rfl) (Nat.le_of_ble_eq_true rfl))) (fun _ => wback2 [0, 2, 1, 3, 4, 5, 6, 7, 8, 9, 10, 11, 12, 13, 14] 15 rfl rfl rfl) (fun H locs _ _ X => ?_)
  refine lv_aload_n hx hb dL_law_457 rfl (lv_at hl 2 rfl) ?_
  refine l_arg J hi6 1 (by decide) X hl (List.mem_of_getElem? (i := 0) rfl) (List.mem_of_getElem? (i := 4) rfl) dL_law_458 dL_law_459 dL_law_461 dL_law_462 dL_law_463 ?_
  refine l_arg J hi6 2 (by decide) X hl (List.mem_of_getElem? (i := 0) rfl) (List.mem_of_getElem? (i := 4) rfl) dL_law_464 dL_law_465 dL_law_467 dL_law_468 dL_law_469 ?_
  refine l_arg J hi6 3 (by decide) X hl (List.mem_of_getElem? (i := 0) rfl) (List.mem_of_getElem? (i := 4) rfl) dL_law_470 dL_law_471 dL_law_473 dL_law_474 dL_law_475 ?_
  refine ctIP_V (w := mw mo mq 12 (Z 0) (Z 1) σ) (wf := wcat [anP Z an wo La.1 Li.1 Lt.1 ta.1 tb.1 tc.1 rd.1 rp rk hi sb (σ1.2 41), wkP Z (wo, La.1, tm.1, vq) r0 a4 a5 a6 a7 a8 a9 a10 a11 vv, landP Z La τ, landP Z Li τi, landP Z Lt τt, thP Z tm FM KM, thP Z ta F K, thP Z tb F5 K5, thP Z tc F3 K3, rdP Z rd b0 rq, ruP rp 0 0, ruP rk 3 0, shOn (shF Z sb sc σ1) 8, elO Z oq g]) (As := [.int (xs (i + 1)), .int (xs (i + 2)), .int (xs (i + 3))]) (rest := [.int (zsaysC τ (xs (i + 1)) (xs (i + 2)) (xs (i + 3)))]) (n := 3) hx hb hml G.2.2.1 hts G.2.2.2.2.1 G.2.2.2.2.2.2.2 (wh_perm (lsel [13, 0, 1, 2, 3, 4, 5, 6, 7, 8, 9, 10, 11, 12, 14] 15 rfl rfl rfl) X) hl.1 (p_recv G X 13 0 rfl rfl rfl) (c_says rfl rfl rfl e15 (xs (i + 1)) (xs (i + 2)) (xs (i + 3)) h1.1.1.1 h1.1.2.1) (cwV 3 hts (gg_W lT_good (fun v h => lT_m h) (lT_m mk_140) (lT_l (List.mem_of_getElem? (i := 56) rfl)) (lT_l (List.mem_of_getElem? (i := 57) rfl)) (lT_l (List.mem_of_getElem? (i := 58) rfl)) (lT_l (List.mem_of_getElem? (i := 5) rfl))) rfl rfl rfl (by decide +kernel) ⟨Nat.le_of_ble_eq_true rfl, Nat.le_of_ble_eq_true rfl⟩) rfl (Nat.le_of_ble_eq_true rfl) dL_law_476 (hrm _ _ (Nat.le_of_ble_eq_true rfl) (Nat.le_of_ble_eq_true rfl)) (fun H locs u9 hu X => ?_)
  refine lv_icmp_eq (tgt := 1505) hx hb dL_law_479 (by decide) (fun _ => ?_) (fun q9 => absurd (lk_says (zRel_ag h1) (h1.2.1.2.2.1.1)) q9)
  have es : shF Z sb sc σ1 = shF Z sb sc u9 ∧ σ1.2 41 = u9.2 41 := (lshE hu)
  rw [es.1, es.2] at X
  refine W.widen (k := cells + 6) (n := slots + 102) (Nat.add_le_add_left (Nat.le_of_ble_eq_true rfl) _) (Nat.add_le_add_left (Nat.le_of_ble_eq_true rfl) _) ?_
  exact back _ _ _ _ _ _ H locs ls (zRel_St h1 (mEq_St hu)) ⟨τt, sb, sc, FM, KM, vv, K, K5, F3, K3, rq, g, r0, a4, a5, a6, a7, a8, a9, a10, a11, b0, hz, wh_perm (lback [13, 0, 1, 2, 3, 4, 5, 6, 7, 8, 9, 10, 11, 12, 14] 15 rfl rfl rfl) X⟩ hl
set_option maxHeartbeats 4000000 in
set_option maxRecDepth 100000 in
theorem law_chance (J : lG ad av p l c s m args D Z A b L xs) (hi6 : i + 6 ≤ L) (hrm : ∀ k n : Nat, k ≤ 6 → n ≤ 102 → cells + k ≤ room_1.cells ∧ slots + n ≤ room_1.slots) (h : zRel σ τ τi F F5 hi) (I : lInv Z an wo vq La Li Lt tm ta tb tc rd rp rk mo mq oq D A s.heap H locs σ τ τi F F5 hi) (hl : lv_has ls 8 [(4, .int (nI i)), (3, .ref oq), (2, .ref mo), (1, .ref an.1), (0, .ref b)])
    (back : ∀ (σ τ τi : MS) (F F5 : Nat → Nat) (hi : Nat) (H : Heap) (locs : List Loc) (ls : Array Slot), zRel σ τ τi F F5 hi → lInv Z an wo vq La Li Lt tm ta tb tc rd rp rk mo mq oq D A s.heap H locs σ τ τi F F5 hi → lv_has ls 8 [(4, .int (nI i)), (3, .ref oq), (2, .ref mo), (1, .ref an.1), (0, .ref b)] → W p l e room_1 s m args below meth c H locs (cells + 6) (slots + 102) Q (F0 m 1505 ls [])) : W p l e room_1 s m args below meth c H locs cells slots Q (F0 m 484 ls []) := by
  obtain ⟨τt, sb, sc, FM, KM, vv, K, K5, F3, K3, rq, g, r0, a4, a5, a6, a7, a8, a9, a10, a11, b0, hz, X⟩ := I
  have G := J.1
  have hml := J.2.1
  have hts := J.2.2.1
  have hst9 := J.2.2.2.1
  have hx := G.1
  have hb := G.2.1
  have h1 := lSt15 (v := 0) h
  have es0 := lsh15 (Z := Z) (sb := sb) (sc := sc) (σ := σ) (v := 0)
  rw [es0.1, es0.2] at X
  clear es0
  obtain ⟨σ1, e15⟩ : ∃ z, z = sF σ 15 0 := ⟨_, rfl⟩
  rw [← e15] at X h1
  refine lv_aload_n hx hb dL_law_484 rfl (lv_at hl 3 rfl) ?_
  refine l_arg J hi6 1 (by decide) X hl (List.mem_of_getElem? (i := 0) rfl) (List.mem_of_getElem? (i := 4) rfl) dL_law_485 dL_law_486 dL_law_488 dL_law_489 dL_law_490 ?_
  refine l_arg J hi6 2 (by decide) X hl (List.mem_of_getElem? (i := 0) rfl) (List.mem_of_getElem? (i := 4) rfl) dL_law_491 dL_law_492 dL_law_494 dL_law_495 dL_law_496 ?_
  refine l_arg J hi6 3 (by decide) X hl (List.mem_of_getElem? (i := 0) rfl) (List.mem_of_getElem? (i := 4) rfl) dL_law_497 dL_law_498 dL_law_500 dL_law_501 dL_law_502 ?_
  refine dtI_go (S := Unit) (w := wcat [anP Z an wo La.1 Li.1 Lt.1 ta.1 tb.1 tc.1 rd.1 rp rk hi sb (σ1.2 41), landP Z La τ]) (wf := wcat [wkP Z (wo, La.1, tm.1, vq) r0 a4 a5 a6 a7 a8 a9 a10 a11 vv, landP Z Li τi, landP Z Lt τt, thP Z tm FM KM, thP Z ta F K, thP Z tb F5 K5, thP Z tc F3 K3, rdP Z rd b0 rq, ruP rp 0 0, ruP rk 3 0, shOn (shF Z sb sc σ1) 8, mw mo mq 12 (Z 0) (Z 1) σ, elO Z oq g]) (w' := fun _ => wcat [anP Z an wo La.1 Li.1 Lt.1 ta.1 tb.1 tc.1 rd.1 rp rk hi sb (σ1.2 41), landP Z La τ]) (W1 := fun _ => wcat [anP Z an wo La.1 Li.1 Lt.1 ta.1 tb.1 tc.1 rd.1 rp rk hi sb (σ1.2 41), wkP Z (wo, La.1, tm.1, vq) r0 a4 a5 a6 a7 a8 a9 a10 a11 vv, landP Z La τ, landP Z Li τi, landP Z Lt τt, thP Z tm FM KM, thP Z ta F K, thP Z tb F5 K5, thP Z tc F3 K3, rdP Z rd b0 rq, ruP rp 0 0, ruP rk 3 0, shOn (shF Z sb sc σ1) 8, mw mo mq 12 (Z 0) (Z 1) σ, elO Z oq g]) G X (wsel2 [0, 2, 1, 3, 4, 5, 6, 7, 8, 9, 10, 11, 12, 13, 14] 15 rfl rfl rfl) (run_V (As := [.int (xs (i + 1)), .int (xs (i + 2)), .int (xs (i + 3))]) (rest := []) (n := 3) G hml hts hl.1 (p_recv G X 0 0 rfl rfl rfl) (k11_chance (lE_ok ad av) (xs (i + 1)) (xs (i + 2)) (xs (i + 3)) (h1.2.1.2.2.1.1) _) (cwV 3 hts (gg_W lT_good (fun v h => lT_c h) (lT_c ck_580) (lT_l (List.mem_of_getElem? (i := 59) rfl)) (lT_l (List.mem_of_getElem? (i := 60) rfl)) (lT_l (List.mem_of_getElem? (i := 61) rfl)) (lT_l (List.mem_of_getElem? (i := 2) rfl))) rfl rfl rfl (by decide +kernel) ⟨Nat.le_of_ble_eq_true rfl, Nat.le_of_ble_eq_true rfl⟩) rfl (Nat.le_of_ble_eq_true rfl) dL_law_503 (hrm _ _ (Nat.le_of_ble_eq_true rfl) (Nat.le_of_ble_eq_true rfl))) (fun _ => wback2 [0, 2, 1, 3, 4, 5, 6, 7, 8, 9, 10, 11, 12, 13, 14] 15 rfl rfl rfl) (fun H locs _ _ X => ?_)
  refine lv_aload_n hx hb dL_law_506 rfl (lv_at hl 2 rfl) ?_
  refine l_arg J hi6 1 (by decide) X hl (List.mem_of_getElem? (i := 0) rfl) (List.mem_of_getElem? (i := 4) rfl) dL_law_507 dL_law_508 dL_law_510 dL_law_511 dL_law_512 ?_
  refine l_arg J hi6 2 (by decide) X hl (List.mem_of_getElem? (i := 0) rfl) (List.mem_of_getElem? (i := 4) rfl) dL_law_513 dL_law_514 dL_law_516 dL_law_517 dL_law_518 ?_
  refine l_arg J hi6 3 (by decide) X hl (List.mem_of_getElem? (i := 0) rfl) (List.mem_of_getElem? (i := 4) rfl) dL_law_519 dL_law_520 dL_law_522 dL_law_523 dL_law_524 ?_
  refine ctIP_V (w := mw mo mq 12 (Z 0) (Z 1) σ) (wf := wcat [anP Z an wo La.1 Li.1 Lt.1 ta.1 tb.1 tc.1 rd.1 rp rk hi sb (σ1.2 41), wkP Z (wo, La.1, tm.1, vq) r0 a4 a5 a6 a7 a8 a9 a10 a11 vv, landP Z La τ, landP Z Li τi, landP Z Lt τt, thP Z tm FM KM, thP Z ta F K, thP Z tb F5 K5, thP Z tc F3 K3, rdP Z rd b0 rq, ruP rp 0 0, ruP rk 3 0, shOn (shF Z sb sc σ1) 8, elO Z oq g]) (As := [.int (xs (i + 1)), .int (xs (i + 2)), .int (xs (i + 3))]) (rest := [.int (zchanC τ (xs (i + 1)) (xs (i + 2)) (xs (i + 3)))]) (n := 3) hx hb hml G.2.2.1 hts G.2.2.2.2.1 G.2.2.2.2.2.2.2 (wh_perm (lsel [13, 0, 1, 2, 3, 4, 5, 6, 7, 8, 9, 10, 11, 12, 14] 15 rfl rfl rfl) X) hl.1 (p_recv G X 13 0 rfl rfl rfl) (c_chance rfl rfl rfl e15 (xs (i + 1)) (xs (i + 2)) (xs (i + 3)) h1.1.1.1 h1.1.2.1) (cwV 3 hts (gg_W lT_good (fun v h => lT_m h) (lT_m mk_150) (lT_l (List.mem_of_getElem? (i := 62) rfl)) (lT_l (List.mem_of_getElem? (i := 63) rfl)) (lT_l (List.mem_of_getElem? (i := 64) rfl)) (lT_l (List.mem_of_getElem? (i := 5) rfl))) rfl rfl rfl (by decide +kernel) ⟨Nat.le_of_ble_eq_true rfl, Nat.le_of_ble_eq_true rfl⟩) rfl (Nat.le_of_ble_eq_true rfl) dL_law_525 (hrm _ _ (Nat.le_of_ble_eq_true rfl) (Nat.le_of_ble_eq_true rfl)) (fun H locs u9 hu X => ?_)
  refine lv_icmp_eq (tgt := 1505) hx hb dL_law_528 (by decide) (fun _ => ?_) (fun q9 => absurd (lk_chance (zRel_ag h1) h1.2.1.2.2.1 h1.2.1.2.2.2.2.2.1) q9)
  have es : shF Z sb sc σ1 = shF Z sb sc u9 ∧ σ1.2 41 = u9.2 41 := (lshE hu)
  rw [es.1, es.2] at X
  refine W.widen (k := cells + 6) (n := slots + 102) (Nat.add_le_add_left (Nat.le_of_ble_eq_true rfl) _) (Nat.add_le_add_left (Nat.le_of_ble_eq_true rfl) _) ?_
  exact back _ _ _ _ _ _ H locs ls (zRel_St h1 (mEq_St hu)) ⟨τt, sb, sc, FM, KM, vv, K, K5, F3, K3, rq, g, r0, a4, a5, a6, a7, a8, a9, a10, a11, b0, hz, wh_perm (lback [13, 0, 1, 2, 3, 4, 5, 6, 7, 8, 9, 10, 11, 12, 14] 15 rfl rfl rfl) X⟩ hl
set_option maxHeartbeats 4000000 in
set_option maxRecDepth 100000 in
theorem law_anew (J : lG ad av p l c s m args D Z A b L xs) (hi6 : i + 6 ≤ L) (hrm : ∀ k n : Nat, k ≤ 6 → n ≤ 102 → cells + k ≤ room_1.cells ∧ slots + n ≤ room_1.slots) (h : zRel σ τ τi F F5 hi) (I : lInv Z an wo vq La Li Lt tm ta tb tc rd rp rk mo mq oq D A s.heap H locs σ τ τi F F5 hi) (hl : lv_has ls 8 [(4, .int (nI i)), (3, .ref oq), (2, .ref mo), (1, .ref an.1), (0, .ref b)])
    (back : ∀ (σ τ τi : MS) (F F5 : Nat → Nat) (hi : Nat) (H : Heap) (locs : List Loc) (ls : Array Slot), zRel σ τ τi F F5 hi → lInv Z an wo vq La Li Lt tm ta tb tc rd rp rk mo mq oq D A s.heap H locs σ τ τi F F5 hi → lv_has ls 8 [(4, .int (nI i)), (3, .ref oq), (2, .ref mo), (1, .ref an.1), (0, .ref b)] → W p l e room_1 s m args below meth c H locs (cells + 6) (slots + 102) Q (F0 m 1505 ls [])) : W p l e room_1 s m args below meth c H locs cells slots Q (F0 m 533 ls []) := by
  obtain ⟨τt, sb, sc, FM, KM, vv, K, K5, F3, K3, rq, g, r0, a4, a5, a6, a7, a8, a9, a10, a11, b0, hz, X⟩ := I
  have G := J.1
  have hml := J.2.1
  have hts := J.2.2.1
  have hst9 := J.2.2.2.1
  have hx := G.1
  have hb := G.2.1
  have h1 := lSt15 (v := 0) h
  have es0 := lsh15 (Z := Z) (sb := sb) (sc := sc) (σ := σ) (v := 0)
  rw [es0.1, es0.2] at X
  clear es0
  obtain ⟨σ1, e15⟩ : ∃ z, z = sF σ 15 0 := ⟨_, rfl⟩
  rw [← e15] at X h1
  refine lv_aload_n hx hb dL_law_533 rfl (lv_at hl 3 rfl) ?_
  refine dtI_go (S := Unit) (w := wcat [anP Z an wo La.1 Li.1 Lt.1 ta.1 tb.1 tc.1 rd.1 rp rk hi sb (σ1.2 41), landP Z La τ, thP Z ta F K]) (wf := wcat [wkP Z (wo, La.1, tm.1, vq) r0 a4 a5 a6 a7 a8 a9 a10 a11 vv, landP Z Li τi, landP Z Lt τt, thP Z tm FM KM, thP Z tb F5 K5, thP Z tc F3 K3, rdP Z rd b0 rq, ruP rp 0 0, ruP rk 3 0, shOn (shF Z sb sc σ1) 8, mw mo mq 12 (Z 0) (Z 1) σ, elO Z oq g]) (w' := fun _ => wcat [anP Z an wo La.1 Li.1 Lt.1 ta.1 tb.1 tc.1 rd.1 rp rk hi sb (σ1.2 41), landP Z La τ, thP Z ta (if zready τ then zch5 τ else F) K]) (W1 := fun _ => wcat [anP Z an wo La.1 Li.1 Lt.1 ta.1 tb.1 tc.1 rd.1 rp rk hi sb (σ1.2 41), wkP Z (wo, La.1, tm.1, vq) r0 a4 a5 a6 a7 a8 a9 a10 a11 vv, landP Z La τ, landP Z Li τi, landP Z Lt τt, thP Z tm FM KM, thP Z ta (if zready τ then zch5 τ else F) K, thP Z tb F5 K5, thP Z tc F3 K3, rdP Z rd b0 rq, ruP rp 0 0, ruP rk 3 0, shOn (shF Z sb sc σ1) 8, mw mo mq 12 (Z 0) (Z 1) σ, elO Z oq g]) G X (wsel2 [0, 2, 6, 1, 3, 4, 5, 7, 8, 9, 10, 11, 12, 13, 14] 15 rfl rfl rfl) (run_V (As := []) (rest := []) (n := 0) G hml hts hl.1 (p_recv G X 0 0 rfl rfl rfl) (k11_anew (lE_ok ad av) (h1.2.1.2.2.1.1) _) (cwV 0 hts (gg_W lT_good (fun v h => lT_c h) (lT_c ck_590) (lT_l (List.mem_of_getElem? (i := 65) rfl)) (lT_l (List.mem_of_getElem? (i := 66) rfl)) (lT_l (List.mem_of_getElem? (i := 67) rfl)) (lT_l (List.mem_of_getElem? (i := 2) rfl))) rfl rfl rfl (by decide +kernel) ⟨Nat.le_of_ble_eq_true rfl, Nat.le_of_ble_eq_true rfl⟩) rfl (Nat.le_of_ble_eq_true rfl) dL_law_534 (hrm _ _ (Nat.le_of_ble_eq_true rfl) (Nat.le_of_ble_eq_true rfl))) (fun _ => wback2 [0, 2, 6, 1, 3, 4, 5, 7, 8, 9, 10, 11, 12, 13, 14] 15 rfl rfl rfl) (fun H locs _ _ X => ?_)
  refine lv_aload_n hx hb dL_law_537 rfl (lv_at hl 2 rfl) ?_
  refine ctIP_V (w := mw mo mq 12 (Z 0) (Z 1) σ) (wf := wcat [anP Z an wo La.1 Li.1 Lt.1 ta.1 tb.1 tc.1 rd.1 rp rk hi sb (σ1.2 41), wkP Z (wo, La.1, tm.1, vq) r0 a4 a5 a6 a7 a8 a9 a10 a11 vv, landP Z La τ, landP Z Li τi, landP Z Lt τt, thP Z tm FM KM, thP Z ta (if zready τ then zch5 τ else F) K, thP Z tb F5 K5, thP Z tc F3 K3, rdP Z rd b0 rq, ruP rp 0 0, ruP rk 3 0, shOn (shF Z sb sc σ1) 8, elO Z oq g]) (As := []) (rest := [.int (if zready τ then nI (zbest (zch5 τ) 5) else -3)]) (n := 0) hx hb hml G.2.2.1 hts G.2.2.2.2.1 G.2.2.2.2.2.2.2 (wh_perm (lsel [13, 0, 1, 2, 3, 4, 5, 6, 7, 8, 9, 10, 11, 12, 14] 15 rfl rfl rfl) X) hl.1 (p_recv G X 13 0 rfl rfl rfl) (c_anew rfl rfl rfl e15  h1.1.1.1 h1.1.2.1) (cwV 0 hts (gg_W lT_good (fun v h => lT_m h) (lT_m mk_171) (lT_l (List.mem_of_getElem? (i := 68) rfl)) (lT_l (List.mem_of_getElem? (i := 69) rfl)) (lT_l (List.mem_of_getElem? (i := 70) rfl)) (lT_l (List.mem_of_getElem? (i := 5) rfl))) rfl rfl rfl (by decide +kernel) ⟨Nat.le_of_ble_eq_true rfl, Nat.le_of_ble_eq_true rfl⟩) rfl (Nat.le_of_ble_eq_true rfl) dL_law_538 (hrm _ _ (Nat.le_of_ble_eq_true rfl) (Nat.le_of_ble_eq_true rfl)) (fun H locs u9 hu X => ?_)
  refine lv_icmp_eq (tgt := 1505) hx hb dL_law_541 (by decide) (fun _ => ?_) (fun q9 => absurd (lk_anew (zRel_ag h1) (h1.2.1.2.2.1.1)) q9)
  have es : shF Z sb sc σ1 = shF Z sb sc u9 ∧ σ1.2 41 = u9.2 41 := (lshT zanew_sh hu)
  rw [es.1, es.2] at X
  refine W.widen (k := cells + 6) (n := slots + 102) (Nat.add_le_add_left (Nat.le_of_ble_eq_true rfl) _) (Nat.add_le_add_left (Nat.le_of_ble_eq_true rfl) _) ?_
  exact back _ _ _ _ _ _ H locs ls (zRel_anew h1 hu) ⟨τt, sb, sc, FM, KM, vv, K, K5, F3, K3, rq, g, r0, a4, a5, a6, a7, a8, a9, a10, a11, b0, hz, wh_perm (lback [13, 0, 1, 2, 3, 4, 5, 6, 7, 8, 9, 10, 11, 12, 14] 15 rfl rfl rfl) X⟩ hl
set_option maxHeartbeats 4000000 in
set_option maxRecDepth 100000 in
theorem law_answer (J : lG ad av p l c s m args D Z A b L xs) (hi6 : i + 6 ≤ L) (hrm : ∀ k n : Nat, k ≤ 6 → n ≤ 102 → cells + k ≤ room_1.cells ∧ slots + n ≤ room_1.slots) (h : zRel σ τ τi F F5 hi) (I : lInv Z an wo vq La Li Lt tm ta tb tc rd rp rk mo mq oq D A s.heap H locs σ τ τi F F5 hi) (hl : lv_has ls 8 [(4, .int (nI i)), (3, .ref oq), (2, .ref mo), (1, .ref an.1), (0, .ref b)])
    (back : ∀ (σ τ τi : MS) (F F5 : Nat → Nat) (hi : Nat) (H : Heap) (locs : List Loc) (ls : Array Slot), zRel σ τ τi F F5 hi → lInv Z an wo vq La Li Lt tm ta tb tc rd rp rk mo mq oq D A s.heap H locs σ τ τi F F5 hi → lv_has ls 8 [(4, .int (nI i)), (3, .ref oq), (2, .ref mo), (1, .ref an.1), (0, .ref b)] → W p l e room_1 s m args below meth c H locs (cells + 6) (slots + 102) Q (F0 m 1505 ls [])) : W p l e room_1 s m args below meth c H locs cells slots Q (F0 m 546 ls []) := by
  obtain ⟨τt, sb, sc, FM, KM, vv, K, K5, F3, K3, rq, g, r0, a4, a5, a6, a7, a8, a9, a10, a11, b0, hz, X⟩ := I
  have G := J.1
  have hml := J.2.1
  have hts := J.2.2.1
  have hst9 := J.2.2.2.1
  have hx := G.1
  have hb := G.2.1
  have h1 := lSt15 (v := 0) h
  have es0 := lsh15 (Z := Z) (sb := sb) (sc := sc) (σ := σ) (v := 0)
  rw [es0.1, es0.2] at X
  clear es0
  obtain ⟨σ1, e15⟩ : ∃ z, z = sF σ 15 0 := ⟨_, rfl⟩
  rw [← e15] at X h1
  refine lv_aload_n hx hb dL_law_546 rfl (lv_at hl 3 rfl) ?_
  refine l_arg J hi6 1 (by decide) X hl (List.mem_of_getElem? (i := 0) rfl) (List.mem_of_getElem? (i := 4) rfl) dL_law_547 dL_law_548 dL_law_550 dL_law_551 dL_law_552 ?_
  refine l_arg J hi6 2 (by decide) X hl (List.mem_of_getElem? (i := 0) rfl) (List.mem_of_getElem? (i := 4) rfl) dL_law_553 dL_law_554 dL_law_556 dL_law_557 dL_law_558 ?_
  refine dtI_go (S := (Nat → Nat)) (w := wcat [anP Z an wo La.1 Li.1 Lt.1 ta.1 tb.1 tc.1 rd.1 rp rk hi sb (σ1.2 41), landP Z La τ, thP Z ta F K]) (wf := wcat [wkP Z (wo, La.1, tm.1, vq) r0 a4 a5 a6 a7 a8 a9 a10 a11 vv, landP Z Li τi, landP Z Lt τt, thP Z tm FM KM, thP Z tb F5 K5, thP Z tc F3 K3, rdP Z rd b0 rq, ruP rp 0 0, ruP rk 3 0, shOn (shF Z sb sc σ1) 8, mw mo mq 12 (Z 0) (Z 1) σ, elO Z oq g]) (w' := fun v9 => wcat [anP Z an wo La.1 Li.1 Lt.1 ta.1 tb.1 tc.1 rd.1 rp rk hi sb (σ1.2 41), landP Z La τ, thP Z ta (zansF τ F (xs (i + 1)) (xs (i + 2))) v9]) (W1 := fun v9 => wcat [anP Z an wo La.1 Li.1 Lt.1 ta.1 tb.1 tc.1 rd.1 rp rk hi sb (σ1.2 41), wkP Z (wo, La.1, tm.1, vq) r0 a4 a5 a6 a7 a8 a9 a10 a11 vv, landP Z La τ, landP Z Li τi, landP Z Lt τt, thP Z tm FM KM, thP Z ta (zansF τ F (xs (i + 1)) (xs (i + 2))) v9, thP Z tb F5 K5, thP Z tc F3 K3, rdP Z rd b0 rq, ruP rp 0 0, ruP rk 3 0, shOn (shF Z sb sc σ1) 8, mw mo mq 12 (Z 0) (Z 1) σ, elO Z oq g]) G X (wsel2 [0, 2, 6, 1, 3, 4, 5, 7, 8, 9, 10, 11, 12, 13, 14] 15 rfl rfl rfl) (run_V (As := [.int (xs (i + 1)), .int (xs (i + 2))]) (rest := []) (n := 2) G hml hts hl.1 (p_recv G X 0 0 rfl rfl rfl) (k11_answer (lE_ok ad av) (xs (i + 1)) (xs (i + 2)) (h1.2.1.2.2.1.1) h1.2.1.2.2.1.2.2.1 h1.2.1.2.2.2.2.2.2.1.1 _) (cwV 2 hts (gg_W lT_good (fun v h => lT_c h) (lT_c ck_597) (lT_l (List.mem_of_getElem? (i := 71) rfl)) (lT_l (List.mem_of_getElem? (i := 72) rfl)) (lT_l (List.mem_of_getElem? (i := 73) rfl)) (lT_l (List.mem_of_getElem? (i := 2) rfl))) rfl rfl rfl (by decide +kernel) ⟨Nat.le_of_ble_eq_true rfl, Nat.le_of_ble_eq_true rfl⟩) rfl (Nat.le_of_ble_eq_true rfl) dL_law_559 (hrm _ _ (Nat.le_of_ble_eq_true rfl) (Nat.le_of_ble_eq_true rfl))) (fun _ => wback2 [0, 2, 6, 1, 3, 4, 5, 7, 8, 9, 10, 11, 12, 13, 14] 15 rfl rfl rfl) (fun H locs v9 _ X => ?_)
  refine lv_aload_n hx hb dL_law_562 rfl (lv_at hl 2 rfl) ?_
  refine l_arg J hi6 1 (by decide) X hl (List.mem_of_getElem? (i := 0) rfl) (List.mem_of_getElem? (i := 4) rfl) dL_law_563 dL_law_564 dL_law_566 dL_law_567 dL_law_568 ?_
  refine l_arg J hi6 2 (by decide) X hl (List.mem_of_getElem? (i := 0) rfl) (List.mem_of_getElem? (i := 4) rfl) dL_law_569 dL_law_570 dL_law_572 dL_law_573 dL_law_574 ?_
  refine ctIP_V (w := mw mo mq 12 (Z 0) (Z 1) σ) (wf := wcat [anP Z an wo La.1 Li.1 Lt.1 ta.1 tb.1 tc.1 rd.1 rp rk hi sb (σ1.2 41), wkP Z (wo, La.1, tm.1, vq) r0 a4 a5 a6 a7 a8 a9 a10 a11 vv, landP Z La τ, landP Z Li τi, landP Z Lt τt, thP Z tm FM KM, thP Z ta (zansF τ F (xs (i + 1)) (xs (i + 2))) v9, thP Z tb F5 K5, thP Z tc F3 K3, rdP Z rd b0 rq, ruP rp 0 0, ruP rk 3 0, shOn (shF Z sb sc σ1) 8, elO Z oq g]) (As := [.int (xs (i + 1)), .int (xs (i + 2))]) (rest := [.int (zansC τ F (xs (i + 1)) (xs (i + 2)))]) (n := 2) hx hb hml G.2.2.1 hts G.2.2.2.2.1 G.2.2.2.2.2.2.2 (wh_perm (lsel [13, 0, 1, 2, 3, 4, 5, 6, 7, 8, 9, 10, 11, 12, 14] 15 rfl rfl rfl) X) hl.1 (p_recv G X 13 0 rfl rfl rfl) (c_answer rfl rfl rfl e15 (xs (i + 1)) (xs (i + 2)) h1.1.1.1 h1.1.2.1) (cwV 2 hts (gg_W lT_good (fun v h => lT_m h) (lT_m mk_179) (lT_l (List.mem_of_getElem? (i := 74) rfl)) (lT_l (List.mem_of_getElem? (i := 75) rfl)) (lT_l (List.mem_of_getElem? (i := 76) rfl)) (lT_l (List.mem_of_getElem? (i := 5) rfl))) rfl rfl rfl (by decide +kernel) ⟨Nat.le_of_ble_eq_true rfl, Nat.le_of_ble_eq_true rfl⟩) rfl (Nat.le_of_ble_eq_true rfl) dL_law_575 (hrm _ _ (Nat.le_of_ble_eq_true rfl) (Nat.le_of_ble_eq_true rfl)) (fun H locs u9 hu X => ?_)
  refine lv_icmp_eq (tgt := 1505) hx hb dL_law_578 (by decide) (fun _ => ?_) (fun q9 => absurd (lk_answer (zRel_ag h1) h1.2.1.2.2.1 h1.2.1.2.2.2.2.2.1 h1.2.1.2.2.2.2.2.2).1 q9)
  have es : shF Z sb sc σ1 = shF Z sb sc u9 ∧ σ1.2 41 = u9.2 41 := (lshT (lkT (zT_answer _ _ _)) hu)
  rw [es.1, es.2] at X
  refine W.widen (k := cells + 6) (n := slots + 102) (Nat.add_le_add_left (Nat.le_of_ble_eq_true rfl) _) (Nat.add_le_add_left (Nat.le_of_ble_eq_true rfl) _) ?_
  exact back _ _ _ _ _ _ H locs ls (zRel_kT h1 (zT_answer σ1 (xs (i + 1)) (xs (i + 2))) hu (lk_answer (zRel_ag h1) h1.2.1.2.2.1 h1.2.1.2.2.2.2.2.1 h1.2.1.2.2.2.2.2.2).2) ⟨τt, sb, sc, FM, KM, vv, v9, K5, F3, K3, rq, g, r0, a4, a5, a6, a7, a8, a9, a10, a11, b0, hz, wh_perm (lback [13, 0, 1, 2, 3, 4, 5, 6, 7, 8, 9, 10, 11, 12, 14] 15 rfl rfl rfl) X⟩ hl
end LC
