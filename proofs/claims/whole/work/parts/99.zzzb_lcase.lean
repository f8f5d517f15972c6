section LC
variable {p : Program} {l : Launch} {e : Env} {s : State} {m : MethodId} {args : Array Value} {below : List Frame} {meth : Method} {c : Code} {H : Heap} {locs : List Loc} {cells slots : Nat} {Q : State → Prop}
variable {pc : Nat} {ls : Array Slot} {rest : List Value} {D : va_G} {A : Nat → Prop} {ad av : Nat → Nat} {b L i : Nat} {xs : Nat → Int32}
variable {Z : Nat → ClassId} {an : Nat × Nat × Nat} {wo vq : Nat} {La Li Lt : LA} {tm ta tb tc : Nat × Nat × Nat} {rd : Nat × Nat} {rp rk mo : Nat} {mq : Nat → Nat} {oq : Nat} {σ τ τi : MS} {F F5 : Nat → Nat} {hi : Nat}
set_option maxHeartbeats 4000000 in
set_option maxRecDepth 100000 in
theorem law_road (J : lG ad av p l c s m args D Z A b L xs) (hi6 : i + 6 ≤ L) (hrm : ∀ k n : Nat, k ≤ 6 → n ≤ 102 → cells + k ≤ room_1.cells ∧ slots + n ≤ room_1.slots) (h : zRel σ τ τi F F5 hi) (I : lInv Z an wo vq La Li Lt tm ta tb tc rd rp rk mo mq oq D A s.heap H locs σ τ τi F F5 hi) (hl : lv_has ls 8 [(4, .int (nI i)), (3, .ref oq), (2, .ref mo), (1, .ref an.1), (0, .ref b)])
    (back : ∀ (σ τ τi : MS) (F F5 : Nat → Nat) (hi : Nat) (H : Heap) (locs : List Loc) (ls : Array Slot), zRel σ τ τi F F5 hi → lInv Z an wo vq La Li Lt tm ta tb tc rd rp rk mo mq oq D A s.heap H locs σ τ τi F F5 hi → lv_has ls 8 [(4, .int (nI i)), (3, .ref oq), (2, .ref mo), (1, .ref an.1), (0, .ref b)] → W p l e room_1 s m args below meth c H locs (cells + 6) (slots + 102) Q (F0 m 1505 ls [])) : W p l e room_1 s m args below meth c H locs cells slots Q (F0 m 213 ls []) := by
  obtain ⟨τt, sb, sc, FM, KM, vv, K, K5, F3, K3, rq, g, r0, a4, a5, a6, a7, a8, a9, a10, a11, b0, hz, X⟩ := I
  have G := J.1
  have hml := J.2.1
  have hts := J.2.2.1
  have hst9 := J.2.2.2.1
  have hx := G.1
  have hb := G.2.1
  have h1 := lSt15 (v := 0) h
  have es0 := lsh15 (Z := Z) (sb := sb) (sc := sc) (σ := σ) (v := 0)
  rw [es0.1, es0.2] at X
  clear es0
  obtain ⟨σ1, e15⟩ : ∃ z, z = sF σ 15 0 := ⟨_, rfl⟩
  rw [← e15] at X h1
  refine lv_aload_n hx hb dL_law_213 rfl (lv_at hl 3 rfl) ?_
  refine l_arg J hi6 1 (by decide) X hl (List.mem_of_getElem? (i := 0) rfl) (List.mem_of_getElem? (i := 4) rfl) dL_law_214 dL_law_215 dL_law_217 dL_law_218 dL_law_219 ?_
  refine l_arg J hi6 2 (by decide) X hl (List.mem_of_getElem? (i := 0) rfl) (List.mem_of_getElem? (i := 4) rfl) dL_law_220 dL_law_221 dL_law_223 dL_law_224 dL_law_225 ?_
  refine dtI_go (S := Unit) (w := wcat [anP Z an wo La.1 Li.1 Lt.1 ta.1 tb.1 tc.1 rd.1 rp rk hi sb (σ1.2 41), landP Z La τ]) (wf := wcat [wkP Z (wo, La.1, tm.1, vq) r0 a4 a5 a6 a7 a8 a9 a10 a11 vv, landP Z Li τi, landP Z Lt τt, thP Z tm FM KM, thP Z ta F K, thP Z tb F5 K5, thP Z tc F3 K3, rdP Z rd b0 rq, ruP rp 0 0, ruP rk 3 0, shOn (shF Z sb sc σ1) 8, mw mo mq 12 (Z 0) (Z 1) σ, elO Z oq g]) (w' := fun _ => wcat [anP Z an wo La.1 Li.1 Lt.1 ta.1 tb.1 tc.1 rd.1 rp rk hi sb (σ1.2 41), landP Z La τ]) (W1 := fun _ => wcat [anP Z an wo La.1 Li.1 Lt.1 ta.1 tb.1 tc.1 rd.1 rp rk hi sb (σ1.2 41), wkP Z (wo, La.1, tm.1, vq) r0 a4 a5 a6 a7 a8 a9 a10 a11 vv, landP Z La τ, landP Z Li τi, landP Z Lt τt, thP Z tm FM KM, thP Z ta F K, thP Z tb F5 K5, thP Z tc F3 K3, rdP Z rd b0 rq, ruP rp 0 0, ruP rk 3 0, shOn (shF Z sb sc σ1) 8, mw mo mq 12 (Z 0) (Z 1) σ, elO Z oq g]) G X (wsel2 [0, 2, 1, 3, 4, 5, 6, 7, 8, 9, 10, 11, 12, 13, 14] 15 rfl rfl rfl) (run_V (As := [.int (xs (i + 1)), .int (xs (i + 2))]) (rest := []) (n := 2) G hml hts hl.1 (p_recv G X 0 0 rfl rfl rfl) (k11_road (lE_ok ad av) (xs (i + 1)) (xs (i + 2)) (h1.2.1.2.2.1.1) _) (cwV 2 hts (gg_W lT_good (fun v h => lT_c h) (lT_c ck_556) (lT_l (List.mem_of_getElem? (i := 17) rfl)) (lT_l (List.mem_of_getElem? (i := 18) rfl)) (lT_l (List.mem_of_getElem? (i := 19) rfl)) (lT_l (List.mem_of_getElem? (i := 2) rfl))) rfl rfl rfl (by decide +kernel) ⟨Nat.le_of_ble_eq_true rfl, Nat.le_of_ble_eq_true rfl⟩) rfl (Nat.le_of_ble_eq_true rfl) dL_law_226 (hrm _ _ (Nat.le_of_ble_eq_true rfl) (Nat.le_of_ble_eq_true rfl))) (fun _ => wback2 [0, 2, 1, 3, 4, 5, 6, 7, 8, 9, 10, 11, 12, 13, 14] 15 rfl rfl rfl) (fun H locs _ _ X => ?_)
  refine lv_aload_n hx hb dL_law_229 rfl (lv_at hl 2 rfl) ?_
  refine l_arg J hi6 1 (by decide) X hl (List.mem_of_getElem? (i := 0) rfl) (List.mem_of_getElem? (i := 4) rfl) dL_law_230 dL_law_231 dL_law_233 dL_law_234 dL_law_235 ?_
  refine l_arg J hi6 2 (by decide) X hl (List.mem_of_getElem? (i := 0) rfl) (List.mem_of_getElem? (i := 4) rfl) dL_law_236 dL_law_237 dL_law_239 dL_law_240 dL_law_241 ?_
  refine ctIP_V (w := mw mo mq 12 (Z 0) (Z 1) σ) (wf := wcat [anP Z an wo La.1 Li.1 Lt.1 ta.1 tb.1 tc.1 rd.1 rp rk hi sb (σ1.2 41), wkP Z (wo, La.1, tm.1, vq) r0 a4 a5 a6 a7 a8 a9 a10 a11 vv, landP Z La τ, landP Z Li τi, landP Z Lt τt, thP Z tm FM KM, thP Z ta F K, thP Z tb F5 K5, thP Z tc F3 K3, rdP Z rd b0 rq, ruP rp 0 0, ruP rk 3 0, shOn (shF Z sb sc σ1) 8, elO Z oq g]) (As := [.int (xs (i + 1)), .int (xs (i + 2))]) (rest := [.int (zroadS τ (xs (i + 1)) (xs (i + 2)))]) (n := 2) hx hb hml G.2.2.1 hts G.2.2.2.2.1 G.2.2.2.2.2.2.2 (wh_perm (lsel [13, 0, 1, 2, 3, 4, 5, 6, 7, 8, 9, 10, 11, 12, 14] 15 rfl rfl rfl) X) hl.1 (p_recv G X 13 0 rfl rfl rfl) (c_road rfl rfl rfl e15 (xs (i + 1)) (xs (i + 2)) h1.1.1.1 h1.1.2.1) (cwV 2 hts (gg_W lT_good (fun v h => lT_m h) (lT_m mk_101) (lT_l (List.mem_of_getElem? (i := 20) rfl)) (lT_l (List.mem_of_getElem? (i := 21) rfl)) (lT_l (List.mem_of_getElem? (i := 22) rfl)) (lT_l (List.mem_of_getElem? (i := 5) rfl))) rfl rfl rfl (by decide +kernel) ⟨Nat.le_of_ble_eq_true rfl, Nat.le_of_ble_eq_true rfl⟩) rfl (Nat.le_of_ble_eq_true rfl) dL_law_242 (hrm _ _ (Nat.le_of_ble_eq_true rfl) (Nat.le_of_ble_eq_true rfl)) (fun H locs u9 hu X => ?_)
  refine lv_icmp_eq (tgt := 1505) hx hb dL_law_245 (by decide) (fun _ => ?_) (fun q9 => absurd (lk_road (zRel_ag h1) (h1.2.1.2.2.1.1)) q9)
  have es : shF Z sb sc σ1 = shF Z sb sc u9 ∧ σ1.2 41 = u9.2 41 := (lshE hu)
  rw [es.1, es.2] at X
  refine W.widen (k := cells + 6) (n := slots + 102) (Nat.add_le_add_left (Nat.le_of_ble_eq_true rfl) _) (Nat.add_le_add_left (Nat.le_of_ble_eq_true rfl) _) ?_
  exact back _ _ _ _ _ _ H locs ls (zRel_St h1 (mEq_St hu)) ⟨τt, sb, sc, FM, KM, vv, K, K5, F3, K3, rq, g, r0, a4, a5, a6, a7, a8, a9, a10, a11, b0, hz, wh_perm (lback [13, 0, 1, 2, 3, 4, 5, 6, 7, 8, 9, 10, 11, 12, 14] 15 rfl rfl rfl) X⟩ hl
end LC
