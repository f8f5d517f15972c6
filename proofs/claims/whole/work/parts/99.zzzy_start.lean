/-! THE LAW, FROM ITS ENTRY -/
theorem gg_0 {T L : List Cond} (hg : ∀ v ∈ T, (v.onTables && v.keeps) = true ∨ ∃ ty, v = .arrayClass ty) (hL : ∀ v ∈ L, v ∈ T) {hd : Cond} (h1 : hd ∈ T) : GoodIn T (hd :: L) := by
  intro w hw
  rcases List.mem_cons.mp hw with rfl | hw
  · exact ⟨h1, hg _ h1⟩
  · exact ⟨hL _ hw, hg _ (hL _ hw)⟩
theorem zfs0_ok : ∀ j, j < 48 → defaultValue (tyX12 j) = vp_V zfs0 j := by decide +kernel
theorem zτσ {Z : Nat → ClassId} {L : LA} : landP Z L zτ0 = landP Z L zσ0 := landP_cong ⟨⟨rfl, rfl, rfl, rfl, rfl⟩, fun _ _ => ⟨rfl, rfl, rfl⟩, fun _ _ => ⟨rfl, rfl, rfl⟩, fun _ _ => ⟨rfl, rfl⟩, fun _ _ => rfl, fun _ _ => ⟨rfl, rfl⟩, fun _ _ => rfl, fun _ _ => rfl⟩
section LS
variable {p : Program} {l : Launch} {e : Env} {s : State} {m : MethodId} {args : Array Value} {below : List Frame} {meth : Method} {c : Code} {H : Heap} {locs : List Loc} {cells slots : Nat} {Q : State → Prop}
variable {pc : Nat} {ls : Array Slot} {rest : List Value} {D : va_G} {A : Nat → Prop} {ad av : Nat → Nat} {b L i : Nat} {xs : Nat → Int32}
variable {Z : Nat → ClassId} {an : Nat × Nat × Nat} {wo vq : Nat} {La Li Lt : LA} {tm ta tb tc : Nat × Nat × Nat} {rd : Nat × Nat} {rp rk mo : Nat} {mq : Nat → Nat} {oq : Nat} {σ τ τi : MS} {F F5 : Nat → Nat} {hi : Nat}
theorem cx_newT {own : String} {cc : ByteArray} {R : Room} {E : (Nat → Prop) → State → Heap → Prop} {idx : Nat} {ps : List va_W} {Ts : List Cond} (hts : ∀ w ∈ Ts, w.before args s = true) {ci N : Nat} {C : String} {T : u_T} {fs : List Value} (hc : vwCl[ci]? = some (C, T, N)) (hin : ∀ w ∈ u_ws C T N, w ∈ Ts) (ty0 : Nat → FieldType) (hty : ∀ k, k < N → parseFieldDescriptor (T k).2.2.1 = some (ty0 k)) (G : cG E p c cc s m args D Z own A) (X : wH D vwCl A s.heap H locs (wcat ps)) (h1 : (Cond.classLink own idx C).before args s = true) (h2 : (Cond.instantiable C N).before args s = true) (h3 : (Cond.initialized C).before args s = true) (hfs : ∀ j, j < N → defaultValue (ty0 j) = vp_V fs j) (hcells : cells + 1 ≤ R.cells) (hslots : slots + N ≤ R.slots) (hdg : decode cc pc = .ok (.new idx, 3)) (kk : ∀ (q : Nat) (H1 : Heap), wH D vwCl A s.heap H1 locs (wcat (ps ++ [[(q, .inr (ci, fs))]])) → W p l e R s m args below meth c H1 locs (cells + 1) (slots + N) Q (F0 m (pc + 3) ls (.ref q :: rest))) : W p l e R s m args below meth c H locs cells slots Q (F0 m pc ls rest) := by
  refine va_new G.1 G.2.1 hts hin ty0 hty G.2.2.1 h1 h2 h3 G.2.2.2.2.1 X.1 X.2.1 X.2.2 G.2.2.2.2.2.2.2 hc hfs hcells hslots hdg (fun q H1 hP hD hS => ?_)
  refine kk q H1 ⟨?_, ?_, hS⟩
  · rw [wcat_snoc]; exact hP
  · rw [wcat_snoc]; exact hD
end LS
set_option maxHeartbeats 4000000 in
set_option maxRecDepth 100000 in
theorem whole_start {p : Program} {e : Env} {s : State} {m : MethodId} {below : List Frame} {meth : Method} {c : Code} (l : Launch) (hflags : l.flags = flags0) {b L : Nat} {xs : Nat → Int32} (hL : L ≤ 3072) (C0 : lw_At p s m meth c b L xs) : W p l e room_1 s m #[Value.ref b] below meth c s.heap [] 0 0 (lw_Z below #[Value.ref b] s) (entryFrame m ([Value.ref b] : List Value).toArray 8) := by
  obtain ⟨hx, hb, hr, hml, hown, hts, hX, hbl, hlocks, hgv⟩ := id C0
  have hst9 : l.stackTraces = false := by
    show (!l.flags.contains noTraceFlag) = false
    rw [hflags]
    decide
  have hbA : ¬ (fun q : Nat => s.heap.size ≤ q) b := Nat.not_le.mpr hbl
  obtain ⟨ad, av, hE⟩ := lE_start hts hgv
  obtain ⟨D, Z, K⟩ := l_K hts hE.2.2.2.2.1
  have hT : ∀ w ∈ lT, w.before #[Value.ref b] s = true := fun w h => hts w (lT_tbl w h)
  have G : cG (lE ad av) p c cL_law s m #[Value.ref b] D Z RL (fun q : Nat => s.heap.size ≤ q) := ⟨hx, hb, hown, fun w h => hT w (lT_c h), K, lE_ok ad av, hE, fun _ h => h⟩
  have J : lG ad av p l c s m #[Value.ref b] D Z (fun q : Nat => s.heap.size ≤ q) b L xs := ⟨G, hml, hT, hst9, hX, hbl, hbA, hL⟩
  have X : wH D vwCl (fun q : Nat => s.heap.size ≤ q) s.heap s.heap [] (wcat []) := ⟨fun k q h => by simp [wcat] at h, ⟨fun i j p q h => by simp [wcat] at h, fun k q h => by simp [wcat] at h⟩, va_S.rf⟩
  have hl := lv_entry ([.ref b]) (n := 8) (Nat.le_of_ble_eq_true rfl)
  rw [lg_entry_eq]
  generalize (lg_sl ([.ref b]) ++ List.replicate (8 - (lg_sl ([.ref b])).length) Slot.unset).toArray = ls at hl ⊢
  have hl : lv_has ls 8 [(0, .ref b)] := hl
  refine cx_n11 G X (hT _ (lT_l (List.mem_of_getElem? (i := 0) rfl))) (hT _ (lT_l (List.mem_of_getElem? (i := 1) rfl))) (hT _ (lT_l (List.mem_of_getElem? (i := 2) rfl))) (Nat.le_of_ble_eq_true rfl) (Nat.le_of_ble_eq_true rfl) dL_law_0 (fun q1 H X => ?_)
  refine lv_dup hx hb dL_law_3 rfl ?_
  refine dtV_go (w := wcat [[(q1, Sum.inr (11, [.null, .null, .null, .null, .null, .null, .null, .null, .null, .null, .null, .null, .int 0]))]]) (wf := wcat []) G X (wsel2 [0] 1 rfl rfl rfl) (run_I (As := []) (rest := [.ref q1]) (n := 0) G hml hT hl.1 (k11_init2 (lE_ok ad av) (ob := q1) (lE_A ad av) _) (cwI 0 hT (gg_0 lT_good (fun v h => lT_c h) (lT_c ck_524)) rfl rfl rfl (hT _ (lT_l (List.mem_of_getElem? (i := 2) rfl))) (hT _ (lT_l (List.mem_of_getElem? (i := 7) rfl))) (hT _ (lT_l (List.mem_of_getElem? (i := 8) rfl))) rfl (by decide +kernel) ⟨Nat.le_of_ble_eq_true rfl, Nat.le_of_ble_eq_true rfl⟩) rfl (Nat.le_of_ble_eq_true rfl) dL_law_4 ⟨Nat.le_of_ble_eq_true rfl, Nat.le_of_ble_eq_true rfl⟩) (fun u8 => List.Perm.refl _) (fun H9 locs u8 eq1 X9 => ?_)
  obtain ⟨an, ⟨wo, La, tm, vq, r0⟩, Li, Lt, ta, tb, tc, ⟨r1, b0, r2⟩, rp, rk⟩ := u8
  obtain rfl : an.1 = q1 := eq1
  obtain ⟨rd, erd⟩ : ∃ rd : Nat × Nat, rd = (r1, r2) := ⟨_, rfl⟩
  have X8 : wH D vwCl (fun q : Nat => s.heap.size ≤ q) s.heap H9 locs (wcat [anP Z an wo La.1 Li.1 Lt.1 ta.1 tb.1 tc.1 rd.1 rp rk 0 (fun _ => 0) (fun _ => 0), wkP Z (wo, La.1, tm.1, vq) r0 0 0 4294967295 0 0 0 0 0 (fun _ => 0), landP Z La zτ0, thP Z tm (fun _ => 0) (fun _ => 0), ruP r0 0 0, landP Z Li zτ0, landP Z Lt zτ0, thP Z ta (fun _ => 0) (fun _ => 0), thP Z tb (fun _ => 0) (fun _ => 0), thP Z tc (fun _ => 0) (fun _ => 0), rdP Z rd b0 (fun _ => 0), ruP rp 0 0, ruP rk 3 0]) := by
    subst erd
    have X2 := X9
    rw [show wcat ([] : List va_W) = [] from rfl, List.append_nil] at X2
    exact X2
  replace X := X8
  clear X9 X8
  refine W.widen (k := 263) (n := 1713) (Nat.le_of_ble_eq_true rfl) (Nat.le_of_ble_eq_true rfl) ?_
  refine lv_astore_n (lv' := [(1, .ref an.1), (0, .ref b)]) hx hb dL_law_7 rfl hl (by decide) rfl (fun ls hl => ?_)
  refine cx_newT hT (ci := 12) (C := RX12) (T := TX12) (N := 48) (fs := zfs0) rfl (fun w h => lT_m (mk_base w h)) tyX12 tyX12_ok G X (hT _ (lT_l (List.mem_of_getElem? (i := 3) rfl))) (hT _ (lT_l (List.mem_of_getElem? (i := 4) rfl))) (hT _ (lT_l (List.mem_of_getElem? (i := 5) rfl))) zfs0_ok (Nat.le_of_ble_eq_true rfl) (Nat.le_of_ble_eq_true rfl) dL_law_8 (fun q2 H X => ?_)
  refine lv_dup hx hb dL_law_11 rfl ?_
  refine dtV_go (w := wcat [[(q2, Sum.inr (12, zfs0))]]) (wf := wcat [anP Z an wo La.1 Li.1 Lt.1 ta.1 tb.1 tc.1 rd.1 rp rk 0 (fun _ => 0) (fun _ => 0), wkP Z (wo, La.1, tm.1, vq) r0 0 0 4294967295 0 0 0 0 0 (fun _ => 0), landP Z La zτ0, thP Z tm (fun _ => 0) (fun _ => 0), ruP r0 0 0, landP Z Li zτ0, landP Z Lt zτ0, thP Z ta (fun _ => 0) (fun _ => 0), thP Z tb (fun _ => 0) (fun _ => 0), thP Z tc (fun _ => 0) (fun _ => 0), rdP Z rd b0 (fun _ => 0), ruP rp 0 0, ruP rk 3 0]) (w' := fun mq => mw q2 mq 12 (Z 0) (Z 1) zσ0) (W1 := fun mq => wcat [anP Z an wo La.1 Li.1 Lt.1 ta.1 tb.1 tc.1 rd.1 rp rk 0 (fun _ => 0) (fun _ => 0), wkP Z (wo, La.1, tm.1, vq) r0 0 0 4294967295 0 0 0 0 0 (fun _ => 0), landP Z La zτ0, thP Z tm (fun _ => 0) (fun _ => 0), ruP r0 0 0, landP Z Li zτ0, landP Z Lt zτ0, thP Z ta (fun _ => 0) (fun _ => 0), thP Z tb (fun _ => 0) (fun _ => 0), thP Z tc (fun _ => 0) (fun _ => 0), rdP Z rd b0 (fun _ => 0), ruP rp 0 0, ruP rk 3 0, mw q2 mq 12 (Z 0) (Z 1) zσ0]) G X (wsel2 [13, 0, 1, 2, 3, 4, 5, 6, 7, 8, 9, 10, 11, 12] 14 rfl rfl rfl) (run_I (As := []) (rest := [.ref q2]) (n := 0) G hml hT hl.1 (c_init (lE_ok ad av) (ob := q2) _) (cwI 0 hT (gg_0 lT_good (fun v h => (List.mem_append.mp h).elim lT_c lT_m) (lT_m mk_36)) rfl rfl rfl (hT _ (lT_l (List.mem_of_getElem? (i := 5) rfl))) (hT _ (lT_l (List.mem_of_getElem? (i := 9) rfl))) (hT _ (lT_l (List.mem_of_getElem? (i := 10) rfl))) rfl (by decide +kernel) ⟨Nat.le_of_ble_eq_true rfl, Nat.le_of_ble_eq_true rfl⟩) rfl (Nat.le_of_ble_eq_true rfl) dL_law_12 ⟨Nat.le_of_ble_eq_true rfl, Nat.le_of_ble_eq_true rfl⟩) (fun mq => lback [13, 0, 1, 2, 3, 4, 5, 6, 7, 8, 9, 10, 11, 12] 14 rfl rfl rfl) (fun H locs mq _ X => ?_)
  refine W.widen (k := 292) (n := 3332) (Nat.le_of_ble_eq_true rfl) (Nat.le_of_ble_eq_true rfl) ?_
  refine lv_astore_n (lv' := [(2, .ref q2), (1, .ref an.1), (0, .ref b)]) hx hb dL_law_15 rfl hl (by decide) rfl (fun ls hl => ?_)
  refine lv_iconst (v := nI 1) hx hb dL_law_16 (by decide) ?_
  refine cx_newl (n := 1) G X (by decide) (Nat.le_of_ble_eq_true rfl) (Nat.le_of_ble_eq_true rfl) dL_law_17 (fun q3 H X => ?_)
  refine W.widen (k := 300) (n := 4000) (Nat.le_of_ble_eq_true rfl) (Nat.le_of_ble_eq_true rfl) ?_
  refine lv_astore_n (lv' := [(3, .ref q3), (2, .ref q2), (1, .ref an.1), (0, .ref b)]) hx hb dL_law_19 rfl hl (by decide) rfl (fun ls hl => ?_)
  refine lv_iconst (v := nI 0) hx hb dL_law_20 (by decide) ?_
  refine lv_istore (lv' := [(4, .int (nI 0)), (3, .ref q3), (2, .ref q2), (1, .ref an.1), (0, .ref b)]) hx hb dL_law_21 hl (by decide) rfl (fun ls hl => ?_)
  have X2 : wH D vwCl (fun q : Nat => s.heap.size ≤ q) s.heap H locs (wcat [anP Z an wo La.1 Li.1 Lt.1 ta.1 tb.1 tc.1 rd.1 rp rk 0 (fun _ => 0) (zσ0.2 41), wkP Z (wo, La.1, tm.1, vq) r0 0 0 4294967295 0 0 0 0 0 (fun _ => 0), landP Z La zσ0, landP Z Li zσ0, landP Z Lt zσ0, thP Z tm (fun _ => 0) (fun _ => 0), thP Z ta (fun _ => 0) (fun _ => 0), thP Z tb (fun _ => 0) (fun _ => 0), thP Z tc (fun _ => 0) (fun _ => 0), rdP Z rd b0 (fun _ => 0), ruP rp 0 0, ruP rk 3 0, mw q2 mq 12 (Z 0) (Z 1) zσ0, elO Z q3 (fun _ => 0)]) := wh_left (wh_perm (wsel2 (qs := [anP Z an wo La.1 Li.1 Lt.1 ta.1 tb.1 tc.1 rd.1 rp rk 0 (fun _ => 0) (zσ0.2 41), wkP Z (wo, La.1, tm.1, vq) r0 0 0 4294967295 0 0 0 0 0 (fun _ => 0), landP Z La zσ0, landP Z Li zσ0, landP Z Lt zσ0, thP Z tm (fun _ => 0) (fun _ => 0), thP Z ta (fun _ => 0) (fun _ => 0), thP Z tb (fun _ => 0) (fun _ => 0), thP Z tc (fun _ => 0) (fun _ => 0), rdP Z rd b0 (fun _ => 0), ruP rp 0 0, ruP rk 3 0, mw q2 mq 12 (Z 0) (Z 1) zσ0, elO Z q3 (fun _ => 0)]) (rest := [ruP r0 0 0]) [0, 1, 2, 5, 6, 3, 7, 8, 9, 10, 11, 12, 13, 14, 4] 15 rfl rfl (by rw [← zτσ, ← zτσ, ← zτσ]; rfl)) X)
  have X3 : wH D vwCl (fun q : Nat => s.heap.size ≤ q) s.heap H locs (wcat [anP Z an wo La.1 Li.1 Lt.1 ta.1 tb.1 tc.1 rd.1 rp rk 0 (fun _ => 0) (zσ0.2 41), wkP Z (wo, La.1, tm.1, vq) r0 0 0 4294967295 0 0 0 0 0 (fun _ => 0), landP Z La zσ0, landP Z Li zσ0, landP Z Lt zσ0, thP Z tm (fun _ => 0) (fun _ => 0), thP Z ta (fun _ => 0) (fun _ => 0), thP Z tb (fun _ => 0) (fun _ => 0), thP Z tc (fun _ => 0) (fun _ => 0), rdP Z rd b0 (fun _ => 0), ruP rp 0 0, ruP rk 3 0, shOn (shF Z (fun _ => 0) (fun _ => 0) zσ0) 8, mw q2 mq 12 (Z 0) (Z 1) zσ0, elO Z q3 (fun _ => 0)]) := X2
  exact law_loop J hr hlocks (L + 1) 0 (Nat.zero_le _) (by omega) zσ0 zσ0 zσ0 (fun _ => 0) (fun _ => 0) 0 H locs ls zRel_0 ⟨zσ0, (fun _ => 0), (fun _ => 0), (fun _ => 0), (fun _ => 0), (fun _ => 0), (fun _ => 0), (fun _ => 0), (fun _ => 0), (fun _ => 0), (fun _ => 0), (fun _ => 0), r0, 0, 0, 4294967295, 0, 0, 0, 0, 0, b0, fun _ _ => (by decide : (0 : Nat) < 100000), X3⟩ hl

