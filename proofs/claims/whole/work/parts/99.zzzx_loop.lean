/-! THE LAW'S LOOP -/
theorem l_and (x : Int32) : ∃ t : Nat, t < 64 ∧ x &&& nI 63 = nI t := by
  refine ⟨(x &&& nI 63).toBitVec.toNat, ?_, Int32.toBitVec_inj.mp (by
    show (x &&& nI 63).toBitVec = BitVec.ofNat 32 (x &&& nI 63).toBitVec.toNat
    simp)⟩
  have e : (x &&& nI 63).toBitVec = x.toBitVec &&& 63#32 := rfl
  rw [e, BitVec.toNat_and]
  exact Nat.lt_of_le_of_lt Nat.and_le_right (by decide)
theorem l_tsw {p : Program} {l : Launch} {e : Env} {s : State} {m : MethodId} {args : Array Value} {below : List Frame} {meth : Method} {c : Code} {H : Heap} {locs : List Loc} {cells slots : Nat} {Q : State → Prop} {ls : Array Slot} {rest : List Value} (hx : p.tables.exec = Jvm.exec) (hb : c.code = cL_law) {t : Nat} (ht : 33 ≤ t) (ht2 : t < 64) (kk : W p l e room_1 s m args below meth c H locs cells slots Q (F0 m 1505 ls rest)) : W p l e room_1 s m args below meth c H locs cells slots Q (F0 m 40 ls (.int (nI t) :: rest)) :=
  lv_tableOut (tgt := 1505) hx hb dL_law_40 (Or.inr (by rw [nI_toInt (by omega)]; omega)) (by decide) kk
set_option maxHeartbeats 4000000 in
set_option maxRecDepth 100000 in
theorem law_loop {p : Program} {l : Launch} {e : Env} {s : State} {m : MethodId} {below : List Frame} {meth : Method} {c : Code} {D : va_G} {ad av : Nat → Nat} {b L : Nat} {xs : Nat → Int32} {Z : Nat → ClassId} {an : Nat × Nat × Nat} {wo vq : Nat} {La Li Lt : LA} {tm ta tb tc : Nat × Nat × Nat} {rd : Nat × Nat} {rp rk mo : Nat} {mq : Nat → Nat} {oq : Nat} (J : lG ad av p l c s m #[Value.ref b] D Z (fun q : Nat => s.heap.size ≤ q) b L xs) (hr : meth.sig.returnType = ret) (hlocks : meth.locks = false) : ∀ (n k : Nat), 6 * k ≤ L → L < 6 * k + n → ∀ (σ τ τi : MS) (F F5 : Nat → Nat) (hi : Nat) (H : Heap) (locs : List Loc) (ls : Array Slot), zRel σ τ τi F F5 hi → lInv Z an wo vq La Li Lt tm ta tb tc rd rp rk mo mq oq D (fun q : Nat => s.heap.size ≤ q) s.heap H locs σ τ τi F F5 hi → lv_has ls 8 [(4, .int (nI (6 * k))), (3, .ref oq), (2, .ref mo), (1, .ref an.1), (0, .ref b)] → W p l e room_1 s m #[Value.ref b] below meth c H locs (300 + 6 * k) (4000 + 102 * k) (lw_Z below #[Value.ref b] s) (F0 m 23 ls []) := by
  intro n
  induction n with
  | zero =>
    intro k h1 h2
    exact absurd h2 (by omega)
  | succ n ih =>
    intro k hk hn σ τ τi F F5 hi H locs ls h I hl
    obtain ⟨G, hml, hts, hst9, hX, hbl, hbA, hL⟩ := id J
    have hx := G.1
    have hb := G.2.1
    have hS : va_S (fun q : Nat => s.heap.size ≤ q) s.heap H locs := by
      obtain ⟨τt, sb, sc, FM, KM, vv, K, K5, F3, K3, rq, g, r0, a4, a5, a6, a7, a8, a9, a10, a11, b0, hz, X⟩ := I
      exact X.2.2
    have fin : W p l e room_1 s m #[Value.ref b] below meth c H locs (300 + 6 * k) (4000 + 102 * k) (lw_Z below #[Value.ref b] s) (F0 m 1511 ls []) :=
      lv_iconst (v := 1) hx hb dL_law_1511 (by decide) (va_forget (fun q hq => hS.2.2 q hq) (W.widen (k := 601024) (n := 7293034) (by omega) (by omega) (lw_ret hx hb hr hlocks dL_law_1512)))
    refine lv_iload hx hb dL_law_23 (lv_at hl 0 rfl) ?_
    refine lv_aload_n hx hb dL_law_25 rfl (lv_at hl 4 rfl) ?_
    refine va_slen hx hb hX hbl hbA hS dL_law_26 ?_
    refine lv_bipush (v := nI 6) hx hb dL_law_27 (by decide) ?_
    by_cases h6 : 6 ≤ L
    · refine gn_isub (a := L) (b := 6) hx hb dL_law_29 h6 ?_
      refine gn_icmp_gt (tgt := 1511) hx hb dL_law_30 (by decide) (by omega) (by omega) (fun _ => fin) (fun q => ?_)
      have hi6 : 6 * k + 6 ≤ L := by omega
      have hrm : ∀ a d : Nat, a ≤ 6 → d ≤ 102 → 300 + 6 * k + a ≤ room_1.cells ∧ 4000 + 102 * k + d ≤ room_1.slots := fun a d h1 h2 => ⟨(show 300 + 6 * k + a ≤ 601024 by omega), (show 4000 + 102 * k + d ≤ 7293034 by omega)⟩
      have back : ∀ (σ τ τi : MS) (F F5 : Nat → Nat) (hi : Nat) (H : Heap) (locs : List Loc) (ls : Array Slot), zRel σ τ τi F F5 hi → lInv Z an wo vq La Li Lt tm ta tb tc rd rp rk mo mq oq D (fun q : Nat => s.heap.size ≤ q) s.heap H locs σ τ τi F F5 hi → lv_has ls 8 [(4, .int (nI (6 * k))), (3, .ref oq), (2, .ref mo), (1, .ref an.1), (0, .ref b)] → W p l e room_1 s m #[Value.ref b] below meth c H locs (300 + 6 * k + 6) (4000 + 102 * k + 102) (lw_Z below #[Value.ref b] s) (F0 m 1505 ls []) := by
        intro σ τ τi F F5 hi H locs ls h I hl
        have e6 : nI (6 * k) + Int32.ofInt 6 = nI (6 * (k + 1)) := by
          rw [show 6 * (k + 1) = 6 * k + 6 by omega]
          exact (Int32.ofNat_add (6 * k) 6).symm
        refine lv_iinc (k := 0) (v := nI (6 * (k + 1))) (lv' := [(4, .int (nI (6 * (k + 1)))), (3, .ref oq), (2, .ref mo), (1, .ref an.1), (0, .ref b)]) hx hb dL_law_1505 hl rfl e6 (by decide) rfl (fun ls hl => ?_)
        refine lv_goto (tgt := 23) hx hb dL_law_1508 (by decide) ?_
        have r := ih (k + 1) (by omega) (by omega) σ τ τi F F5 hi H locs ls h I hl
        rw [show 300 + 6 * (k + 1) = 300 + 6 * k + 6 by omega, show 4000 + 102 * (k + 1) = 4000 + 102 * k + 102 by omega] at r
        exact r
      refine lv_aload_n hx hb dL_law_33 rfl (lv_at hl 4 rfl) ?_
      refine lv_iload hx hb dL_law_34 (lv_at hl 0 rfl) ?_
      refine va_sld hx hb hX hbl hbA hS (vp_in_nI (show 6 * k < L by omega) (by omega)) dL_law_36 ?_
      refine lv_bipush (v := nI 63) hx hb dL_law_37 (by decide) ?_
      refine lv_iand hx hb dL_law_39 ?_
      obtain ⟨t, ht, et⟩ := l_and (xs (nI (6 * k)).toNatClampNeg)
      rw [et]
      by_cases ht2 : 33 ≤ t
      · exact l_tsw hx hb ht2 ht (W.widen (k := 300 + 6 * k + 6) (n := 4000 + 102 * k + 102) (Nat.le_add_right _ _) (Nat.le_add_right _ _) (back σ τ τi F F5 hi H locs ls h I hl))
      clear et ih fin
      replace ht : t < 33 := Nat.not_le.mp ht2
      clear ht2
      rcases (show t = 0 ∨ t = 1 ∨ t = 2 ∨ t = 3 ∨ t = 4 ∨ t = 5 ∨ t = 6 ∨ t = 7 ∨ t = 8 ∨ t = 9 ∨ t = 10 ∨ t = 11 ∨ t = 12 ∨ t = 13 ∨ t = 14 ∨ t = 15 ∨ t = 16 ∨ t = 17 ∨ t = 18 ∨ t = 19 ∨ t = 20 ∨ t = 21 ∨ t = 22 ∨ t = 23 ∨ t = 24 ∨ t = 25 ∨ t = 26 ∨ t = 27 ∨ t = 28 ∨ t = 29 ∨ t = 30 ∨ t = 31 ∨ t = 32 by omega) with rfl | rfl | rfl | rfl | rfl | rfl | rfl | rfl | rfl | rfl | rfl | rfl | rfl | rfl | rfl | rfl | rfl | rfl | rfl | rfl | rfl | rfl | rfl | rfl | rfl | rfl | rfl | rfl | rfl | rfl | rfl | rfl | rfl
      · exact lv_tableIn (tgt := 188) (off := 148) hx hb dL_law_40 (by decide) (by decide) rfl (by decide) (law_land J hi6 hrm h I hl back)
      · exact lv_tableIn (tgt := 213) (off := 173) hx hb dL_law_40 (by decide) (by decide) rfl (by decide) (law_road J hi6 hrm h I hl back)
      · exact lv_tableIn (tgt := 250) (off := 210) hx hb dL_law_40 (by decide) (by decide) rfl (by decide) (law_world J hi6 hrm h I hl back)
      · exact lv_tableIn (tgt := 287) (off := 247) hx hb dL_law_40 (by decide) (by decide) rfl (by decide) (law_met J hi6 hrm h I hl back)
      · exact lv_tableIn (tgt := 324) (off := 284) hx hb dL_law_40 (by decide) (by decide) rfl (by decide) (law_set J hi6 hrm h I hl back)
      · exact lv_tableIn (tgt := 361) (off := 321) hx hb dL_law_40 (by decide) (by decide) rfl (by decide) (law_way J hi6 hrm h I hl back)
      · exact lv_tableIn (tgt := 398) (off := 358) hx hb dL_law_40 (by decide) (by decide) rfl (by decide) (law_next J hi6 hrm h I hl back)
      · exact lv_tableIn (tgt := 435) (off := 395) hx hb dL_law_40 (by decide) (by decide) rfl (by decide) (law_says J hi6 hrm h I hl back)
      · exact lv_tableIn (tgt := 484) (off := 444) hx hb dL_law_40 (by decide) (by decide) rfl (by decide) (law_chance J hi6 hrm h I hl back)
      · exact lv_tableIn (tgt := 533) (off := 493) hx hb dL_law_40 (by decide) (by decide) rfl (by decide) (law_anew J hi6 hrm h I hl back)
      · exact lv_tableIn (tgt := 546) (off := 506) hx hb dL_law_40 (by decide) (by decide) rfl (by decide) (law_answer J hi6 hrm h I hl back)
      · exact lv_tableIn (tgt := 583) (off := 543) hx hb dL_law_40 (by decide) (by decide) rfl (by decide) (law_found J hi6 hrm h I hl back)
      · exact lv_tableIn (tgt := 636) (off := 596) hx hb dL_law_40 (by decide) (by decide) rfl (by decide) (law_same J hi6 hrm h I hl back)
      · exact lv_tableIn (tgt := 685) (off := 645) hx hb dL_law_40 (by decide) (by decide) rfl (by decide) (law_think J hi6 hrm h I hl back)
      · exact lv_tableIn (tgt := 723) (off := 683) hx hb dL_law_40 (by decide) (by decide) rfl (by decide) (law_judge J hi6 hrm h I hl back)
      · exact lv_tableIn (tgt := 748) (off := 708) hx hb dL_law_40 (by decide) (by decide) rfl (by decide) (law_walk J hi6 hrm h I hl back)
      · exact lv_tableIn (tgt := 785) (off := 745) hx hb dL_law_40 (by decide) (by decide) rfl (by decide) (law_worth J hi6 hrm h I hl back)
      · exact lv_tableIn (tgt := 811) (off := 771) hx hb dL_law_40 (by decide) (by decide) rfl (by decide) (law_never J hi6 hrm h I hl back)
      · exact lv_tableIn (tgt := 836) (off := 796) hx hb dL_law_40 (by decide) (by decide) rfl (by decide) (law_by J hi6 hrm h I hl back)
      · exact lv_tableIn (tgt := 897) (off := 857) hx hb dL_law_40 (by decide) (by decide) rfl (by decide) (law_mean J hi6 hrm h I hl back)
      · exact lv_tableIn (tgt := 946) (off := 906) hx hb dL_law_40 (by decide) (by decide) rfl (by decide) (law_dusk J hi6 hrm h I hl back)
      · exact lv_tableIn (tgt := 1007) (off := 967) hx hb dL_law_40 (by decide) (by decide) rfl (by decide) (law_best J hi6 hrm h I hl back)
      · exact lv_tableIn (tgt := 1068) (off := 1028) hx hb dL_law_40 (by decide) (by decide) rfl (by decide) (law_post J hi6 hrm h I hl back)
      · exact lv_tableIn (tgt := 1105) (off := 1065) hx hb dL_law_40 (by decide) (by decide) rfl (by decide) (law_image J hi6 hrm h I hl back)
      · exact lv_tableIn (tgt := 1118) (off := 1078) hx hb dL_law_40 (by decide) (by decide) rfl (by decide) (law_restore J hi6 hrm h I hl back)
      · exact lv_tableIn (tgt := 1131) (off := 1091) hx hb dL_law_40 (by decide) (by decide) rfl (by decide) (law_count J hi6 hrm h I hl back)
      · exact lv_tableIn (tgt := 1156) (off := 1116) hx hb dL_law_40 (by decide) (by decide) rfl (by decide) (law_keep J hi6 hrm h I hl back)
      · exact lv_tableIn (tgt := 1217) (off := 1177) hx hb dL_law_40 (by decide) (by decide) rfl (by decide) (law_row J hi6 hrm h I hl back)
      · exact lv_tableIn (tgt := 1266) (off := 1226) hx hb dL_law_40 (by decide) (by decide) rfl (by decide) (law_put J hi6 hrm h I hl back)
      · exact lv_tableIn (tgt := 1315) (off := 1275) hx hb dL_law_40 (by decide) (by decide) rfl (by decide) (law_element J hi6 hrm h I hl back)
      · exact lv_tableIn (tgt := 1382) (off := 1342) hx hb dL_law_40 (by decide) (by decide) rfl (by decide) (law_copy J hi6 hrm h I hl back)
      · exact lv_tableIn (tgt := 1455) (off := 1415) hx hb dL_law_40 (by decide) (by decide) rfl (by decide) (law_weight J hi6 hrm h I hl back)
      · exact lv_tableIn (tgt := 1480) (off := 1440) hx hb dL_law_40 (by decide) (by decide) rfl (by decide) (law_toss J hi6 hrm h I hl back)
    · have k0 : k = 0 := by omega
      subst k0
      refine lv_isub hx hb dL_law_29 ?_
      refine lv_icmp_gt (tgt := 1511) hx hb dL_law_30 (by decide) (fun _ => fin) (fun q => absurd ?_ q)
      rcases (show L = 0 ∨ L = 1 ∨ L = 2 ∨ L = 3 ∨ L = 4 ∨ L = 5 by omega) with rfl | rfl | rfl | rfl | rfl | rfl <;> decide
