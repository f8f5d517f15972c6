/-! THE LAW'S WORLD -/
def lInv (Z : Nat → ClassId) (an : Nat × Nat × Nat) (wo vq : Nat) (La Li Lt : LA) (tm ta tb tc : Nat × Nat × Nat) (rd : Nat × Nat) (rp rk mo : Nat) (mq : Nat → Nat) (oq : Nat) (D : va_G) (A : Nat → Prop) (H0 H : Heap) (locs : List Loc) (σ τ τi : MS) (F F5 : Nat → Nat) (hi : Nat) : Prop := ∃ (τt : MS) (sb sc FM KM vv K K5 F3 K3 rq g : Nat → Nat) (r0 a4 a5 a6 a7 a8 a9 a10 a11 b0 : Nat), ztl rq ∧ wH D vwCl A H0 H locs (wcat [anP Z an wo La.1 Li.1 Lt.1 ta.1 tb.1 tc.1 rd.1 rp rk hi sb (σ.2 41), wkP Z (wo, La.1, tm.1, vq) r0 a4 a5 a6 a7 a8 a9 a10 a11 vv, landP Z La τ, landP Z Li τi, landP Z Lt τt, thP Z tm FM KM, thP Z ta F K, thP Z tb F5 K5, thP Z tc F3 K3, rdP Z rd b0 rq, ruP rp 0 0, ruP rk 3 0, shOn (shF Z sb sc σ) 8, mw mo mq 12 (Z 0) (Z 1) σ, elO Z oq g])
def lG (ad av : Nat → Nat) (p : Program) (l : Launch) (c : Code) (s : State) (m : MethodId) (args : Array Value) (D : va_G) (Z : Nat → ClassId) (A : Nat → Prop) (b L : Nat) (xs : Nat → Int32) : Prop := cG (lE ad av) p c cL_law s m args D Z RL A ∧ c.maxLocals = 8 ∧ (∀ w ∈ lT, w.before args s = true) ∧ l.stackTraces = false ∧ va_X b L xs s s.heap ∧ b < s.heap.size ∧ ¬ A b ∧ L ≤ 3072
theorem lsel {ps : List va_W} {q : va_W} {rest : List va_W} (ix : List Nat) (n : Nat) (hn : ps.length = n) (h : ix.isPerm (List.range n) = true) (e : ix.map (fun i => ps.getD i []) = q :: rest) : (wcat ps).Perm (q ++ wcat rest) := by
  have k := wsel2 (qs := [q]) (rest := rest) ix n hn h e
  have e1 : wcat [q] = q := List.append_nil q
  rwa [e1] at k
theorem lback {ps : List va_W} {q : va_W} {rest : List va_W} (ix : List Nat) (n : Nat) (hn : ps.length = n) (h : ix.isPerm (List.range n) = true) (e : ix.map (fun i => ps.getD i []) = q :: rest) : (q ++ wcat rest).Perm (wcat ps) := (lsel ix n hn h e).symm
theorem lsh {Z : Nat → ClassId} {sb sc : Nat → Nat} {σ u : MS} (h : ∀ j, 40 < j → j < 47 → u.2 j = σ.2 j) : shF Z sb sc σ = shF Z sb sc u ∧ σ.2 41 = u.2 41 := by
  refine ⟨?_, (h 41 (by decide) (by decide)).symm⟩
  funext d
  have es : sel u d = sel σ d := by
    funext k
    unfold sel
    rw [h 45 (by decide) (by decide), h 46 (by decide) (by decide)]
  unfold shF
  rw [h 41 (by decide) (by decide), h 42 (by decide) (by decide), h 43 (by decide) (by decide), h 44 (by decide) (by decide), h 45 (by decide) (by decide), es]
theorem lshE {Z : Nat → ClassId} {sb sc : Nat → Nat} {σ u : MS} (h : mEq σ u) : shF Z sb sc σ = shF Z sb sc u ∧ σ.2 41 = u.2 41 := lsh fun j h1 h2 => (h.1 j (nScr j (Or.inr (Or.inr (Or.inr (Or.inr ⟨h1, h2⟩)))))).2
theorem lsh15 {Z : Nat → ClassId} {sb sc : Nat → Nat} {σ : MS} {v : Nat} : shF Z sb sc σ = shF Z sb sc (sF σ 15 v) ∧ σ.2 41 = (sF σ 15 v).2 41 := lsh fun _ _ _ => rfl
theorem lSt15 {σ τ τi : MS} {F F5 : Nat → Nat} {hi v : Nat} (h : zRel σ τ τi F F5 hi) : zRel (sF σ 15 v) τ τi F F5 hi := zRel_St h ⟨fun j _ hj => ⟨if_neg hj, rfl⟩, h.1.2.1.2.2.2.2.1⟩
theorem lshT {Z : Nat → ClassId} {sb sc : Nat → Nat} {σ T u : MS} (hT : ∀ j, 40 < j → j < 47 → T.2 j = σ.2 j) (h : mEq T u) : shF Z sb sc σ = shF Z sb sc u ∧ σ.2 41 = u.2 41 := lsh fun j h1 h2 => ((h.1 j (nScr j (Or.inr (Or.inr (Or.inr (Or.inr ⟨h1, h2⟩)))))).2).trans (hT j h1 h2)
theorem zset_sh {σ : MS} {k x : Int32} : ∀ j, 40 < j → j < 47 → (zsetT σ k x).2 j = σ.2 j := fun j _ _ => by
  unfold zsetT
  split
  · rfl
  · split <;> rfl
theorem zkeepT_sh {σ : MS} {f : Nat → Nat} : ∀ j, 40 < j → j < 47 → (zkeepT σ f).2 j = σ.2 j := fun j h1 _ => by
  unfold zkeepT
  split
  · rfl
  · exact if_neg (by omega)
theorem zanew_sh {σ : MS} : ∀ j, 40 < j → j < 47 → (zanewT σ).2 j = σ.2 j := fun j h1 _ => by
  unfold zanewT
  split
  · exact if_neg (by omega)
  · rfl
theorem lkT {σ T : MS} {f : Nat → Nat} (h : T = σ ∨ T = zkeepT σ f) : ∀ j, 40 < j → j < 47 → T.2 j = σ.2 j := fun j h1 h2 => by
  rcases h with rfl | rfl
  · rfl
  · exact zkeepT_sh j h1 h2
theorem lre2 {σ : MS} {j : Nat} (h1 : 40 < j) : (zresT σ).2 j = σ.2 j := by
  unfold zresT
  split
  · rfl
  · exact zres_2n (by omega)
theorem lzk {σ τ τi : MS} {F F5 : Nat → Nat} {hi : Nat} (h : zRel σ τ τi F F5 hi) : mOk (zlike τ τi) ∧ zWok ((zlike τ τi).2 27) ∧ mZ (zlike τ τi) := by
  have hi := h.2.2.1
  have hw : zWok (τ.2 27) := h.2.1.2.2.2.2.1
  exact ⟨hi.1, hw, hi.2.2.1⟩
theorem lhi {σ τ τi : MS} {F F5 : Nat → Nat} {hi : Nat} (h : zRel σ τ τi F F5 hi) : σ.1 37 < 2 := by
  rw [h.2.2.2.2.1]
  exact h.2.2.2.1
theorem nI_ex (x : Int32) : ∃ z : Nat, x = nI z := ⟨x.toBitVec.toNat, Int32.toBitVec_inj.mp (by
  show x.toBitVec = BitVec.ofNat 32 x.toBitVec.toNat
  simp)⟩
theorem gg_W {T L : List Cond} (hg : ∀ v ∈ T, (v.onTables && v.keeps) = true ∨ ∃ ty, v = .arrayClass ty) (hL : ∀ v ∈ L, v ∈ T) {own C : String} {idx : Nat} {y : MethodName} {hd : Cond} (h1 : hd ∈ T) (h2 : Cond.methodLink own idx y ∈ T) (h3 : Cond.instanceMethod y ∈ T) (h4 : Cond.selects C y y ∈ T) (h5 : Cond.initialized C ∈ T) : GoodIn T (wsV own idx C y (hd :: L)) := by
  intro w hw
  have key : ∀ v ∈ T, v ∈ T ∧ ((v.onTables && v.keeps) = true ∨ ∃ ty, v = .arrayClass ty) := fun v hv => ⟨hv, hg v hv⟩
  unfold wsV at hw
  rcases List.mem_append.mp hw with hw | hw
  · simp only [List.mem_cons, List.not_mem_nil, or_false] at hw
    rcases hw with rfl | rfl | rfl | rfl
    · exact key _ h2
    · exact key _ h3
    · exact key _ h4
    · exact key _ h5
  · rcases List.mem_cons.mp hw with rfl | hw
    · exact key _ h1
    · exact key _ (hL _ hw)
theorem gg_S {T L : List Cond} (hg : ∀ v ∈ T, (v.onTables && v.keeps) = true ∨ ∃ ty, v = .arrayClass ty) (hL : ∀ v ∈ L, v ∈ T) {own : String} {idx : Nat} {y : MethodName} {hd : Cond} (h1 : hd ∈ T) (h2 : Cond.methodLink own idx y ∈ T) (h3 : Cond.static y ∈ T) (h5 : Cond.initialized y.cls ∈ T) : GoodIn T (va_wsS own idx y (hd :: L)) := by
  intro w hw
  have key : ∀ v ∈ T, v ∈ T ∧ ((v.onTables && v.keeps) = true ∨ ∃ ty, v = .arrayClass ty) := fun v hv => ⟨hv, hg v hv⟩
  unfold va_wsS at hw
  rcases List.mem_append.mp hw with hw | hw
  · simp only [List.mem_cons, List.not_mem_nil, or_false] at hw
    rcases hw with rfl | rfl | rfl
    · exact key _ h2
    · exact key _ h3
    · exact key _ h5
  · rcases List.mem_cons.mp hw with rfl | hw
    · exact key _ h1
    · exact key _ (hL _ hw)
section LW
variable {p : Program} {l : Launch} {e : Env} {s : State} {m : MethodId} {args : Array Value} {below : List Frame} {meth : Method} {c : Code} {H : Heap} {locs : List Loc} {cells slots : Nat} {Q : State → Prop}
variable {pc : Nat} {ls : Array Slot} {rest : List Value} {D : va_G} {A : Nat → Prop} {ad av : Nat → Nat} {b L i : Nat} {xs : Nat → Int32}
variable {Z : Nat → ClassId} {an : Nat × Nat × Nat} {wo vq : Nat} {La Li Lt : LA} {tm ta tb tc : Nat × Nat × Nat} {rd : Nat × Nat} {rp rk mo : Nat} {mq : Nat → Nat} {oq : Nat} {σ τ τi : MS} {F F5 : Nat → Nat} {hi : Nat}
theorem l_arg (J : lG ad av p l c s m args D Z A b L xs) (hi6 : i + 6 ≤ L) (k : Nat) (hk : k < 6) {w0 : va_W} {lv : List (Nat × Value)} (X : wH D vwCl A s.heap H locs w0) (hl : lv_has ls 8 lv) (h4 : (4, Value.int (nI i)) ∈ lv) (h0 : (0, Value.ref b) ∈ lv) (d0 : decode cL_law pc = .ok (.aload_n 0, 1)) (d1 : decode cL_law (pc + 1) = .ok (.iload 4, 2)) (d3 : decode cL_law (pc + 3) = .ok (.iconst (k : Int), 1)) (d4 : decode cL_law (pc + 4) = .ok (.iadd, 1)) (d5 : decode cL_law (pc + 5) = .ok (.iaload, 1))
    (kk : W p l e room_1 s m args below meth c H locs cells slots Q (F0 m (pc + 6) ls (.int (xs (i + k)) :: rest))) : W p l e room_1 s m args below meth c H locs cells slots Q (F0 m pc ls rest) := by
  obtain ⟨G, -, -, -, hX, hbl, hbA, hL⟩ := J
  have hx := G.1
  have hb := G.2.1
  refine lv_aload_n hx hb d0 rfl (hl.2.2 _ h0) ?_
  refine lv_iload hx hb d1 (hl.2.2 _ h4) ?_
  refine lv_iconst (v := nI k) hx hb d3 (by rcases (show k = 0 ∨ k = 1 ∨ k = 2 ∨ k = 3 ∨ k = 4 ∨ k = 5 by omega) with rfl | rfl | rfl | rfl | rfl | rfl <;> rfl) ?_
  refine gn_iadd hx hb d4 ?_
  refine va_sld hx hb hX hbl hbA X.2.2 (vp_in_nI (show i + k < L by omega) (by omega)) d5 ?_
  rw [nI_clamp (by omega)]
  exact kk
theorem l_bool {xb : Nat} {x : Int32} (hx : p.tables.exec = Jvm.exec) (hb : c.code = cL_law) (hxb : (x = 0 ∧ xb = 0) ∨ (¬ x = 0 ∧ xb = 1)) (d0 : decode cL_law pc = .ok (.ifCond .eq 7, 3)) (d3 : decode cL_law (pc + 3) = .ok (.iconst 1, 1)) (d4 : decode cL_law (pc + 4) = .ok (.goto 4, 3)) (d7 : decode cL_law (pc + 7) = .ok (.iconst 0, 1))
    (kk : W p l e room_1 s m args below meth c H locs cells slots Q (F0 m (pc + 8) ls (.int (nI xb) :: rest))) : W p l e room_1 s m args below meth c H locs cells slots Q (F0 m pc ls (.int x :: rest)) := by
  refine lv_if_eq (tgt := pc + 7) hx hb d0 (by omega) (fun q => ?_) (fun q => ?_)
  · rcases hxb with ⟨_, rfl⟩ | ⟨h, _⟩
    · exact lv_iconst (v := nI 0) hx hb d7 (by decide) kk
    · exact absurd q h
  · rcases hxb with ⟨h, _⟩ | ⟨_, rfl⟩
    · exact absurd h q
    · exact lv_iconst (v := nI 1) hx hb d3 (by decide) (lv_goto (tgt := pc + 8) hx hb d4 (by omega) kk)
theorem run_VW {index n maxL nL : Nat} {y : MethodName} {bytes : ByteArray} {ret : Option FieldType} {hh : List (Nat × Nat × Nat × Nat)} {ws : List Cond} {rm : Room} {Ts : List Cond} {o9 : Addr} {As : List Value} {w wf : va_W} {Qc : Array Value → State → Outcome → State → Prop} {free : Addr → Prop} {C own : String} {E : (Nat → Prop) → State → Heap → Prop} {cc : ByteArray} {R : Room} (G : cG E p c cc s m args D Z own A) (hml : c.maxLocals = nL) (hts : ∀ w ∈ Ts, w.before args s = true) (hl : ls.size = nL) (hrecv : ∃ cellB : Cell, H[o9]? = some cellB ∧ cellB.vm.isStatics = false ∧ s.vm.findClass C = some cellB.cls) (hM : Met l y ws rm (dtPre E D Z (.ref o9 :: As) w H.size) Qc rm.cells rm.slots free) (cw : vx_CVW R s args own C index y bytes maxL ret hh ws rm rm.cells rm.slots n) (hn : As.length = n) (hrs : (rest.map fun v => v.category).sum ≤ 8) (hdg : decode cc pc = .ok (.invokevirtual index, 3)) (hf : cells + rm.cells ≤ R.cells ∧ slots + rm.slots ≤ R.slots) (X : wH D vwCl A s.heap H locs (w ++ wf)) :
    va_Run p l e R s m args below meth c H locs cells slots rm.cells rm.slots (F0 m pc ls (As.reverse ++ .ref o9 :: rest)) rest (Qc (Value.ref o9 :: As).toArray) free := vx_runVW (As := As) (rest := rest) ⟨G.1, G.2.1, hml, G.2.2.1, hts⟩ hM cw ⟨dt_blind G.2.2.2.2.2.1, hrecv, dt_pre G X (.ref o9 :: As)⟩ rfl hn hl rfl (lv_room hrs) hdg hf
theorem run_SW {index n maxL nL : Nat} {y : MethodName} {bytes : ByteArray} {ret : Option FieldType} {hh : List (Nat × Nat × Nat × Nat)} {ws : List Cond} {rm : Room} {Ts : List Cond} {As : List Value} {w wf : va_W} {Qc : Array Value → State → Outcome → State → Prop} {free : Addr → Prop} {own : String} {E : (Nat → Prop) → State → Heap → Prop} {cc : ByteArray} {R : Room} (G : cG E p c cc s m args D Z own A) (hml : c.maxLocals = nL) (hts : ∀ w ∈ Ts, w.before args s = true) (hl : ls.size = nL) (hM : Met l y ws rm (dtPre E D Z As w H.size) Qc rm.cells rm.slots free) (cw : vx_CSW R s args own index y bytes maxL ret hh ws rm rm.cells rm.slots n) (hn : As.length = n) (hrs : (rest.map fun v => v.category).sum ≤ 8) (hdg : decode cc pc = .ok (.invokestatic index, 3)) (hf : cells + rm.cells ≤ R.cells ∧ slots + rm.slots ≤ R.slots) (X : wH D vwCl A s.heap H locs (w ++ wf)) :
    va_Run p l e R s m args below meth c H locs cells slots rm.cells rm.slots (F0 m pc ls (As.reverse ++ rest)) rest (Qc As.toArray) free := vx_runSW (As := As) (rest := rest) ⟨G.1, G.2.1, hml, G.2.2.1, hts⟩ hM cw ⟨dt_blind G.2.2.2.2.2.1, dt_pre G X As⟩ rfl hn hl rfl (lv_room hrs) hdg hf
end LW
