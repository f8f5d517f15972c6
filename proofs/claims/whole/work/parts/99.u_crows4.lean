theorem dtVi_of {E : (Nat → Prop) → State → Heap → Prop} (hE : cEok E) {S : Type} {l : Launch} {D : va_G} {Z : Nat → ClassId} {y : MethodName} {ws' : List Cond} {fr lo mc ms : Nat} {As : List Value} {w : va_W} {w' : S → va_W} {post : S → Prop} {cc : ByteArray} {maxL : Nat} (hyn : y.name = "<init>") (hy : plainName y.cls = true) (hcw : ∀ w ∈ cW, w ∈ Cond.code y cc maxL (none) :: ws') (hlen : (lg_sl As).length ≤ maxL)
    (body : ∀ (p : Program) (e : Env) (s : State) (m : MethodId) (args : Array Value) (below : List Frame) (meth : Method) (c : Code) (A : Nat → Prop) (Q : State → Prop) (ls : Array Slot), meth.name = "<init>" → p.tables.exec = Jvm.exec → c.code = cc → c.maxLocals = maxL → s.vm.findClass y.cls = some m.cls → (∀ w ∈ Cond.code y cc maxL (none) :: ws', w.before args s = true) → cG E p c cc s m args D Z y.cls A → wH D vwCl A s.heap s.heap [] w → lv_has ls maxL (lv_args 0 As) →
      (∀ (pc : Nat) (H : Heap) (locs : List Loc) (ls : Array Slot) (u : S), post u → wH D vwCl A s.heap H locs (w' u) → decode cc pc = .ok (.return_, 1) → W p l e { frames := fr, cells := mc, slots := ms, locals := lo } s m args below meth c H locs mc ms Q (F0 m pc ls [])) →
      W p l e { frames := fr, cells := mc, slots := ms, locals := lo } s m args below meth c s.heap [] 0 0 Q (F0 m 0 ls [])) :
    dtV E l D Z y (Cond.code y cc maxL (none) :: ws') { frames := fr, cells := mc, slots := ms, locals := lo } As w w' post := by
  intro sz
  refine Met.ofW (cc := cc) (maxL := maxL) (ret := none) hy rfl ?_
  intro p e s m args below meth c s₁ B hml hv
  obtain ⟨rfl, hsz, hP, hK, hD0, hEs⟩ := hv
  have hin : meth.name = "<init>" := (name_of_methodNamed B.named B.method).1.trans hyn
  have hx := B.exec
  have hb := B.bytes
  have hr := B.returns
  have hts := atoms_spec (ws := Cond.code y cc maxL (none) :: ws') B.pre
  have hown : s.vm.findClass y.cls = some m.cls := findClass_of_methodNamed B.named
  have hlocks := B.notSynchronized
  subst hsz
  have hD := hD0.self (sz := s.heap.size)
  have hl := lv_entry As (n := maxL) hlen
  rw [lg_entry_eq]
  refine body p e s m _ below meth c (va_A w s.heap.size) _ _ hin hx hb hml hown hts ⟨hx, hb, hown, fun w h => hts w (hcw w h), hK, hE, hEs, fun q h => Or.inr h⟩ ⟨hP, hD, va_S.rf⟩ hl ?_
  intro pc H locs ls u hu X2 hdg
  exact W.vret hx hb hr (fun t ht hW => ⟨⟨u, rfl, hu, by rw [ht]; exact X2.1, X2.2.1⟩, X2.2.2.F ht⟩) X2.2.2.2.2 hdg
section CX
variable {p : Program} {l : Launch} {e : Env} {R : Room} {s : State} {m : MethodId} {args : Array Value} {below : List Frame} {meth : Method} {c : Code} {H : Heap} {locs : List Loc} {cells slots : Nat} {Q : State → Prop}
variable {cc : ByteArray} {pc : Nat} {ls : Array Slot} {rest : List Value} {D : va_G} {A : Nat → Prop} {E : (Nat → Prop) → State → Heap → Prop} {Z : Nat → ClassId} {own : String} {ps ps' : List va_W} {piece : va_W} {a : Nat} {idx : Nat}

theorem wcat_one {x : va_W} : wcat [x] = x := List.append_nil x
theorem wcat_snoc {ps : List va_W} {x : va_W} : wcat (ps ++ [x]) = wcat ps ++ x := by rw [wcat_app, wcat_one]
theorem cx_newi {n : Nat} (G : cG E p c cc s m args D Z own A) (X : wH D vwCl A s.heap H locs (wcat ps)) (hn : n ≤ 1000) (hcells : cells + 1 ≤ R.cells) (hslots : slots + n ≤ R.slots) (hdg : decode cc pc = .ok (.newarray .int, 2)) (kk : ∀ (q : Nat) (H1 : Heap), wH D vwCl A s.heap H1 locs (wcat (ps ++ [[(q, .inl (Z 0, n, .inl (fun _ => 0)))]])) → W p l e R s m args below meth c H1 locs (cells + 1) (slots + n) Q (F0 m (pc + 2) ls (.ref q :: rest))) : W p l e R s m args below meth c H locs cells slots Q (F0 m pc ls (.int (nI n) :: rest)) := by
  have hK := G.2.2.2.2.1
  refine va_newa (atype := .int) (ty := .int) (a0 := (n, .inl (fun _ => 0))) G.1 G.2.1 (G.2.2.2.1 _ ck_52) rfl hK X.1 X.2.1 X.2.2 G.2.2.2.2.2.2.2 (fun cA => rfl) (nI_pos (by omega)) (nI_clamp (by omega)) (by show n * 4 ≤ 536870912; omega) hcells hslots hdg (fun q cA H1 hK1 hP hD hS => ?_)
  have e : cA = Z 0 := by
    have h1 := (hK1.2 5 (cA, .int) rfl).2
    have h2 := (hK.2 0 (Z 0, .int) rfl).2
    exact Option.some.inj (h1.symm.trans h2)
  subst e
  refine kk q H1 ⟨?_, ?_, hS⟩
  · rw [wcat_snoc]; exact hP
  · rw [wcat_snoc]; exact hD
theorem cx_newl {n : Nat} (G : cG E p c cc s m args D Z own A) (X : wH D vwCl A s.heap H locs (wcat ps)) (hn : n ≤ 1000) (hcells : cells + 1 ≤ R.cells) (hslots : slots + n ≤ R.slots) (hdg : decode cc pc = .ok (.newarray .long, 2)) (kk : ∀ (q : Nat) (H1 : Heap), wH D vwCl A s.heap H1 locs (wcat (ps ++ [[(q, .inl (Z 1, n, .inr (.inl (fun _ => 0))))]])) → W p l e R s m args below meth c H1 locs (cells + 1) (slots + n) Q (F0 m (pc + 2) ls (.ref q :: rest))) : W p l e R s m args below meth c H locs cells slots Q (F0 m pc ls (.int (nI n) :: rest)) := by
  have hK := G.2.2.2.2.1
  refine va_newa (atype := .long) (ty := .long) (a0 := (n, .inr (.inl (fun _ => 0)))) G.1 G.2.1 (G.2.2.2.1 _ ck_292) rfl hK X.1 X.2.1 X.2.2 G.2.2.2.2.2.2.2 (fun cA => rfl) (nI_pos (by omega)) (nI_clamp (by omega)) (by show n * 8 ≤ 536870912; omega) hcells hslots hdg (fun q cA H1 hK1 hP hD hS => ?_)
  have e : cA = Z 1 := by
    have h1 := (hK1.2 5 (cA, .long) rfl).2
    have h2 := (hK.2 1 (Z 1, .long) rfl).2
    exact Option.some.inj (h1.symm.trans h2)
  subst e
  refine kk q H1 ⟨?_, ?_, hS⟩
  · rw [wcat_snoc]; exact hP
  · rw [wcat_snoc]; exact hD
theorem cx_new {ci N : Nat} {C : String} {T : u_T} {fs : List Value} (hc : vwCl[ci]? = some (C, T, N)) (hin : ∀ w ∈ u_ws C T N, w ∈ cW) (ty0 : Nat → FieldType) (hty : ∀ k, k < N → parseFieldDescriptor (T k).2.2.1 = some (ty0 k)) (G : cG E p c cc s m args D Z own A) (X : wH D vwCl A s.heap H locs (wcat ps)) (h1 : (Cond.classLink own idx C).before args s = true) (h2 : (Cond.instantiable C N).before args s = true) (h3 : (Cond.initialized C).before args s = true) (hfs : ∀ j, j < N → defaultValue (ty0 j) = vp_V fs j) (hcells : cells + 1 ≤ R.cells) (hslots : slots + N ≤ R.slots) (hdg : decode cc pc = .ok (.new idx, 3)) (kk : ∀ (q : Nat) (H1 : Heap), wH D vwCl A s.heap H1 locs (wcat (ps ++ [[(q, .inr (ci, fs))]])) → W p l e R s m args below meth c H1 locs (cells + 1) (slots + N) Q (F0 m (pc + 3) ls (.ref q :: rest))) : W p l e R s m args below meth c H locs cells slots Q (F0 m pc ls rest) := by
  refine va_new G.1 G.2.1 G.2.2.2.1 hin ty0 hty G.2.2.1 h1 h2 h3 G.2.2.2.2.1 X.1 X.2.1 X.2.2 G.2.2.2.2.2.2.2 hc hfs hcells hslots hdg (fun q H1 hP hD hS => ?_)
  refine kk q H1 ⟨?_, ?_, hS⟩
  · rw [wcat_snoc]; exact hP
  · rw [wcat_snoc]; exact hD
/-- a final field, in its constructor -/
theorem cx_putF {ci N : Nat} {C C' : String} {T : u_T} (hc : vwCl[ci]? = some (C, T, N)) (hin : ∀ w ∈ u_ws C T N, w ∈ cW) (ty0 : Nat → FieldType) (hty : ∀ k, k < N → parseFieldDescriptor (T k).2.2.1 = some (ty0 k)) (hnm : ∀ a, a < N → ∀ b, b < N → a ≠ b → (T a).2.1 ≠ (T b).2.1) (hin2 : meth.name = "<init>") (G : cG E p c cc s m args D Z own A) (X : wH D vwCl A s.heap H locs (wcat ps)) (i k : Nat) {fs : List Value} (hp : ps[i]? = some piece) (hq : piece[k]? = some (a, .inr (ci, fs))) (j : Nat) (hj : j < N) (hlink : (Cond.fieldLink own idx C' (T j).2.1 (T j).2.2.1).before args s = true) (hs : (T j).1 = C') (hfin : (T j).2.2.2 = true) (hdecl : (T j).1 = own) {v : Value} {ty : FieldType} (hd : parseFieldDescriptor (T j).2.2.1 = some ty) (hn : narrow ty v = v) (hfit : fits ty v = true) (hl : j < fs.length) (hset : ps.set i (piece.set k (a, .inr (ci, fs.set j v))) = ps') (hdg : decode cc pc = .ok (.putfield idx, 3)) (kk : ∀ (H1 : Heap) (locs1 : List Loc), wH D vwCl A s.heap H1 locs1 (wcat ps') → W p l e R s m args below meth c H1 locs1 cells slots Q (F0 m (pc + 3) ls rest)) : W p l e R s m args below meth c H locs cells slots Q (F0 m pc ls (v :: .ref a :: rest)) := by
  refine va_putF G.1 G.2.1 G.2.2.2.1 hin ty0 hty hnm G.2.2.1 G.2.2.2.2.1 X.1 X.2.1 X.2.2 (wpos ps i + k) (wcat_at hp hq) hc j hj hlink (fun x h => by rw [hs] at h; exact h) hfin hin2 hdecl hd hn hfit hl hdg (fun H1 locs1 hP hD hS => ?_)
  rw [wcat_set hp hq, hset] at hP hD
  exact kk H1 locs1 ⟨hP, hD, hS⟩
theorem cx_obj (hml : c.maxLocals = ls.size) (G : cG E p c cc s m args D Z own A) (h1 : (Cond.methodLink own idx objectInit).before args s = true) (hfr : 1 ≤ R.frames) (hlo : (rest.map fun v => v.category).sum + 12 ≤ R.locals) (hdg : decode cc pc = .ok (.invokespecial idx, 3)) (kk : W p l e R s m args below meth c H locs cells slots Q (F0 m (pc + 3) ls rest)) : W p l e R s m args below meth c H locs cells slots Q (F0 m pc ls (.ref a :: rest)) := by
  refine W.objInit G.1 G.2.1 G.2.2.1 h1 (G.2.2.2.1 _ ck_2) (G.2.2.2.1 _ ck_3) rfl hml.symm rfl hdg hfr (by show 2 * 0 + _ + 12 ≤ _; omega) ?_
  exact kk
variable {index n maxL nL : Nat} {y : MethodName} {bytes : ByteArray} {ret : Option FieldType} {ws : List Cond} {rm : Room} {Ts : List Cond} {b : Addr} {As : List Value} {w wf : va_W} {Qc : Array Value → State → Outcome → State → Prop} {free : Addr → Prop}
theorem run_SU {ci : Nat} {r : vw_C} (hc : vwCl[ci]? = some r) (G : cG E p c cc s m args D Z own A) (hml : c.maxLocals = nL) (hts : ∀ w ∈ Ts, w.before args s = true) (hl : ls.size = nL) (hrecv : ∃ cellB : Cell, H[b]? = some cellB ∧ cellB.vm.isStatics = false ∧ s.vm.findClass r.1 = some cellB.cls) (hM : Met l y ws rm (dtPre E D Z (.ref b :: As) w H.size) Qc rm.cells rm.slots free) (cw : va_CS R s args own index y bytes maxL ret ws rm rm.cells rm.slots n) (hn : As.length = n) (hrs : (rest.map fun v => v.category).sum ≤ 8) (hdg : decode cc pc = .ok (.invokespecial index, 3)) (hf : cells + rm.cells ≤ R.cells ∧ slots + rm.slots ≤ R.slots) (X : wH D vwCl A s.heap H locs (w ++ wf)) :
    va_Run p l e R s m args below meth c H locs cells slots rm.cells rm.slots (F0 m pc ls (As.reverse ++ .ref b :: rest)) rest (Qc (Value.ref b :: As).toArray) free := va_runSU (C := r.1) (As := As) (rest := rest) (G.2.2.2.2.1.1 ci r hc).2 ⟨G.1, G.2.1, hml, G.2.2.1, hts⟩ hM cw ⟨dt_blind G.2.2.2.2.2.1, hrecv, dt_pre G X (.ref b :: As)⟩ rfl hn hl rfl (lv_room hrs) hdg hf
end CX
theorem ru_cl (k : Nat) : ∃ r, vwCl[ciR k]? = some r := by
  unfold ciR
  repeat (split; exact ⟨_, rfl⟩)
  exact ⟨_, rfl⟩
theorem cg_SU {y0 : MethodName} {c0 : ByteArray} {m0 : Nat} {r0 : Option FieldType} {own : String} {idx : Nat} {y : MethodName} {c : ByteArray} {maxL : Nat} {ret : Option FieldType} (h1 : Cond.code y c maxL ret ∈ cW) (h2 : Cond.methodLink own idx y ∈ cW) (h3 : Cond.sameMethod y.cls y.cls y.name y.desc ∈ cW) (h4 : Cond.superclass own y.cls ∈ cW) (h5 : Cond.instanceMethod y ∈ cW) (h6 : Cond.initialized y.cls ∈ cW) : GoodIn (Cond.code y0 c0 m0 r0 :: cW) (va_wsSU own idx y (Cond.code y c maxL ret :: cW)) := by
  intro w hw
  have key : ∀ v ∈ cW, v ∈ (Cond.code y0 c0 m0 r0 :: cW) ∧ ((v.onTables && v.keeps) = true ∨ ∃ ty, v = .arrayClass ty) := fun v hv => ⟨List.mem_cons_of_mem _ hv, cW_good v hv⟩
  unfold va_wsSU at hw
  rcases List.mem_append.mp hw with hw | hw
  · simp only [List.mem_cons, List.not_mem_nil, or_false] at hw
    rcases hw with rfl | rfl | rfl | rfl | rfl
    · exact key _ h2
    · exact key _ h3
    · exact key _ h4
    · exact key _ h5
    · exact key _ h6
  · rcases List.mem_cons.mp hw with rfl | hw
    · exact key _ h1
    · exact key _ hw
section CY
variable {p : Program} {l : Launch} {e : Env} {R : Room} {s : State} {m : MethodId} {args : Array Value} {below : List Frame} {meth : Method} {c : Code} {H : Heap} {locs : List Loc} {cells slots : Nat} {Q : State → Prop}
variable {cc : ByteArray} {pc : Nat} {ls : Array Slot} {rest : List Value} {D : va_G} {A : Nat → Prop} {E : (Nat → Prop) → State → Heap → Prop} {Z : Nat → ClassId} {own : String} {ps ps' : List va_W} {piece : va_W} {a : Nat} {idx : Nat}

theorem cx_nr0 (G : cG E p c cc s m args D Z own A) (X : wH D vwCl A s.heap H locs (wcat ps)) (h1 : (Cond.classLink own idx RX6).before args s = true) (h2 : (Cond.instantiable RX6 1).before args s = true) (h3 : (Cond.initialized RX6).before args s = true) (hcells : cells + 1 ≤ R.cells) (hslots : slots + 1 ≤ R.slots) (hdg : decode cc pc = .ok (.new idx, 3)) (kk : ∀ (q : Nat) (H1 : Heap), wH D vwCl A s.heap H1 locs (wcat (ps ++ [ruP q 0 0])) → W p l e R s m args below meth c H1 locs (cells + 1) (slots + 1) Q (F0 m (pc + 3) ls (.ref q :: rest))) : W p l e R s m args below meth c H locs cells slots Q (F0 m pc ls rest) := cx_new (ci := 6) (C := RX6) (T := TX6) (N := 1) (fs := [.int (nI 0)]) rfl cbase_6 tyX6 tyX6_ok G X h1 h2 h3 (fun j hj => by rcases (show j = 0 by omega) with rfl; rfl) hcells hslots hdg kk
theorem cx_nr1 (G : cG E p c cc s m args D Z own A) (X : wH D vwCl A s.heap H locs (wcat ps)) (h1 : (Cond.classLink own idx RX1).before args s = true) (h2 : (Cond.instantiable RX1 1).before args s = true) (h3 : (Cond.initialized RX1).before args s = true) (hcells : cells + 1 ≤ R.cells) (hslots : slots + 1 ≤ R.slots) (hdg : decode cc pc = .ok (.new idx, 3)) (kk : ∀ (q : Nat) (H1 : Heap), wH D vwCl A s.heap H1 locs (wcat (ps ++ [ruP q 1 0])) → W p l e R s m args below meth c H1 locs (cells + 1) (slots + 1) Q (F0 m (pc + 3) ls (.ref q :: rest))) : W p l e R s m args below meth c H locs cells slots Q (F0 m pc ls rest) := cx_new (ci := 1) (C := RX1) (T := TX1) (N := 1) (fs := [.int (nI 0)]) rfl cbase_1 tyX1 tyX1_ok G X h1 h2 h3 (fun j hj => by rcases (show j = 0 by omega) with rfl; rfl) hcells hslots hdg kk
theorem cx_nr2 (G : cG E p c cc s m args D Z own A) (X : wH D vwCl A s.heap H locs (wcat ps)) (h1 : (Cond.classLink own idx RX3).before args s = true) (h2 : (Cond.instantiable RX3 1).before args s = true) (h3 : (Cond.initialized RX3).before args s = true) (hcells : cells + 1 ≤ R.cells) (hslots : slots + 1 ≤ R.slots) (hdg : decode cc pc = .ok (.new idx, 3)) (kk : ∀ (q : Nat) (H1 : Heap), wH D vwCl A s.heap H1 locs (wcat (ps ++ [ruP q 2 0])) → W p l e R s m args below meth c H1 locs (cells + 1) (slots + 1) Q (F0 m (pc + 3) ls (.ref q :: rest))) : W p l e R s m args below meth c H locs cells slots Q (F0 m pc ls rest) := cx_new (ci := 3) (C := RX3) (T := TX3) (N := 1) (fs := [.int (nI 0)]) rfl cbase_3 tyX3 tyX3_ok G X h1 h2 h3 (fun j hj => by rcases (show j = 0 by omega) with rfl; rfl) hcells hslots hdg kk
theorem cx_nr3 (G : cG E p c cc s m args D Z own A) (X : wH D vwCl A s.heap H locs (wcat ps)) (h1 : (Cond.classLink own idx RX7).before args s = true) (h2 : (Cond.instantiable RX7 1).before args s = true) (h3 : (Cond.initialized RX7).before args s = true) (hcells : cells + 1 ≤ R.cells) (hslots : slots + 1 ≤ R.slots) (hdg : decode cc pc = .ok (.new idx, 3)) (kk : ∀ (q : Nat) (H1 : Heap), wH D vwCl A s.heap H1 locs (wcat (ps ++ [ruP q 3 0])) → W p l e R s m args below meth c H1 locs (cells + 1) (slots + 1) Q (F0 m (pc + 3) ls (.ref q :: rest))) : W p l e R s m args below meth c H locs cells slots Q (F0 m pc ls rest) := cx_new (ci := 7) (C := RX7) (T := TX7) (N := 1) (fs := [.int (nI 0)]) rfl cbase_7 tyX7 tyX7_ok G X h1 h2 h3 (fun j hj => by rcases (show j = 0 by omega) with rfl; rfl) hcells hslots hdg kk
theorem cx_nr4 (G : cG E p c cc s m args D Z own A) (X : wH D vwCl A s.heap H locs (wcat ps)) (h1 : (Cond.classLink own idx RX0).before args s = true) (h2 : (Cond.instantiable RX0 1).before args s = true) (h3 : (Cond.initialized RX0).before args s = true) (hcells : cells + 1 ≤ R.cells) (hslots : slots + 1 ≤ R.slots) (hdg : decode cc pc = .ok (.new idx, 3)) (kk : ∀ (q : Nat) (H1 : Heap), wH D vwCl A s.heap H1 locs (wcat (ps ++ [ruP q 4 0])) → W p l e R s m args below meth c H1 locs (cells + 1) (slots + 1) Q (F0 m (pc + 3) ls (.ref q :: rest))) : W p l e R s m args below meth c H locs cells slots Q (F0 m pc ls rest) := cx_new (ci := 0) (C := RX0) (T := TX0) (N := 1) (fs := [.int (nI 0)]) rfl cbase_0 tyX0 tyX0_ok G X h1 h2 h3 (fun j hj => by rcases (show j = 0 by omega) with rfl; rfl) hcells hslots hdg kk
theorem cx_nr5 (G : cG E p c cc s m args D Z own A) (X : wH D vwCl A s.heap H locs (wcat ps)) (h1 : (Cond.classLink own idx RX9).before args s = true) (h2 : (Cond.instantiable RX9 1).before args s = true) (h3 : (Cond.initialized RX9).before args s = true) (hcells : cells + 1 ≤ R.cells) (hslots : slots + 1 ≤ R.slots) (hdg : decode cc pc = .ok (.new idx, 3)) (kk : ∀ (q : Nat) (H1 : Heap), wH D vwCl A s.heap H1 locs (wcat (ps ++ [ruP q 5 0])) → W p l e R s m args below meth c H1 locs (cells + 1) (slots + 1) Q (F0 m (pc + 3) ls (.ref q :: rest))) : W p l e R s m args below meth c H locs cells slots Q (F0 m pc ls rest) := cx_new (ci := 9) (C := RX9) (T := TX9) (N := 1) (fs := [.int (nI 0)]) rfl cbase_9 tyX9 tyX9_ok G X h1 h2 h3 (fun j hj => by rcases (show j = 0 by omega) with rfl; rfl) hcells hslots hdg kk
theorem cx_n5 (G : cG E p c cc s m args D Z own A) (X : wH D vwCl A s.heap H locs (wcat ps)) (h1 : (Cond.classLink own idx RX5).before args s = true) (h2 : (Cond.instantiable RX5 2).before args s = true) (h3 : (Cond.initialized RX5).before args s = true) (hcells : cells + 1 ≤ R.cells) (hslots : slots + 2 ≤ R.slots) (hdg : decode cc pc = .ok (.new idx, 3)) (kk : ∀ (q : Nat) (H1 : Heap), wH D vwCl A s.heap H1 locs (wcat (ps ++ [[(q, .inr (5, [.int 0, .null]))]])) → W p l e R s m args below meth c H1 locs (cells + 1) (slots + 2) Q (F0 m (pc + 3) ls (.ref q :: rest))) : W p l e R s m args below meth c H locs cells slots Q (F0 m pc ls rest) := cx_new (ci := 5) (C := RX5) (T := TX5) (N := 2) (fs := [.int 0, .null]) rfl cbase_5 tyX5 tyX5_ok G X h1 h2 h3 (fun j hj => by rcases (show j = 0 ∨ j = 1 by omega) with rfl | rfl <;> rfl) hcells hslots hdg kk
/-- a rule's figure, in the constructor that all of them call -/
theorem cx_fig (hin2 : meth.name = "<init>") (G : cG E p c cc s m args D Z RX6 A) (X : wH D vwCl A s.heap H locs (wcat ps)) (i : Nat) {k ru f v : Nat} (hp : ps[i]? = some (ruP ru k f)) (hk : k < 6) (hlink : (Cond.fieldLink RX6 idx "AskNext$Rule" "figure" "I").before args s = true) (hset : ps.set i (ruP ru k v) = ps') (hdg : decode cc pc = .ok (.putfield idx, 3)) (kk : ∀ (H1 : Heap) (locs1 : List Loc), wH D vwCl A s.heap H1 locs1 (wcat ps') → W p l e R s m args below meth c H1 locs1 cells slots Q (F0 m (pc + 3) ls rest)) : W p l e R s m args below meth c H locs cells slots Q (F0 m pc ls (.int (nI v) :: .ref ru :: rest)) := by
  rcases (show k = 0 ∨ k = 1 ∨ k = 2 ∨ k = 3 ∨ k = 4 ∨ k = 5 by omega) with rfl | rfl | rfl | rfl | rfl | rfl
  · exact cx_putF (ci := 6) (C := RX6) (T := TX6) (N := 1) (fs := [.int (nI f)]) (v := .int (nI v)) (ty := .int) rfl cbase_6 tyX6 tyX6_ok nmX6 hin2 G X i 0 hp rfl 0 (by decide) hlink rfl rfl rfl (by decide +kernel) rfl rfl (Nat.le_of_ble_eq_true rfl) hset hdg kk
  · exact cx_putF (ci := 1) (C := RX1) (T := TX1) (N := 1) (fs := [.int (nI f)]) (v := .int (nI v)) (ty := .int) rfl cbase_1 tyX1 tyX1_ok nmX1 hin2 G X i 0 hp rfl 0 (by decide) hlink rfl rfl rfl (by decide +kernel) rfl rfl (Nat.le_of_ble_eq_true rfl) hset hdg kk
  · exact cx_putF (ci := 3) (C := RX3) (T := TX3) (N := 1) (fs := [.int (nI f)]) (v := .int (nI v)) (ty := .int) rfl cbase_3 tyX3 tyX3_ok nmX3 hin2 G X i 0 hp rfl 0 (by decide) hlink rfl rfl rfl (by decide +kernel) rfl rfl (Nat.le_of_ble_eq_true rfl) hset hdg kk
  · exact cx_putF (ci := 7) (C := RX7) (T := TX7) (N := 1) (fs := [.int (nI f)]) (v := .int (nI v)) (ty := .int) rfl cbase_7 tyX7 tyX7_ok nmX7 hin2 G X i 0 hp rfl 0 (by decide) hlink rfl rfl rfl (by decide +kernel) rfl rfl (Nat.le_of_ble_eq_true rfl) hset hdg kk
  · exact cx_putF (ci := 0) (C := RX0) (T := TX0) (N := 1) (fs := [.int (nI f)]) (v := .int (nI v)) (ty := .int) rfl cbase_0 tyX0 tyX0_ok nmX0 hin2 G X i 0 hp rfl 0 (by decide) hlink rfl rfl rfl (by decide +kernel) rfl rfl (Nat.le_of_ble_eq_true rfl) hset hdg kk
  · exact cx_putF (ci := 9) (C := RX9) (T := TX9) (N := 1) (fs := [.int (nI f)]) (v := .int (nI v)) (ty := .int) rfl cbase_9 tyX9 tyX9_ok nmX9 hin2 G X i 0 hp rfl 0 (by decide) hlink rfl rfl rfl (by decide +kernel) rfl rfl (Nat.le_of_ble_eq_true rfl) hset hdg kk
/-- null into a place of the rules, of the rows -/
theorem cx_astn (t0 : Nat) {C : String} (ht : (cT Z)[t0]? = some (Z t0, .object C)) (G : cG E p c cc s m args D Z own A) (X : wH D vwCl A s.heap H locs (wcat ps)) (i k : Nat) {n : Nat} {f : Nat → Option Nat} (hp : ps[i]? = some piece) (hq : piece[k]? = some (a, .inl (Z t0, n, .inr (.inr (.inr (.inr f)))))) {j : Nat} (hj : j < n) (hn : n < 2147483648) (hset : ps.set i (piece.set k (a, .inl (Z t0, n, .inr (.inr (.inr (.inr (va_up f j none))))))) = ps') (hdg : decode cc pc = .ok (.aastore, 1)) (kk : ∀ (H1 : Heap) (locs1 : List Loc), wH D vwCl A s.heap H1 locs1 (wcat ps') → W p l e R s m args below meth c H1 locs1 cells slots Q (F0 m (pc + 1) ls rest)) : W p l e R s m args below meth c H locs cells slots Q (F0 m pc ls (.null :: .int (nI j) :: .ref a :: rest)) := by
  refine va_astqN G.1 G.2.1 G.2.2.2.2.1 X.1 X.2.1 X.2.2 (wpos ps i + k) t0 (wcat_at hp hq) ht (vp_in_nI hj hn) hdg (fun H1 locs1 hP hD hS => ?_)
  rw [nI_clamp (by omega), wcat_set hp hq, hset] at hP hD
  exact kk H1 locs1 ⟨hP, hD, hS⟩
/-- a row, into its place -/
theorem cx_astW (G : cG E p c cc s m args D Z own A) (X : wH D vwCl A s.heap H locs (wcat ps)) (i k : Nat) {n : Nat} {f : Nat → Option Nat} (hp : ps[i]? = some piece) (hq : piece[k]? = some (a, .inl (Z 4, n, .inr (.inr (.inr (.inr f)))))) (i2 : Nat) {v : Nat × Nat} {t2 m2 : Nat} {g : Nat → Int32} (hp2 : ps[i2]? = some (roP Z v t2 m2 g)) {j : Nat} (hj : j < n) (hn : n < 2147483648) (hset : ps.set i (piece.set k (a, .inl (Z 4, n, .inr (.inr (.inr (.inr (va_up f j (some v.1)))))))) = ps') (hdg : decode cc pc = .ok (.aastore, 1)) (kk : ∀ (H1 : Heap) (locs1 : List Loc), wH D vwCl A s.heap H1 locs1 (wcat ps') → W p l e R s m args below meth c H1 locs1 cells slots Q (F0 m (pc + 1) ls rest)) : W p l e R s m args below meth c H locs cells slots Q (F0 m pc ls (.ref v.1 :: .int (nI j) :: .ref a :: rest)) := by
  refine va_astq G.1 G.2.1 G.2.2.2.2.1 X.1 X.2.1 X.2.2 (wpos ps i + k) 4 (wpos ps i2 + 0) 5 (r := (RX5, TX5, 2)) (wcat_at hp hq) rfl (wcat_at hp2 rfl) rfl (vp_in_nI hj hn) hdg (fun H1 locs1 hP hD hS => ?_)
  rw [nI_clamp (by omega), wcat_set hp hq, hset] at hP hD
  exact kk H1 locs1 ⟨hP, hD, hS⟩
/-- what the tables say of the rules' classes -/
def cCast (E : (Nat → Prop) → State → Heap → Prop) : Prop := ∀ (A : Nat → Prop) (U : State) (H : Heap), E A U H → va_Nw (.castable RX1 "AskNext$Rule") U ∧ va_Nw (.castable RX3 "AskNext$Rule") U ∧ va_Nw (.castable RX7 "AskNext$Rule") U ∧ va_Nw (.castable RX0 "AskNext$Rule") U ∧ va_Nw (.castable RX9 "AskNext$Rule") U
/-- a rule, into its place -/
theorem cx_astR (hC : cCast E) (G : cG E p c cc s m args D Z own A) (X : wH D vwCl A s.heap H locs (wcat ps)) (i k : Nat) {n : Nat} {f : Nat → Option Nat} (hp : ps[i]? = some piece) (hq : piece[k]? = some (a, .inl (Z 3, n, .inr (.inr (.inr (.inr f)))))) (i2 : Nat) {v kd fg : Nat} (hk : kd < 6) (hp2 : ps[i2]? = some (ruP v kd fg)) {j : Nat} (hj : j < n) (hn : n < 2147483648) (hset : ps.set i (piece.set k (a, .inl (Z 3, n, .inr (.inr (.inr (.inr (va_up f j (some v)))))))) = ps') (hdg : decode cc pc = .ok (.aastore, 1)) (kk : ∀ (H1 : Heap) (locs1 : List Loc), wH D vwCl A s.heap H1 locs1 (wcat ps') → W p l e R s m args below meth c H1 locs1 cells slots Q (F0 m (pc + 1) ls rest)) : W p l e R s m args below meth c H locs cells slots Q (F0 m pc ls (.ref v :: .int (nI j) :: .ref a :: rest)) := by
  obtain ⟨c1, c3, c7, c0, c9⟩ := hC _ _ _ G.2.2.2.2.2.2.1
  have fin : ∀ (H1 : Heap) (locs1 : List Loc), va_P D vwCl ((wcat ps).set (wpos ps i + k) (a, .inl (Z 3, n, .inr (.inr (.inr (.inr (va_up f (nI j).toNatClampNeg (some v)))))))) H1 → va_D A ((wcat ps).set (wpos ps i + k) (a, .inl (Z 3, n, .inr (.inr (.inr (.inr (va_up f (nI j).toNatClampNeg (some v)))))))) → va_S A s.heap H1 locs1 → W p l e R s m args below meth c H1 locs1 cells slots Q (F0 m (pc + 1) ls rest) := by
    intro H1 locs1 hP hD hS
    rw [nI_clamp (by omega), wcat_set hp hq, hset] at hP hD
    exact kk H1 locs1 ⟨hP, hD, hS⟩
  rcases (show kd = 0 ∨ kd = 1 ∨ kd = 2 ∨ kd = 3 ∨ kd = 4 ∨ kd = 5 by omega) with rfl | rfl | rfl | rfl | rfl | rfl
  · exact va_astq G.1 G.2.1 G.2.2.2.2.1 X.1 X.2.1 X.2.2 (wpos ps i + k) 3 (wpos ps i2 + 0) 6 (r := (RX6, TX6, 1)) (vs := [.int (nI fg)]) (wcat_at hp hq) rfl (wcat_at hp2 rfl) rfl (vp_in_nI hj hn) hdg fin
  · exact va_astqO G.1 G.2.1 G.2.2.2.2.1 X.1 X.2.1 X.2.2 (wpos ps i + k) 3 (wpos ps i2 + 0) 1 (r := (RX1, TX1, 1)) (vs := [.int (nI fg)]) (wcat_at hp hq) rfl c1 (wcat_at hp2 rfl) rfl (vp_in_nI hj hn) hdg fin
  · exact va_astqO G.1 G.2.1 G.2.2.2.2.1 X.1 X.2.1 X.2.2 (wpos ps i + k) 3 (wpos ps i2 + 0) 3 (r := (RX3, TX3, 1)) (vs := [.int (nI fg)]) (wcat_at hp hq) rfl c3 (wcat_at hp2 rfl) rfl (vp_in_nI hj hn) hdg fin
  · exact va_astqO G.1 G.2.1 G.2.2.2.2.1 X.1 X.2.1 X.2.2 (wpos ps i + k) 3 (wpos ps i2 + 0) 7 (r := (RX7, TX7, 1)) (vs := [.int (nI fg)]) (wcat_at hp hq) rfl c7 (wcat_at hp2 rfl) rfl (vp_in_nI hj hn) hdg fin
  · exact va_astqO G.1 G.2.1 G.2.2.2.2.1 X.1 X.2.1 X.2.2 (wpos ps i + k) 3 (wpos ps i2 + 0) 0 (r := (RX0, TX0, 1)) (vs := [.int (nI fg)]) (wcat_at hp hq) rfl c0 (wcat_at hp2 rfl) rfl (vp_in_nI hj hn) hdg fin
  · exact va_astqO G.1 G.2.1 G.2.2.2.2.1 X.1 X.2.1 X.2.2 (wpos ps i + k) 3 (wpos ps i2 + 0) 9 (r := (RX9, TX9, 1)) (vs := [.int (nI fg)]) (wcat_at hp hq) rfl c9 (wcat_at hp2 rfl) rfl (vp_in_nI hj hn) hdg fin
end CY
/-- AskNext with what its two arrays hold -/
def anQ (Z : Nat → ClassId) (o : Nat × Nat × Nat) (x0 x1 x2 x3 x4 x5 x6 x7 x8 x9 hi : Nat) (f g : Nat → Option Nat) : va_W := [(o.1, .inr (11, [.ref x0, .ref x1, .ref x2, .ref x3, .ref x4, .ref x5, .ref x6, .ref x7, .ref x8, .ref x9, .ref o.2.1, .ref o.2.2, .int (nI hi)])), (o.2.1, .inl (Z 3, 8, .inr (.inr (.inr (.inr f))))), (o.2.2, .inl (Z 4, 8, .inr (.inr (.inr (.inr g)))))]
theorem shR_up {b b' h h' : Nat → Nat} {d k : Nat} {v : Option Nat} (ho : ∀ j, j ≠ d → b' j = b j ∧ h' j = h j) (hv : shR b' h' k d = v) : va_up (shR b h k) d v = shR b' h' k := by
  funext j
  show (if j = d then v else shR b h k j) = _
  by_cases e : j = d
  · rw [if_pos e, e, hv]
  · rw [if_neg e]
    unfold shR
    rw [(ho j e).1, (ho j e).2]
theorem anQ_up {Z : Nat → ClassId} {o : Nat × Nat × Nat} {x0 x1 x2 x3 x4 x5 x6 x7 x8 x9 hi d : Nat} {b b' h h' : Nat → Nat} {v w : Option Nat} (ho : ∀ j, j ≠ d → b' j = b j ∧ h' j = h j) (hv : shR b' h' 1 d = v) (hw : shR b' h' 2 d = w) : anQ Z o x0 x1 x2 x3 x4 x5 x6 x7 x8 x9 hi (va_up (shR b h 1) d v) (va_up (shR b h 2) d w) = anP Z o x0 x1 x2 x3 x4 x5 x6 x7 x8 x9 hi b' h' := by
  rw [shR_up ho hv, shR_up ho hw]
  rfl
section CZ
variable {s : State} {H : Heap} {locs : List Loc} {D : va_G} {A : Nat → Prop} {f g : Nat → va_W} {d : Nat} {x : va_W} {qs : List va_W}
theorem wh_left {w wf : va_W} (X : wH D vwCl A s.heap H locs (w ++ wf)) : wH D vwCl A s.heap H locs w := ⟨fr_left X.1, fr_dl X.2.1, X.2.2⟩
/-- a shelf's cells forgotten, new ones in their place -/
theorem sh_new (hd : d < 8) (h : ∀ i, i < 8 → shUp f d x i = g i) (X : wH D vwCl A s.heap H locs (wcat (qs ++ [shOn f 8, x]))) : wH D vwCl A s.heap H locs (wcat (qs ++ [shOn g 8])) := by
  have p1 : (wcat (qs ++ [shOn f 8, x])).Perm (wcat (qs ++ [shOn g 8]) ++ f d) := by
    rw [wcat_app, wcat_app]
    show (wcat qs ++ (shOn f 8 ++ (x ++ []))).Perm ((wcat qs ++ (shOn g 8 ++ [])) ++ f d)
    rw [List.append_nil, List.append_nil, List.append_assoc]
    refine List.Perm.append_left _ ?_
    have a := (shOn_p (f := f) hd).append_right x
    have b := (shOn_b (f := f) (x := x) hd).append_right (f d)
    rw [shOn_c h] at b
    refine (a.trans ?_).trans b
    rw [List.append_assoc, List.append_assoc]
    refine List.perm_append_comm.trans ?_
    rw [List.append_assoc]
    exact List.perm_append_comm.trans (by rw [List.append_assoc]; exact List.Perm.append_left _ (List.perm_append_comm))
  exact wh_left (wh_perm p1 X)
theorem sh_gone (hd : d < 8) (h : ∀ i, i < 8 → shUp f d [] i = g i) (X : wH D vwCl A s.heap H locs (wcat (qs ++ [shOn f 8]))) : wH D vwCl A s.heap H locs (wcat (qs ++ [shOn g 8])) := by
  refine sh_new (x := []) hd h ?_
  rw [wcat_app] at X ⊢
  exact X
end CZ
