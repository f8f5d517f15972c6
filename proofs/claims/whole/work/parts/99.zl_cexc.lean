def zNX : ByteArray := ⟨#[0x2a, 0x2b, 0xb7, 0x00, 0x0d, 0xb1]⟩
def xNm : List String := ["java/lang/RuntimeException", "java/lang/Exception"]
def cThW (U : State) : Prop := (∀ w ∈ vx_atS RX6 19 "java/lang/IllegalStateException" ["java/lang/RuntimeException", "java/lang/Exception"], w.before #[] U = true) ∧ (∀ w ∈ vx_atS RX3 21 "java/lang/UnsupportedOperationException" ["java/lang/RuntimeException", "java/lang/Exception"], w.before #[] U = true) ∧ (∀ w ∈ zAtX RX0 38 "java/util/NoSuchElementException" 13 zNX ["java/lang/RuntimeException", "java/lang/Exception"], w.before #[] U = true) ∧ (∀ w ∈ vx_atS RX11 318 "java/lang/IllegalArgumentException" ["java/lang/RuntimeException", "java/lang/Exception"], w.before #[] U = true) ∧ (∀ w ∈ vx_atS RX11 325 "java/lang/IllegalStateException" ["java/lang/RuntimeException", "java/lang/Exception"], w.before #[] U = true)
def cThS (U : State) : Prop := (∃ a, vk_R RX6 17 "a rule's failure" a U) ∧ (∃ a, vk_R RX3 19 "a most's failure" a U) ∧ (∃ a, vk_R RX0 36 "a back's failure" a U) ∧ (∃ a, vk_R RX11 316 "no such shelf" a U) ∧ (∃ a, vk_R RX11 323 "no row, or no such place" a U)
def cThC (U : State) : Prop := va_Nw (.castable "java/lang/UnsupportedOperationException" "java/lang/UnsupportedOperationException") U ∧ va_Nw (.castable "java/util/NoSuchElementException" "java/util/NoSuchElementException") U ∧ va_Nw (.castable "java/lang/IllegalStateException" "java/lang/IllegalStateException") U ∧ va_Nc "java/util/NoSuchElementException" "java/lang/UnsupportedOperationException" U ∧ va_Nc "java/lang/IllegalStateException" "java/lang/UnsupportedOperationException" U ∧ va_Nc "java/lang/IllegalStateException" "java/util/NoSuchElementException" U
/-- what the throws of the class stand on -/
def cThr (E : (Nat → Prop) → State → Heap → Prop) : Prop := ∀ (A : Nat → Prop) (U : State) (H : Heap), E A U H → vx_Zq Bundle.tN "UNASSIGNED_STACK" Bundle.steD A U H ∧ vx_Zq Bundle.tN "SUPPRESSED_SENTINEL" Bundle.listD A U H ∧ cThW U ∧ cThS U ∧ cThC U
def dxL (E : (Nat → Prop) → State → Heap → Prop) (l : Launch) (D : va_G) (Z : Nat → ClassId) (y : MethodName) (ws : List Cond) (rm : Room) (As : List Value) (w : va_W) (r : Int64) (ok : Prop) (xc : String) : Prop := ∀ sz : Nat, vx_Met l y ws rm (dtPre E D Z As w sz) (va_Ql (S := Unit) (fun x _ => x = r ∧ ok) (fun _ t => dtB D w sz w t) (va_A w sz)) (vx_X (S := Unit) (fun _ => ¬ ok) (fun C _ t => C = xc ∧ dtB D w sz w t) (va_A w sz)) rm.cells rm.slots (va_A w sz)
theorem dxL_of {E : (Nat → Prop) → State → Heap → Prop} (hE : cEok E) {l : Launch} {D : va_G} {Z : Nat → ClassId} {y : MethodName} {ws' : List Cond} {fr lo mc ms : Nat} {As : List Value} {w : va_W} {r : Int64} {ok : Prop} {xc : String} {cc : ByteArray} {maxL : Nat} (hy : plainName y.cls = true) (hcw : ∀ w ∈ cW, w ∈ Cond.code y cc maxL (some .long) :: ws') (hlen : (lg_sl As).length ≤ maxL)
    (body : ∀ (p : Program) (e : Env) (s : State) (m : MethodId) (args : Array Value) (below : List Frame) (meth : Method) (c : Code) (A : Nat → Prop) (Q : State → Prop) (ls : Array Slot), (A = va_A w s.heap.size ∧ Q = vx_MQ below (va_Ql (S := Unit) (fun x _ => x = r ∧ ok) (fun _ t => dtB D w s.heap.size w t) (va_A w s.heap.size)) (vx_X (S := Unit) (fun _ => ¬ ok) (fun C _ t => C = xc ∧ dtB D w s.heap.size w t) (va_A w s.heap.size)) args s mc ms (va_A w s.heap.size) ∧ (∀ x ∈ c.exceptionTable.toList, False) ∧ meth.locks = false) → p.tables.exec = Jvm.exec → c.code = cc → c.maxLocals = maxL → s.vm.findClass y.cls = some m.cls → (∀ w ∈ Cond.code y cc maxL (some .long) :: ws', w.before args s = true) → cG E p c cc s m args D Z y.cls A → wH D vwCl A s.heap s.heap [] w → lv_has ls maxL (lv_args 0 As) →
      (∀ (pc : Nat) (H : Heap) (locs : List Loc) (ls : Array Slot) (u : Unit), ok → wH D vwCl A s.heap H locs w → decode cc pc = .ok (.lreturn, 1) → W p l e { frames := fr, cells := mc, slots := ms, locals := lo } s m args below meth c H locs mc ms Q (F0 m pc ls [.long r])) →
      W p l e { frames := fr, cells := mc, slots := ms, locals := lo } s m args below meth c s.heap [] 0 0 Q (F0 m 0 ls [])) :
    dxL E l D Z y (Cond.code y cc maxL (some .long) :: ws') { frames := fr, cells := mc, slots := ms, locals := lo } As w r ok xc := by
  intro sz
  refine vx_ofW (cc := cc) (maxL := maxL) (ret := some .long) hy rfl ?_
  intro p e s m args below meth c s₁ B hml htb hv
  obtain ⟨rfl, hsz, hP, hK, hD0, hEs⟩ := hv
  have hx := B.exec
  have hb := B.bytes
  have hr := B.returns
  have hts := atoms_spec (ws := Cond.code y cc maxL (some .long) :: ws') B.pre
  have hown : s.vm.findClass y.cls = some m.cls := findClass_of_methodNamed B.named
  have hlocks := B.notSynchronized
  subst hsz
  have hD := hD0.self (sz := s.heap.size)
  have hl := lv_entry As (n := maxL) hlen
  rw [lg_entry_eq]
  refine body p e s m _ below meth c (va_A w s.heap.size) _ _ ⟨rfl, rfl, htb, hlocks⟩ hx hb hml hown hts ⟨hx, hb, hown, fun w h => hts w (hcw w h), hK, hE, hEs, fun q h => Or.inr h⟩ ⟨hP, hD, va_S.rf⟩ hl ?_
  intro pc H locs ls u hu X2 hdg
  exact vx_ret (W.lret hx hb hr (fun t ht hW => ⟨⟨r, (), rfl, ⟨rfl, hu⟩, by rw [ht]; exact X2.1, X2.2.1⟩, X2.2.2.F ht⟩) X2.2.2.2.2 hdg)
def dxV (E : (Nat → Prop) → State → Heap → Prop) (l : Launch) (D : va_G) (Z : Nat → ClassId) (y : MethodName) (ws : List Cond) (rm : Room) (As : List Value) (w : va_W) (ok : Prop) (xc : String) : Prop := ∀ sz : Nat, vx_Met l y ws rm (dtPre E D Z As w sz) (va_Qv (S := Unit) (fun _ => ok) (fun _ t => dtB D w sz w t) (va_A w sz)) (vx_X (S := Unit) (fun _ => ¬ ok) (fun C _ t => C = xc ∧ dtB D w sz w t) (va_A w sz)) rm.cells rm.slots (va_A w sz)
theorem dxV_of {E : (Nat → Prop) → State → Heap → Prop} (hE : cEok E) {l : Launch} {D : va_G} {Z : Nat → ClassId} {y : MethodName} {ws' : List Cond} {fr lo mc ms : Nat} {As : List Value} {w : va_W} {ok : Prop} {xc : String} {cc : ByteArray} {maxL : Nat} (hy : plainName y.cls = true) (hcw : ∀ w ∈ cW, w ∈ Cond.code y cc maxL (none) :: ws') (hlen : (lg_sl As).length ≤ maxL)
    (body : ∀ (p : Program) (e : Env) (s : State) (m : MethodId) (args : Array Value) (below : List Frame) (meth : Method) (c : Code) (A : Nat → Prop) (Q : State → Prop) (ls : Array Slot), (A = va_A w s.heap.size ∧ Q = vx_MQ below (va_Qv (S := Unit) (fun _ => ok) (fun _ t => dtB D w s.heap.size w t) (va_A w s.heap.size)) (vx_X (S := Unit) (fun _ => ¬ ok) (fun C _ t => C = xc ∧ dtB D w s.heap.size w t) (va_A w s.heap.size)) args s mc ms (va_A w s.heap.size) ∧ (∀ x ∈ c.exceptionTable.toList, False) ∧ meth.locks = false) → p.tables.exec = Jvm.exec → c.code = cc → c.maxLocals = maxL → s.vm.findClass y.cls = some m.cls → (∀ w ∈ Cond.code y cc maxL (none) :: ws', w.before args s = true) → cG E p c cc s m args D Z y.cls A → wH D vwCl A s.heap s.heap [] w → lv_has ls maxL (lv_args 0 As) →
      (∀ (pc : Nat) (H : Heap) (locs : List Loc) (ls : Array Slot) (u : Unit), ok → wH D vwCl A s.heap H locs w → decode cc pc = .ok (.return_, 1) → W p l e { frames := fr, cells := mc, slots := ms, locals := lo } s m args below meth c H locs mc ms Q (F0 m pc ls [])) →
      W p l e { frames := fr, cells := mc, slots := ms, locals := lo } s m args below meth c s.heap [] 0 0 Q (F0 m 0 ls [])) :
    dxV E l D Z y (Cond.code y cc maxL (none) :: ws') { frames := fr, cells := mc, slots := ms, locals := lo } As w ok xc := by
  intro sz
  refine vx_ofW (cc := cc) (maxL := maxL) (ret := none) hy rfl ?_
  intro p e s m args below meth c s₁ B hml htb hv
  obtain ⟨rfl, hsz, hP, hK, hD0, hEs⟩ := hv
  have hx := B.exec
  have hb := B.bytes
  have hr := B.returns
  have hts := atoms_spec (ws := Cond.code y cc maxL (none) :: ws') B.pre
  have hown : s.vm.findClass y.cls = some m.cls := findClass_of_methodNamed B.named
  have hlocks := B.notSynchronized
  subst hsz
  have hD := hD0.self (sz := s.heap.size)
  have hl := lv_entry As (n := maxL) hlen
  rw [lg_entry_eq]
  refine body p e s m _ below meth c (va_A w s.heap.size) _ _ ⟨rfl, rfl, htb, hlocks⟩ hx hb hml hown hts ⟨hx, hb, hown, fun w h => hts w (hcw w h), hK, hE, hEs, fun q h => Or.inr h⟩ ⟨hP, hD, va_S.rf⟩ hl ?_
  intro pc H locs ls u hu X2 hdg
  exact vx_ret (W.vret hx hb hr (fun t ht hW => ⟨⟨(), rfl, hu, by rw [ht]; exact X2.1, X2.2.1⟩, X2.2.2.F ht⟩) X2.2.2.2.2 hdg)
section CX2
variable {p : Program} {l : Launch} {e : Env} {R : Room} {s : State} {m : MethodId} {args : Array Value} {below : List Frame} {meth : Method} {c : Code} {H : Heap} {locs : List Loc} {cells slots : Nat} {Q : State → Prop}
variable {cc : ByteArray} {pc : Nat} {ls : Array Slot} {rest : List Value} {D : va_G} {A : Nat → Prop} {E : (Nat → Prop) → State → Heap → Prop} {Z : Nat → ClassId} {own : String} {w : va_W}

theorem xc_at {ok : Prop} {xc cls : String} (hno : ¬ ok) (hxc : cls = xc) (X : wH D vwCl (va_A w s.heap.size) s.heap H locs w) (t : State) (hz : H.size ≤ t.heap.size) (hk : ∀ q : Nat, q < H.size → t.heap[q]? = H[q]?) : (vx_X (S := Unit) (fun _ => ¬ ok) (fun C _ t => C = xc ∧ dtB D w s.heap.size w t) (va_A w s.heap.size)) cls s t := by
  refine ⟨(), hno, ⟨hxc, X.1.kept (fun k q hq => hk q.1 ((X.1 k q hq).lt)), X.2.1⟩, Nat.le_trans X.2.2.1 hz, fun q h1 h2 => ?_⟩
  rw [hk q (Nat.lt_of_lt_of_le h1 X.2.2.1)]
  exact X.2.2.2.1 q h1 h2
theorem xc_hat {L : List Cond} (hg : ∀ w ∈ L, vx_ot w = true) (h : ∀ w ∈ L, w.before #[] s = true) : ∀ w ∈ L, w.before args s = true := fun w hw => vx_ot_at (State.WarmedH.refl s) rfl (hg w hw) (h w hw)
theorem cx_thrS {Qc : Array Value → State → Outcome → State → Prop} {ok : Prop} {xc cls text : String} {ik is ic mc ms sa : Nat} (hT : cThr E) (hst : l.stackTraces = false) (hq : A = va_A w s.heap.size ∧ Q = vx_MQ below Qc (vx_X (S := Unit) (fun _ => ¬ ok) (fun C _ t => C = xc ∧ dtB D w s.heap.size w t) (va_A w s.heap.size)) args s mc ms (va_A w s.heap.size) ∧ (∀ x ∈ c.exceptionTable.toList, False) ∧ meth.locks = false) (G : cG E p c cc s m args D Z own A) (X : wH D vwCl A s.heap H locs w) (hno : ¬ ok) (hxc : cls = xc) (hcls : Bundle.fit cls = true) (hk : (Cond.classLink own ik cls).before args s = true) (hini : (Cond.initialized cls).before args s = true) (hstr : vk_R own is text sa s) (hat : ∀ w ∈ vx_atS own ic cls ["java/lang/RuntimeException", "java/lang/Exception"], w.before #[] s = true)
    (hgood : (Cond.classLink own ik cls :: Cond.initialized cls :: vx_atS own ic cls ["java/lang/RuntimeException", "java/lang/Exception"]).all vx_ot = true) (hsize : ls.size = c.maxLocals)
    (d0 : decode cc pc = .ok (.new ik, 3)) (d3 : decode cc (pc + 3) = .ok (.dup, 1)) (d4 : decode cc (pc + 4) = .ok (.ldc is, 2)) (d6 : decode cc (pc + 6) = .ok (.invokespecial ic, 3)) (d9 : decode cc (pc + 9) = .ok (.athrow, 1))
    (hfr : 5 < R.frames) (hlo : (rest.map fun v => v.category).sum + 82 ≤ R.locals) (hRc : cells + 1 ≤ R.cells) (hRs : slots + 6 ≤ R.slots) (hc : cells + 1 ≤ mc) (hs : slots + 6 ≤ ms) : W p l e R s m args below meth c H locs cells slots Q (F0 m pc ls rest) := by
  obtain ⟨hA, rfl, htb, hlk⟩ := hq
  subst hA
  obtain ⟨z1, z2, -⟩ := hT _ _ _ G.2.2.2.2.2.2.1
  have hg := List.all_eq_true.mp hgood
  exact vx_throwS G.1 G.2.1 hst (names := ["java/lang/RuntimeException", "java/lang/Exception"]) G.2.2.1 hcls (fun n hn => by rcases List.mem_cons.mp hn with rfl | hn; decide +kernel; rcases List.mem_cons.mp hn with rfl | hn; decide +kernel; cases hn) hk hini hstr (xc_hat (fun w hw => hg w (List.mem_cons_of_mem _ (List.mem_cons_of_mem _ hw))) hat) hg z1 z2 X.2.2 hsize d0 d3 d4 d6 d9 (fun x hx => (htb x hx).elim) hfr hlo hRc hRs hlk (fun t _ hz hk => xc_at hno hxc X t hz hk) X.2.2.2.2 hc hs
theorem cx_thrSW {Qc : Array Value → State → Outcome → State → Prop} {ok : Prop} {xc cls text : String} {ik is ic mc ms sa : Nat} (hT : cThr E) (hst : l.stackTraces = false) (hq : A = va_A w s.heap.size ∧ Q = vx_MQ below Qc (vx_X (S := Unit) (fun _ => ¬ ok) (fun C _ t => C = xc ∧ dtB D w s.heap.size w t) (va_A w s.heap.size)) args s mc ms (va_A w s.heap.size) ∧ (∀ x ∈ c.exceptionTable.toList, False) ∧ meth.locks = false) (G : cG E p c cc s m args D Z own A) (X : wH D vwCl A s.heap H locs w) (hno : ¬ ok) (hxc : cls = xc) (hcls : Bundle.fit cls = true) (hk : (Cond.classLink own ik cls).before args s = true) (hini : (Cond.initialized cls).before args s = true) (hstr : vk_R own is text sa s) (hat : ∀ w ∈ vx_atS own ic cls ["java/lang/RuntimeException", "java/lang/Exception"], w.before #[] s = true)
    (hgood : (Cond.classLink own ik cls :: Cond.initialized cls :: vx_atS own ic cls ["java/lang/RuntimeException", "java/lang/Exception"]).all vx_ot = true) (hsize : ls.size = c.maxLocals)
    (d0 : decode cc pc = .ok (.new ik, 3)) (d3 : decode cc (pc + 3) = .ok (.dup, 1)) (d4 : decode cc (pc + 4) = .ok (.ldc_w is, 3)) (d6 : decode cc (pc + 7) = .ok (.invokespecial ic, 3)) (d9 : decode cc (pc + 10) = .ok (.athrow, 1))
    (hfr : 5 < R.frames) (hlo : (rest.map fun v => v.category).sum + 82 ≤ R.locals) (hRc : cells + 1 ≤ R.cells) (hRs : slots + 6 ≤ R.slots) (hc : cells + 1 ≤ mc) (hs : slots + 6 ≤ ms) : W p l e R s m args below meth c H locs cells slots Q (F0 m pc ls rest) := by
  obtain ⟨hA, rfl, htb, hlk⟩ := hq
  subst hA
  obtain ⟨z1, z2, -⟩ := hT _ _ _ G.2.2.2.2.2.2.1
  have hg := List.all_eq_true.mp hgood
  exact vx_throwSW G.1 G.2.1 hst (names := ["java/lang/RuntimeException", "java/lang/Exception"]) G.2.2.1 hcls (fun n hn => by rcases List.mem_cons.mp hn with rfl | hn; decide +kernel; rcases List.mem_cons.mp hn with rfl | hn; decide +kernel; cases hn) hk hini hstr (xc_hat (fun w hw => hg w (List.mem_cons_of_mem _ (List.mem_cons_of_mem _ hw))) hat) hg z1 z2 X.2.2 hsize d0 d3 d4 d6 d9 (fun x hx => (htb x hx).elim) hfr hlo hRc hRs hlk (fun t _ hz hk => xc_at hno hxc X t hz hk) X.2.2.2.2 hc hs
theorem cx_thrSX {Qc : Array Value → State → Outcome → State → Prop} {ok : Prop} {xc cls text : String} {ik is ic mc ms sa : Nat} (hT : cThr E) (hst : l.stackTraces = false) (hq : A = va_A w s.heap.size ∧ Q = vx_MQ below Qc (vx_X (S := Unit) (fun _ => ¬ ok) (fun C _ t => C = xc ∧ dtB D w s.heap.size w t) (va_A w s.heap.size)) args s mc ms (va_A w s.heap.size) ∧ (∀ x ∈ c.exceptionTable.toList, False) ∧ meth.locks = false) (G : cG E p c cc s m args D Z own A) (X : wH D vwCl A s.heap H locs w) (hno : ¬ ok) (hxc : cls = xc) (hcls : Bundle.fit cls = true) (hk : (Cond.classLink own ik cls).before args s = true) (hini : (Cond.initialized cls).before args s = true) (hstr : vk_R own is text sa s) (hat : ∀ w ∈ zAtX own ic cls 13 zNX ["java/lang/RuntimeException", "java/lang/Exception"], w.before #[] s = true)
    (hgood : (Cond.classLink own ik cls :: Cond.initialized cls :: zAtX own ic cls 13 zNX ["java/lang/RuntimeException", "java/lang/Exception"]).all vx_ot = true) (hsize : ls.size = c.maxLocals)
    (d0 : decode cc pc = .ok (.new ik, 3)) (d3 : decode cc (pc + 3) = .ok (.dup, 1)) (d4 : decode cc (pc + 4) = .ok (.ldc is, 2)) (d6 : decode cc (pc + 6) = .ok (.invokespecial ic, 3)) (d9 : decode cc (pc + 9) = .ok (.athrow, 1))
    (hfr : 5 < R.frames) (hlo : (rest.map fun v => v.category).sum + 82 ≤ R.locals) (hRc : cells + 1 ≤ R.cells) (hRs : slots + 6 ≤ R.slots) (hc : cells + 1 ≤ mc) (hs : slots + 6 ≤ ms) : W p l e R s m args below meth c H locs cells slots Q (F0 m pc ls rest) := by
  obtain ⟨hA, rfl, htb, hlk⟩ := hq
  subst hA
  obtain ⟨z1, z2, -⟩ := hT _ _ _ G.2.2.2.2.2.2.1
  have hg := List.all_eq_true.mp hgood
  exact zx_throwS G.1 G.2.1 hst (names := ["java/lang/RuntimeException", "java/lang/Exception"]) (ix := 13) (rx := zNX) (by decide +kernel) (by decide +kernel) (by decide +kernel) (by decide +kernel) G.2.2.1 hcls (fun n hn => by rcases List.mem_cons.mp hn with rfl | hn; decide +kernel; rcases List.mem_cons.mp hn with rfl | hn; decide +kernel; cases hn) hk hini hstr (xc_hat (fun w hw => hg w (List.mem_cons_of_mem _ (List.mem_cons_of_mem _ hw))) hat) hg z1 z2 X.2.2 hsize d0 d3 d4 d6 d9 (fun x hx => (htb x hx).elim) hfr hlo hRc hRs hlk (fun t _ hz hk => xc_at hno hxc X t hz hk) X.2.2.2.2 hc hs
end CX2
section CX3
variable {p : Program} {l : Launch} {e : Env} {R : Room} {s : State} {m : MethodId} {args : Array Value} {below : List Frame} {meth : Method} {c : Code} {H : Heap} {locs : List Loc} {cells slots : Nat} {Q : State → Prop}
variable {cc : ByteArray} {pc : Nat} {ls : Array Slot} {rest : List Value} {D : va_G} {A : Nat → Prop} {E : (Nat → Prop) → State → Heap → Prop} {Z : Nat → ClassId} {own : String} {w : va_W}

variable {index n maxL nL : Nat} {y : MethodName} {bytes : ByteArray} {ret : Option FieldType} {ws : List Cond} {rm : Room} {Ts : List Cond} {b : Addr} {As : List Value} {wf : va_W} {Qc : Array Value → State → Outcome → State → Prop} {XC : String → State → State → Prop} {free : Addr → Prop} {C : String}
theorem xun_V (G : cG E p c cc s m args D Z own A) (hml : c.maxLocals = nL) (hts : ∀ w ∈ Ts, w.before args s = true) (hl : ls.size = nL) (hrecv : ∃ cellB : Cell, H[b]? = some cellB ∧ cellB.vm.isStatics = false ∧ s.vm.findClass C = some cellB.cls) (hM : vx_Met l y ws rm (dtPre E D Z (.ref b :: As) w H.size) Qc XC rm.cells rm.slots free) (cw : CallW R s args own C index y bytes maxL ret ws rm rm.cells rm.slots n) (hn : As.length = n) (hrs : (rest.map fun v => v.category).sum ≤ 8) (hdg : decode cc pc = .ok (.invokevirtual index, 3)) (hf : cells + rm.cells ≤ R.cells ∧ slots + rm.slots ≤ R.slots) (X : wH D vwCl A s.heap H locs (w ++ wf)) :
    vx_Run p l e R s m args below meth c H locs cells slots rm.cells rm.slots (F0 m pc ls (As.reverse ++ .ref b :: rest)) rest (Qc (Value.ref b :: As).toArray) XC free := vx_runV (As := As) (rest := rest) ⟨G.1, G.2.1, hml, G.2.2.1, hts⟩ hM cw ⟨dt_blind G.2.2.2.2.2.1, hrecv, dt_pre G X (.ref b :: As)⟩ rfl hn hl rfl (lv_room hrs) hdg hf
theorem xun_U {owner : String} {x : MethodName} (G : cG E p c cc s m args D Z own A) (hml : c.maxLocals = nL) (hts : ∀ w ∈ Ts, w.before args s = true) (hl : ls.size = nL) (hrecv : ∃ cellB : Cell, H[b]? = some cellB ∧ cellB.vm.isStatics = false ∧ s.vm.findClass C = some cellB.cls) (hM : vx_Met l y ws rm (dtPre E D Z (.ref b :: As) w H.size) Qc XC rm.cells rm.slots free) (cw : va_CU R s args own C owner index x y bytes maxL ret ws rm rm.cells rm.slots n) (hn : As.length = n) (hrs : (rest.map fun v => v.category).sum ≤ 8) (hdg : decode cc pc = .ok (.invokevirtual index, 3)) (hf : cells + rm.cells ≤ R.cells ∧ slots + rm.slots ≤ R.slots) (X : wH D vwCl A s.heap H locs (w ++ wf)) :
    vx_Run p l e R s m args below meth c H locs cells slots rm.cells rm.slots (F0 m pc ls (As.reverse ++ .ref b :: rest)) rest (Qc (Value.ref b :: As).toArray) XC free := vx_runU (As := As) (rest := rest) ⟨G.1, G.2.1, hml, G.2.2.1, hts⟩ hM cw ⟨dt_blind G.2.2.2.2.2.1, hrecv, dt_pre G X (.ref b :: As)⟩ rfl hn hl rfl (lv_room hrs) hdg hf
/-- behind a call that may throw: the world is as before -/
theorem dxV_go {W0 : va_W} {ok : Prop} {xc : String} {mc ms : Nat} {st0 : List Value} {a : Array Value} (G : cG E p c cc s m args D Z own A) (X : wH D vwCl A s.heap H locs W0) (hp : W0.Perm (w ++ wf)) (hr : wH D vwCl A s.heap H locs (w ++ wf) → vx_Run p l e R s m args below meth c H locs cells slots mc ms (F0 m pc ls st0) rest (va_Qv (S := Unit) (fun _ => ok) (fun _ t => dtB D w H.size w t) (va_A w H.size) a) (vx_X (S := Unit) (fun _ => ¬ ok) (fun C _ t => C = xc ∧ dtB D w H.size w t) (va_A w H.size)) (va_A w H.size))
    (kx : ∀ (H1 : Heap) (locs1 : List Loc) (ce : Cell) (q : Addr), ¬ ok → wH D vwCl A s.heap H1 locs1 W0 → H1[q]? = some ce → ce.vm = .none → s.vm.findClass xc = some ce.cls → vx_W p l e R s m args below meth c H1 locs1 (cells + mc) (slots + ms) Q (F0 m pc ls rest) q)
    (kk : ∀ (H1 : Heap) (locs1 : List Loc), ok → wH D vwCl A s.heap H1 locs1 W0 → W p l e R s m args below meth c H1 locs1 (cells + mc) (slots + ms) Q (F0 m (pc + 3) ls rest)) : W p l e R s m args below meth c H locs cells slots Q (F0 m pc ls st0) := by
  have X0 := X
  replace X := wh_perm hp X
  have hA := G.2.2.2.2.2.2.2
  have join : ∀ (t : State) (H1 : Heap) (locs1 : List Loc), t.heap = H1 → dtB D w H.size w t → (∀ q : Nat, q < H.size → ¬ (va_A w H.size) q → H1[q]? = H[q]?) → va_S A s.heap H1 locs1 → wH D vwCl A s.heap H1 locs1 W0 := by
    intro t H1 locs1 ht hB hk1 hS1
    obtain ⟨hP1, hD1⟩ := hB
    rw [ht] at hP1
    obtain ⟨hP, hD⟩ := fr_join X.1 X.2.1 hk1 (fr_free X.2.1 X.2.2 hA) hP1 hD1
    exact wh_perm hp.symm ⟨hP, hD, hS1⟩
  refine vx_callv (hr X) X.2.2 (fun q _ h => fr_free X.2.1 X.2.2 hA q h) (fr_free X.2.1 X.2.2 hA) (fun q _ h => fr_free X.2.1 X.2.2 hA q h) (fun C ce q9 u t H1 locs1 ht hvm hno hB hz1 hk1 hS1 hc hv hcl => ?_) (fun u t H1 locs1 ht hvm hw hB hz1 hk1 hS1 => ?_)
  · obtain ⟨rfl, hB⟩ := hB
    exact kx H1 locs1 ce q9 hno (join t H1 locs1 ht hB hk1 hS1) hc hv hcl
  · exact kk H1 locs1 hw (join t H1 locs1 ht hB hk1 hS1)
end CX3
