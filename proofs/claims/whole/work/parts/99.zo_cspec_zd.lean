theorem dtW_of {E : (Nat → Prop) → State → Heap → Prop} (hE : cEok E) {S : Type} {l : Launch} {D : va_G} {Z : Nat → ClassId} {y : MethodName} {ws' : List Cond} {fr lo mc ms : Nat} {As : List Value} {w : va_W} {w' : S → va_W} {post : S → Prop} {r : S → Int32} {cc : ByteArray} {maxL : Nat} {hh : List (Nat × Nat × Nat × Nat)} (hy : plainName y.cls = true) (hcw : ∀ w ∈ cW, w ∈ Cond.codeWith y cc maxL (some .int) hh :: ws') (hlen : (lg_sl As).length ≤ maxL)
    (body : ∀ (p : Program) (e : Env) (s : State) (m : MethodId) (args : Array Value) (below : List Frame) (meth : Method) (c : Code) (A : Nat → Prop) (Q : State → Prop) (ls : Array Slot), c.exceptionTable.toList = tableOf hh → p.tables.exec = Jvm.exec → c.code = cc → c.maxLocals = maxL → s.vm.findClass y.cls = some m.cls → (∀ w ∈ Cond.codeWith y cc maxL (some .int) hh :: ws', w.before args s = true) → cG E p c cc s m args D Z y.cls A → wH D vwCl A s.heap s.heap [] w → lv_has ls maxL (lv_args 0 As) →
      (∀ (pc : Nat) (H : Heap) (locs : List Loc) (ls : Array Slot) (u : S), post u → wH D vwCl A s.heap H locs (w' u) → decode cc pc = .ok (.ireturn, 1) → W p l e { frames := fr, cells := mc, slots := ms, locals := lo } s m args below meth c H locs mc ms Q (F0 m pc ls [.int (r u)])) →
      W p l e { frames := fr, cells := mc, slots := ms, locals := lo } s m args below meth c s.heap [] 0 0 Q (F0 m 0 ls [])) :
    dtI E l D Z y (Cond.codeWith y cc maxL (some .int) hh :: ws') { frames := fr, cells := mc, slots := ms, locals := lo } As w w' r post := by
  intro sz
  refine va_MetW (cc := cc) (maxL := maxL) (ret := some .int) (hh := hh) hy rfl ?_
  intro p e s m args below meth c s₁ B hml hv
  obtain ⟨rfl, hsz, hP, hK, hD0, hEs⟩ := hv
  have hx := B.exec
  have hb := B.bytes
  have hr := B.returns
  have hts := atoms_spec (ws := Cond.codeWith y cc maxL (some .int) hh :: ws') B.pre
  have hown : s.vm.findClass y.cls = some m.cls := findClass_of_methodNamed B.named
  have hlocks := B.notSynchronized
  subst hsz
  have hD := hD0.self (sz := s.heap.size)
  have hl := lv_entry As (n := maxL) hlen
  rw [lg_entry_eq]
  refine body p e s m _ below meth c (va_A w s.heap.size) _ _ (vx_table (x := y) B (hts _ List.mem_cons_self)) hx hb hml hown hts ⟨hx, hb, hown, fun w h => hts w (hcw w h), hK, hE, hEs, fun q h => Or.inr h⟩ ⟨hP, hD, va_S.rf⟩ hl ?_
  intro pc H locs ls u hu X2 hdg
  exact W.iret hx hb hr (fun t ht hW => ⟨⟨r u, u, rfl, ⟨rfl, hu⟩, by rw [ht]; exact X2.1, X2.2.1⟩, X2.2.2.F ht⟩) X2.2.2.2.2 hdg
theorem ztoss_l {ρ : MS} {xd : Int32} (hs : zSh ρ) (h : ¬ (zir xd 8 ∧ ρ.2 41 xd.toInt.toNat = 1)) : shL (ρ.2 41) xd = ztossS ρ xd := by
  have q := zsh_l hs h
  unfold ztossS
  rw [if_pos q.2]
  exact q.1
theorem ztoss_v {ρ : MS} {j : Nat} (hj : j < 8) (h : ρ.2 41 j = 1) : ztossS ρ (nI j) = if ρ.2 42 j = 5 ∨ ρ.2 43 j = 0 then -15 else if ρ.2 42 j = 2 then nI (100 + ρ.2 43 j) else if ρ.2 42 j = 4 then nI (200 + zweigh (ρ.2 42 j) (ρ.2 43 j)) else nI (ρ.2 43 j) := by
  unfold ztossS
  rw [zshK_j hj h, if_neg z0_lt, nI_N (by omega)]
theorem ztoss_0 {ρ : MS} {j : Nat} (hj : j < 8) (h : ρ.2 41 j = 1) (q : zfok (ρ.2 42 j) (ρ.2 43 j)) : (-15 : Int32) = ztossS ρ (nI j) := by rw [ztoss_v hj h, if_pos q]
theorem ztoss_2 {ρ : MS} {j : Nat} (hj : j < 8) (h : ρ.2 41 j = 1) (q : ¬ zfok (ρ.2 42 j) (ρ.2 43 j)) (e : ρ.2 42 j = 2) : nI (ρ.2 43 j + 100) = ztossS ρ (nI j) := by rw [ztoss_v hj h, if_neg q, if_pos e, Nat.add_comm]
theorem ztoss_4 {ρ : MS} {j : Nat} (hj : j < 8) (h : ρ.2 41 j = 1) (q : ¬ zfok (ρ.2 42 j) (ρ.2 43 j)) (e2 : ¬ ρ.2 42 j = 2) (e : ρ.2 42 j = 4) : nI (zweigh (ρ.2 42 j) (ρ.2 43 j) + 200) = ztossS ρ (nI j) := by rw [ztoss_v hj h, if_neg q, if_neg e2, if_pos e, Nat.add_comm]
theorem ztoss_o {ρ : MS} {j : Nat} (hj : j < 8) (h : ρ.2 41 j = 1) (q : ¬ zfok (ρ.2 42 j) (ρ.2 43 j)) (e2 : ¬ ρ.2 42 j = 2) (e : ¬ ρ.2 42 j = 4) : nI (ρ.2 43 j) = ztossS ρ (nI j) := by rw [ztoss_v hj h, if_neg q, if_neg e2, if_neg e]
theorem zxn_2 {k : Nat} (h : k = 2) : zxn k = "java/lang/UnsupportedOperationException" := if_pos h
theorem zxn_4 {k : Nat} (h2 : ¬ k = 2) (h : k = 4) : zxn k = "java/util/NoSuchElementException" := by unfold zxn; rw [if_neg h2, if_pos h]
theorem zxn_o {k : Nat} (h2 : ¬ k = 2) (h : ¬ k = 4) : zxn k = "java/lang/IllegalStateException" := by unfold zxn; rw [if_neg h2, if_neg h]
