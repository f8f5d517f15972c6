theorem cg_U {y0 : MethodName} {c0 : ByteArray} {m0 : Nat} {r0 : Option FieldType} {own C owner : String} {idx : Nat} {x y : MethodName} {c : ByteArray} {maxL : Nat} {ret : Option FieldType} (h1 : Cond.code y c maxL ret ∈ cW) (h2 : Cond.methodLink own idx x ∈ cW) (h3 : Cond.sameMethod x.cls owner x.name x.desc ∈ cW) (h4 : Cond.selects C x y ∈ cW) (h5 : Cond.instanceMethod y ∈ cW) (h6 : Cond.initialized y.cls ∈ cW) : GoodIn (Cond.code y0 c0 m0 r0 :: cW) (va_wsU own idx C owner x y (Cond.code y c maxL ret :: cW)) := by
  intro w hw
  have key : ∀ v ∈ cW, v ∈ (Cond.code y0 c0 m0 r0 :: cW) ∧ ((v.onTables && v.keeps) = true ∨ ∃ ty, v = .arrayClass ty) := fun v hv => ⟨List.mem_cons_of_mem _ hv, cW_good v hv⟩
  unfold va_wsU at hw
  rcases List.mem_append.mp hw with hw | hw
  · simp only [List.mem_cons, List.not_mem_nil, or_false] at hw
    rcases hw with rfl | rfl | rfl | rfl | rfl
    · exact key _ h2
    · exact key _ h3
    · exact key _ h4
    · exact key _ h5
    · exact key _ h6
  · rcases List.mem_cons.mp hw with rfl | hw
    · exact key _ h1
    · exact key _ hw
theorem cg_O {y0 : MethodName} {c0 : ByteArray} {m0 : Nat} {r0 : Option FieldType} {own C owner : String} {idx : Nat} {x y : MethodName} {c : ByteArray} {maxL : Nat} {ret : Option FieldType} (h1 : Cond.code y c maxL ret ∈ cW) (h2 : Cond.methodLink own idx x ∈ cW) (h3 : Cond.sameMethod x.cls owner x.name x.desc ∈ cW) (h7 : Cond.instanceMethod ⟨owner, x.name, x.desc⟩ ∈ cW) (h4 : Cond.selects C x y ∈ cW) (h5 : Cond.instanceMethod y ∈ cW) (h6 : Cond.initialized y.cls ∈ cW) : GoodIn (Cond.code y0 c0 m0 r0 :: cW) (va_wsO own idx C owner x y (Cond.code y c maxL ret :: cW)) := by
  intro w hw
  have key : ∀ v ∈ cW, v ∈ (Cond.code y0 c0 m0 r0 :: cW) ∧ ((v.onTables && v.keeps) = true ∨ ∃ ty, v = .arrayClass ty) := fun v hv => ⟨List.mem_cons_of_mem _ hv, cW_good v hv⟩
  unfold va_wsO at hw
  rcases List.mem_append.mp hw with hw | hw
  · simp only [List.mem_cons, List.not_mem_nil, or_false] at hw
    rcases hw with rfl | rfl | rfl | rfl | rfl | rfl
    · exact key _ h2
    · exact key _ h3
    · exact key _ h7
    · exact key _ h4
    · exact key _ h5
    · exact key _ h6
  · rcases List.mem_cons.mp hw with rfl | hw
    · exact key _ h1
    · exact key _ hw
/-- a rule asks as one comes -/
abbrev zwk (k f : Nat) (F : Nat → Nat) : Prop := k = 3 ∨ (k = 4 ∧ F (zbest F 5) * 100 < f * zsum F 5)
/-- a rule's second thoughts -/
abbrev zsec (k : Nat) : Prop := k = 1 ∨ k = 2 ∨ k = 5
def ztw (k f : Nat) : Nat := if k = 5 then f else 4294967295
section CU
variable {p : Program} {l : Launch} {e : Env} {R : Room} {s : State} {m : MethodId} {args : Array Value} {below : List Frame} {meth : Method} {c : Code} {H : Heap} {locs : List Loc} {cells slots : Nat} {Q : State → Prop}
variable {cc : ByteArray} {pc : Nat} {ls : Array Slot} {rest : List Value} {D : va_G} {A : Nat → Prop} {E : (Nat → Prop) → State → Heap → Prop} {Z : Nat → ClassId} {own : String} {ps : List va_W} {idx : Nat}
theorem ru_one {k ru f : Nat} {n : Nat} (h : ciR k = n) : (ruP ru k f)[0]? = some (ru, .inr (n, [.int (nI f)])) := by
  unfold ruP
  rw [h]
  rfl
theorem cf_0 (G : cG E p c cc s m args D Z own A) {k ru f : Nat} (hk : ciR k = 0) (X : wH D vwCl A s.heap H locs (wcat ps)) (i : Nat) (hp : ps[i]? = some (ruP ru k f)) {C' : String} (hlink : (Cond.fieldLink own idx C' "figure" "I").before args s = true) (hsame : ∀ x, s.fieldFound? "AskNext$Rule" "figure" "I" = some x → s.fieldFound? C' "figure" "I" = some x) (hdg : decode cc pc = .ok (.getfield idx, 3)) (kk : W p l e R s m args below meth c H locs cells slots Q (F0 m (pc + 3) ls (.int (nI f) :: rest))) : W p l e R s m args below meth c H locs cells slots Q (F0 m pc ls (.ref ru :: rest)) := va_get (C := RX0) (T := TX0) (N := 1) (ci := 0) G.1 G.2.1 G.2.2.2.1 cbase_0 G.2.2.1 G.2.2.2.2.1 X.1 (wpos ps i + 0) (wcat_at hp (ru_one hk)) rfl 0 (by decide) hlink hsame (v := .int (nI f)) rfl hdg kk
theorem cf_1 (G : cG E p c cc s m args D Z own A) {k ru f : Nat} (hk : ciR k = 1) (X : wH D vwCl A s.heap H locs (wcat ps)) (i : Nat) (hp : ps[i]? = some (ruP ru k f)) {C' : String} (hlink : (Cond.fieldLink own idx C' "figure" "I").before args s = true) (hsame : ∀ x, s.fieldFound? "AskNext$Rule" "figure" "I" = some x → s.fieldFound? C' "figure" "I" = some x) (hdg : decode cc pc = .ok (.getfield idx, 3)) (kk : W p l e R s m args below meth c H locs cells slots Q (F0 m (pc + 3) ls (.int (nI f) :: rest))) : W p l e R s m args below meth c H locs cells slots Q (F0 m pc ls (.ref ru :: rest)) := va_get (C := RX1) (T := TX1) (N := 1) (ci := 1) G.1 G.2.1 G.2.2.2.1 cbase_1 G.2.2.1 G.2.2.2.2.1 X.1 (wpos ps i + 0) (wcat_at hp (ru_one hk)) rfl 0 (by decide) hlink hsame (v := .int (nI f)) rfl hdg kk
theorem cf_3 (G : cG E p c cc s m args D Z own A) {k ru f : Nat} (hk : ciR k = 3) (X : wH D vwCl A s.heap H locs (wcat ps)) (i : Nat) (hp : ps[i]? = some (ruP ru k f)) {C' : String} (hlink : (Cond.fieldLink own idx C' "figure" "I").before args s = true) (hsame : ∀ x, s.fieldFound? "AskNext$Rule" "figure" "I" = some x → s.fieldFound? C' "figure" "I" = some x) (hdg : decode cc pc = .ok (.getfield idx, 3)) (kk : W p l e R s m args below meth c H locs cells slots Q (F0 m (pc + 3) ls (.int (nI f) :: rest))) : W p l e R s m args below meth c H locs cells slots Q (F0 m pc ls (.ref ru :: rest)) := va_get (C := RX3) (T := TX3) (N := 1) (ci := 3) G.1 G.2.1 G.2.2.2.1 cbase_3 G.2.2.1 G.2.2.2.2.1 X.1 (wpos ps i + 0) (wcat_at hp (ru_one hk)) rfl 0 (by decide) hlink hsame (v := .int (nI f)) rfl hdg kk
theorem cf_6 (G : cG E p c cc s m args D Z own A) {k ru f : Nat} (hk : ciR k = 6) (X : wH D vwCl A s.heap H locs (wcat ps)) (i : Nat) (hp : ps[i]? = some (ruP ru k f)) {C' : String} (hlink : (Cond.fieldLink own idx C' "figure" "I").before args s = true) (hsame : ∀ x, s.fieldFound? "AskNext$Rule" "figure" "I" = some x → s.fieldFound? C' "figure" "I" = some x) (hdg : decode cc pc = .ok (.getfield idx, 3)) (kk : W p l e R s m args below meth c H locs cells slots Q (F0 m (pc + 3) ls (.int (nI f) :: rest))) : W p l e R s m args below meth c H locs cells slots Q (F0 m pc ls (.ref ru :: rest)) := va_get (C := RX6) (T := TX6) (N := 1) (ci := 6) G.1 G.2.1 G.2.2.2.1 cbase_6 G.2.2.1 G.2.2.2.2.1 X.1 (wpos ps i + 0) (wcat_at hp (ru_one hk)) rfl 0 (by decide) hlink hsame (v := .int (nI f)) rfl hdg kk
theorem cf_7 (G : cG E p c cc s m args D Z own A) {k ru f : Nat} (hk : ciR k = 7) (X : wH D vwCl A s.heap H locs (wcat ps)) (i : Nat) (hp : ps[i]? = some (ruP ru k f)) {C' : String} (hlink : (Cond.fieldLink own idx C' "figure" "I").before args s = true) (hsame : ∀ x, s.fieldFound? "AskNext$Rule" "figure" "I" = some x → s.fieldFound? C' "figure" "I" = some x) (hdg : decode cc pc = .ok (.getfield idx, 3)) (kk : W p l e R s m args below meth c H locs cells slots Q (F0 m (pc + 3) ls (.int (nI f) :: rest))) : W p l e R s m args below meth c H locs cells slots Q (F0 m pc ls (.ref ru :: rest)) := va_get (C := RX7) (T := TX7) (N := 1) (ci := 7) G.1 G.2.1 G.2.2.2.1 cbase_7 G.2.2.1 G.2.2.2.2.1 X.1 (wpos ps i + 0) (wcat_at hp (ru_one hk)) rfl 0 (by decide) hlink hsame (v := .int (nI f)) rfl hdg kk
theorem cf_9 (G : cG E p c cc s m args D Z own A) {k ru f : Nat} (hk : ciR k = 9) (X : wH D vwCl A s.heap H locs (wcat ps)) (i : Nat) (hp : ps[i]? = some (ruP ru k f)) {C' : String} (hlink : (Cond.fieldLink own idx C' "figure" "I").before args s = true) (hsame : ∀ x, s.fieldFound? "AskNext$Rule" "figure" "I" = some x → s.fieldFound? C' "figure" "I" = some x) (hdg : decode cc pc = .ok (.getfield idx, 3)) (kk : W p l e R s m args below meth c H locs cells slots Q (F0 m (pc + 3) ls (.int (nI f) :: rest))) : W p l e R s m args below meth c H locs cells slots Q (F0 m pc ls (.ref ru :: rest)) := va_get (C := RX9) (T := TX9) (N := 1) (ci := 9) G.1 G.2.1 G.2.2.2.1 cbase_9 G.2.2.1 G.2.2.2.2.1 X.1 (wpos ps i + 0) (wcat_at hp (ru_one hk)) rfl 0 (by decide) hlink hsame (v := .int (nI f)) rfl hdg kk
end CU
