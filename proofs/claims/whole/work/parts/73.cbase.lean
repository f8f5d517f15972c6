/-! PIECES: a world in pieces, side by side -/
def wcat : List va_W → va_W | [] => [] | p :: r => p ++ wcat r
def wpos : List va_W → Nat → Nat | [], _ => 0 | _ :: _, 0 => 0 | p :: r, i + 1 => p.length + wpos r i
theorem wcat_at : ∀ {ps : List va_W} {i k : Nat} {p : va_W} {x : Nat × va_E}, ps[i]? = some p → p[k]? = some x → (wcat ps)[wpos ps i + k]? = some x
  | [], _, _, _, _, h, _ => by simp at h
  | p0 :: r, 0, k, p, x, h, h2 => by
    have e : p0 = p := by simpa using h
    subst e
    show (p0 ++ wcat r)[0 + k]? = some x
    rw [Nat.zero_add, List.getElem?_append_left (List.getElem?_eq_some_iff.mp h2).1]
    exact h2
  | p0 :: r, i + 1, k, p, x, h, h2 => by
    show (p0 ++ wcat r)[p0.length + wpos r i + k]? = some x
    rw [List.getElem?_append_right (by omega), show p0.length + wpos r i + k - p0.length = wpos r i + k by omega]
    exact wcat_at (by simpa using h) h2
theorem wcat_set : ∀ {ps : List va_W} {i k : Nat} {p : va_W} {x y : Nat × va_E}, ps[i]? = some p → p[k]? = some x → (wcat ps).set (wpos ps i + k) y = wcat (ps.set i (p.set k y))
  | [], _, _, _, _, _, h, _ => by simp at h
  | p0 :: r, 0, k, p, x, y, h, h2 => by
    have e : p0 = p := by simpa using h
    subst e
    show (p0 ++ wcat r).set (0 + k) y = p0.set k y ++ wcat r
    rw [Nat.zero_add, List.set_append_left _ _ (List.getElem?_eq_some_iff.mp h2).1]
  | p0 :: r, i + 1, k, p, x, y, h, h2 => by
    show (p0 ++ wcat r).set (p0.length + wpos r i + k) y = p0 ++ wcat (r.set i (p.set k y))
    rw [List.set_append_right _ _ (by omega), show p0.length + wpos r i + k - p0.length = wpos r i + k by omega, wcat_set (by simpa using h) h2]
theorem wcat_app : ∀ (ps qs : List va_W), wcat (ps ++ qs) = wcat ps ++ wcat qs
  | [], qs => rfl
  | p :: r, qs => by
    show p ++ wcat (r ++ qs) = (p ++ wcat r) ++ wcat qs
    rw [wcat_app r qs, List.append_assoc]
theorem wcat_perm {ps qs : List va_W} (h : ps.Perm qs) : (wcat ps).Perm (wcat qs) := by
  induction h with
  | nil => exact List.Perm.refl _
  | cons x _ ih => exact List.Perm.append_left x ih
  | swap x y l => exact List.perm_append_comm_assoc _ _ _
  | trans _ _ h1 h2 => exact h1.trans h2
theorem ix_perm {ps : List va_W} {ix : List Nat} (h : ix.isPerm (List.range ps.length) = true) : (ix.map fun i => ps.getD i []).Perm ps := by
  refine ((List.isPerm_iff.mp h).map (fun i => ps.getD i [])).trans ?_
  have e : (List.range ps.length).map (fun i => ps.getD i []) = ps := by
    apply List.ext_getElem?
    intro d
    rw [List.getElem?_map]
    by_cases hd : d < ps.length
    · rw [List.getElem?_range hd, List.getElem?_eq_getElem hd]
      simp [List.getD, List.getElem?_eq_getElem hd]
    · rw [List.getElem?_eq_none (by simp; omega), List.getElem?_eq_none (by omega)]
      rfl
  rw [e]
/-- pieces qs out of ps, by places; the rest behind them -/
theorem wsel {ps qs rest : List va_W} (ix : List Nat) (h : ix.isPerm (List.range ps.length) = true) (e : ix.map (fun i => ps.getD i []) = qs ++ rest) : (wcat ps).Perm (wcat qs ++ wcat rest) := by
  rw [← wcat_app, ← e]
  exact (wcat_perm (ix_perm h)).symm
theorem wback {ps qs rest : List va_W} (ix : List Nat) (h : ix.isPerm (List.range ps.length) = true) (e : ix.map (fun i => ps.getD i []) = qs ++ rest) : (wcat qs ++ wcat rest).Perm (wcat ps) := (wsel ix h e).symm
theorem vd_pw {w : va_W} : (∀ (i j : Nat) (p q : Nat × va_E), w[i]? = some p → w[j]? = some q → p.1 = q.1 → i = j) ↔ w.Pairwise (fun p q => p.1 ≠ q.1) := by
  rw [List.pairwise_iff_getElem]
  constructor
  · intro h i j hi hj hij e
    have := h i j _ _ (List.getElem?_eq_getElem hi) (List.getElem?_eq_getElem hj) e
    omega
  · intro h i j p q hi hj e
    obtain ⟨li, ei⟩ := List.getElem?_eq_some_iff.mp hi
    obtain ⟨lj, ej⟩ := List.getElem?_eq_some_iff.mp hj
    rcases Nat.lt_trichotomy i j with g | g | g
    · exact absurd (by rw [ei, ej]; exact e) (h i j li lj g)
    · exact g
    · exact absurd (by rw [ei, ej]; exact e.symm) (h j i lj li g)
theorem vd_perm {A : Nat → Prop} {w w' : va_W} (h : w.Perm w') (hD : va_D A w) : va_D A w' := ⟨vd_pw.mpr ((h.pairwise_iff (fun {x y} (e : x.1 ≠ y.1) => e.symm)).mp (vd_pw.mp hD.1)), vd_mem.mpr fun q hq => vd_mem.mp hD.2 q (h.mem_iff.mpr hq)⟩
theorem vp_perm {D : va_G} {cl : List vw_C} {w w' : va_W} {H : Heap} (h : w.Perm w') (hP : va_P D cl w H) : va_P D cl w' H := va_mem.mpr fun q hq => va_mem.mp hP q (h.mem_iff.mpr hq)
theorem wh_perm {D : va_G} {cl : List vw_C} {A : Nat → Prop} {H0 H : Heap} {locs : List Loc} {w w' : va_W} (h : w.Perm w') (X : wH D cl A H0 H locs w) : wH D cl A H0 H locs w' := ⟨vp_perm h X.1, vd_perm h X.2.1, X.2.2⟩
theorem va_A_perm {w w' : va_W} (h : w.Perm w') {sz q : Nat} (hq : va_A w sz q) : va_A w' sz q := by
  rcases hq with ⟨k, e, hk⟩ | hq
  · obtain ⟨k2, h2⟩ := List.getElem?_of_mem (h.mem_iff.mp (List.mem_of_getElem? hk))
    exact Or.inl ⟨k2, e, h2⟩
  · exact Or.inr hq
/-! THE ENVIRONMENT: what the tables say of members of nest mates, and whatever else the class's methods take as given -/
def cNest (U : State) : Prop := va_Nw (.methodLinkNest RX2 79 yX11_isCrossing RX11) U ∧ va_Nw (.methodLinkNest RX2 84 yX11_isFigure RX11) U ∧ va_Nw (.methodLinkNest RX10 11 yX2_init RX11) U ∧ va_Nw (.methodLinkNest RX10 20 yX8_init RX11) U ∧ va_Nw (.methodLinkNest RX11 25 yX2_init RX11) U ∧ va_Nw (.methodLinkNest RX11 34 yX8_init RX11) U ∧ va_Nw (.methodLinkNest RX11 47 yX4_init RX11) U ∧ va_Nw (.methodLinkNest RX11 9 yX10_init RX11) U
/-- an environment stays through calls, writes of a method's own cells, and for fewer cells -/
def cEok (E : (Nat → Prop) → State → Heap → Prop) : Prop := (∀ (A : Nat → Prop) (u U : State) (H : Heap), u.WarmedH U.vm → E A u H → E A U H) ∧ (∀ (A : Nat → Prop) (u U : State) (H : Heap), U.vm = u.vm → E A u H → E A U H) ∧ (∀ (A : Nat → Prop) (U : State) (H H1 : Heap), E A U H → (∀ a : Nat, a < H.size → ¬ A a → H1[a]? = H[a]?) → E A U H1) ∧ (∀ (A B : Nat → Prop) (U : State) (H : Heap), E A U H → (∀ q, B q → A q) → E B U H) ∧ (∀ (A : Nat → Prop) (U : State) (H : Heap), E A U H → cNest U)
/-- the classes of the arrays: of ints, of longs, of int arrays, of rules, of rows -/
def cT (Z : Nat → ClassId) : List (ClassId × FieldType) := [(Z 0, .int), (Z 1, .long), (Z 2, .array .int), (Z 3, .object "AskNext$Rule"), (Z 4, .object "AskNext$Row")]
def dtPre (E : (Nat → Prop) → State → Heap → Prop) (D : va_G) (Z : Nat → ClassId) (As : List Value) (w : va_W) (sz : Nat) : Array Value → State → Prop := va_Pc As (fun U => U.heap.size = sz ∧ va_P D vwCl w U.heap ∧ va_K D vwCl (cT Z) U ∧ va_D (fun _ => True) w ∧ E (va_A w sz) U U.heap)
def dtB (D : va_G) (w : va_W) (sz : Nat) (w' : va_W) (t : State) : Prop := va_P D vwCl w' t.heap ∧ va_D (va_A w sz) w'

def dtI (E : (Nat → Prop) → State → Heap → Prop) (l : Launch) (D : va_G) (Z : Nat → ClassId) (y : MethodName) (ws : List Cond) (rm : Room) (As : List Value) (w : va_W) {S : Type} (w' : S → va_W) (r : S → Int32) (post : S → Prop) : Prop := ∀ sz : Nat, Met l y ws rm (dtPre E D Z As w sz) (va_Qi (fun x u => x = r u ∧ post u) (fun u t => dtB D w sz (w' u) t) (va_A w sz)) rm.cells rm.slots (va_A w sz)
def dtL (E : (Nat → Prop) → State → Heap → Prop) (l : Launch) (D : va_G) (Z : Nat → ClassId) (y : MethodName) (ws : List Cond) (rm : Room) (As : List Value) (w : va_W) {S : Type} (w' : S → va_W) (r : S → Int64) (post : S → Prop) : Prop := ∀ sz : Nat, Met l y ws rm (dtPre E D Z As w sz) (va_Ql (fun x u => x = r u ∧ post u) (fun u t => dtB D w sz (w' u) t) (va_A w sz)) rm.cells rm.slots (va_A w sz)
def dtV (E : (Nat → Prop) → State → Heap → Prop) (l : Launch) (D : va_G) (Z : Nat → ClassId) (y : MethodName) (ws : List Cond) (rm : Room) (As : List Value) (w : va_W) {S : Type} (w' : S → va_W) (post : S → Prop) : Prop := ∀ sz : Nat, Met l y ws rm (dtPre E D Z As w sz) (va_Qv post (fun u t => dtB D w sz (w' u) t) (va_A w sz)) rm.cells rm.slots (va_A w sz)
def dtQ (E : (Nat → Prop) → State → Heap → Prop) (l : Launch) (D : va_G) (Z : Nat → ClassId) (y : MethodName) (ws : List Cond) (rm : Room) (As : List Value) (w : va_W) {S : Type} (w' : S → va_W) (r : S → Option Nat) (post : S → Prop) : Prop := ∀ sz : Nat, Met l y ws rm (dtPre E D Z As w sz) (va_Qq (fun x u => x = r u ∧ post u) (fun u t => dtB D w sz (w' u) t) (va_A w sz)) rm.cells rm.slots (va_A w sz)
theorem dt_blind {E : (Nat → Prop) → State → Heap → Prop} (hE : cEok E) {D : va_G} {Z : Nat → ClassId} {As : List Value} {w : va_W} {sz : Nat} : FrameBlind (dtPre E D Z As w sz) := fun a U g mk q => by
  obtain ⟨q0, q1, qP, qK, qD, qE⟩ := q
  exact ⟨q0, q1, qP, va_K.moved (u := U) (U := U.calling g mk a) (Vm.Alike.refl U.vm) qK, qD, hE.2.1 _ U (U.calling g mk a) _ rfl qE⟩
/-- what stays, all along a method of the class -/
def cG (E : (Nat → Prop) → State → Heap → Prop) (p : Program) (c : Code) (cc : ByteArray) (s : State) (m : MethodId) (args : Array Value) (D : va_G) (Z : Nat → ClassId) (own : String) (A : Nat → Prop) : Prop := p.tables.exec = Jvm.exec ∧ c.code = cc ∧ s.vm.findClass own = some m.cls ∧ (∀ w ∈ cW, w.before args s = true) ∧ va_K D vwCl (cT Z) s ∧ cEok E ∧ E A s s.heap ∧ ∀ q : Nat, s.heap.size ≤ q → A q
section CB
variable {p : Program} {l : Launch} {e : Env} {R : Room} {s : State} {m : MethodId} {args : Array Value} {below : List Frame} {meth : Method} {c : Code} {H : Heap} {locs : List Loc} {cells slots : Nat} {Q : State → Prop}
variable {cc : ByteArray} {pc : Nat} {ls : Array Slot} {rest : List Value} {D : va_G} {A : Nat → Prop} {E : (Nat → Prop) → State → Heap → Prop} {Z : Nat → ClassId} {own : String}

theorem dt_pre (G : cG E p c cc s m args D Z own A) {w wf : va_W} (X : wH D vwCl A s.heap H locs (w ++ wf)) (As : List Value) : ∀ U : State, U.heap = H → s.WarmedH U.vm → dtPre E D Z As w H.size As.toArray U := fun U hU hW => by
  obtain ⟨-, -, -, -, hK, hE, hEs, hA⟩ := G
  refine ⟨rfl, by rw [hU], by rw [hU]; exact fr_left X.1, va_K.moved hW.alike hK, (fr_dl X.2.1).weaken (fun _ _ _ _ => trivial), ?_⟩
  refine hE.2.2.2.1 A _ _ _ ?_ (fr_free X.2.1 X.2.2 hA)
  rw [hU]
  exact hE.1 A s U _ hW (hE.2.2.1 A s _ _ hEs X.2.2.2.1)
theorem dtI_go {S : Type} {w wf W0 : va_W} {w' W1 : S → va_W} {r : S → Int32} {post : S → Prop} {mc ms : Nat} {st0 : List Value} {a : Array Value} (G : cG E p c cc s m args D Z own A) (X : wH D vwCl A s.heap H locs W0) (hp : W0.Perm (w ++ wf)) (hr : wH D vwCl A s.heap H locs (w ++ wf) → va_Run p l e R s m args below meth c H locs cells slots mc ms (F0 m pc ls st0) rest (va_Qi (fun x u => x = r u ∧ post u) (fun u t => dtB D w H.size (w' u) t) (va_A w H.size) a) (va_A w H.size)) (hq : ∀ u, (w' u ++ wf).Perm (W1 u))
    (kk : ∀ (H1 : Heap) (locs1 : List Loc) (u : S), post u → wH D vwCl A s.heap H1 locs1 (W1 u) → W p l e R s m args below meth c H1 locs1 (cells + mc) (slots + ms) Q (F0 m (pc + 3) ls (.int (r u) :: rest))) : W p l e R s m args below meth c H locs cells slots Q (F0 m pc ls st0) := by
  replace X := wh_perm hp X
  have hA := G.2.2.2.2.2.2.2
  refine va_calli (hr X) X.2.2 (fun q _ h => fr_free X.2.1 X.2.2 hA q h) (fr_free X.2.1 X.2.2 hA) (fun r0 u t H1 locs1 ht hvm hw hB hz1 hk1 hS1 => ?_)
  · obtain ⟨hP1, hD1⟩ := hB
    rw [ht] at hP1
    obtain ⟨rfl, hw⟩ := hw
    obtain ⟨hP, hD⟩ := fr_join X.1 X.2.1 hk1 (fr_free X.2.1 X.2.2 hA) hP1 hD1
    exact kk H1 locs1 u hw (wh_perm (hq u) ⟨hP, hD, hS1⟩)
theorem dtL_go {S : Type} {w wf W0 : va_W} {w' W1 : S → va_W} {r : S → Int64} {post : S → Prop} {mc ms : Nat} {st0 : List Value} {a : Array Value} (G : cG E p c cc s m args D Z own A) (X : wH D vwCl A s.heap H locs W0) (hp : W0.Perm (w ++ wf)) (hr : wH D vwCl A s.heap H locs (w ++ wf) → va_Run p l e R s m args below meth c H locs cells slots mc ms (F0 m pc ls st0) rest (va_Ql (fun x u => x = r u ∧ post u) (fun u t => dtB D w H.size (w' u) t) (va_A w H.size) a) (va_A w H.size)) (hq : ∀ u, (w' u ++ wf).Perm (W1 u))
    (kk : ∀ (H1 : Heap) (locs1 : List Loc) (u : S), post u → wH D vwCl A s.heap H1 locs1 (W1 u) → W p l e R s m args below meth c H1 locs1 (cells + mc) (slots + ms) Q (F0 m (pc + 3) ls (.long (r u) :: rest))) : W p l e R s m args below meth c H locs cells slots Q (F0 m pc ls st0) := by
  replace X := wh_perm hp X
  have hA := G.2.2.2.2.2.2.2
  refine va_calll (hr X) X.2.2 (fun q _ h => fr_free X.2.1 X.2.2 hA q h) (fr_free X.2.1 X.2.2 hA) (fun r0 u t H1 locs1 ht hvm hw hB hz1 hk1 hS1 => ?_)
  · obtain ⟨hP1, hD1⟩ := hB
    rw [ht] at hP1
    obtain ⟨rfl, hw⟩ := hw
    obtain ⟨hP, hD⟩ := fr_join X.1 X.2.1 hk1 (fr_free X.2.1 X.2.2 hA) hP1 hD1
    exact kk H1 locs1 u hw (wh_perm (hq u) ⟨hP, hD, hS1⟩)
theorem dtV_go {S : Type} {w wf W0 : va_W} {w' W1 : S → va_W} {post : S → Prop} {mc ms : Nat} {st0 : List Value} {a : Array Value} (G : cG E p c cc s m args D Z own A) (X : wH D vwCl A s.heap H locs W0) (hp : W0.Perm (w ++ wf)) (hr : wH D vwCl A s.heap H locs (w ++ wf) → va_Run p l e R s m args below meth c H locs cells slots mc ms (F0 m pc ls st0) rest (va_Qv post (fun u t => dtB D w H.size (w' u) t) (va_A w H.size) a) (va_A w H.size)) (hq : ∀ u, (w' u ++ wf).Perm (W1 u))
    (kk : ∀ (H1 : Heap) (locs1 : List Loc) (u : S), post u → wH D vwCl A s.heap H1 locs1 (W1 u) → W p l e R s m args below meth c H1 locs1 (cells + mc) (slots + ms) Q (F0 m (pc + 3) ls rest)) : W p l e R s m args below meth c H locs cells slots Q (F0 m pc ls st0) := by
  replace X := wh_perm hp X
  have hA := G.2.2.2.2.2.2.2
  refine va_callv (hr X) X.2.2 (fun q _ h => fr_free X.2.1 X.2.2 hA q h) (fr_free X.2.1 X.2.2 hA) (fun u t H1 locs1 ht hvm hw hB hz1 hk1 hS1 => ?_)
  · obtain ⟨hP1, hD1⟩ := hB
    rw [ht] at hP1
    obtain ⟨hP, hD⟩ := fr_join X.1 X.2.1 hk1 (fr_free X.2.1 X.2.2 hA) hP1 hD1
    exact kk H1 locs1 u hw (wh_perm (hq u) ⟨hP, hD, hS1⟩)
theorem dtQ_go {S : Type} {w wf W0 : va_W} {w' W1 : S → va_W} {r : S → Option Nat} {post : S → Prop} {mc ms : Nat} {st0 : List Value} {a : Array Value} (G : cG E p c cc s m args D Z own A) (X : wH D vwCl A s.heap H locs W0) (hp : W0.Perm (w ++ wf)) (hr : wH D vwCl A s.heap H locs (w ++ wf) → va_Run p l e R s m args below meth c H locs cells slots mc ms (F0 m pc ls st0) rest (va_Qq (fun x u => x = r u ∧ post u) (fun u t => dtB D w H.size (w' u) t) (va_A w H.size) a) (va_A w H.size)) (hq : ∀ u, (w' u ++ wf).Perm (W1 u))
    (kk : ∀ (H1 : Heap) (locs1 : List Loc) (u : S), post u → wH D vwCl A s.heap H1 locs1 (W1 u) → W p l e R s m args below meth c H1 locs1 (cells + mc) (slots + ms) Q (F0 m (pc + 3) ls (va_rf (r u) :: rest))) : W p l e R s m args below meth c H locs cells slots Q (F0 m pc ls st0) := by
  replace X := wh_perm hp X
  have hA := G.2.2.2.2.2.2.2
  refine va_callq (hr X) X.2.2 (fun q _ h => fr_free X.2.1 X.2.2 hA q h) (fr_free X.2.1 X.2.2 hA) (fun r0 u t H1 locs1 ht hvm hw hB hz1 hk1 hS1 => ?_)
  · obtain ⟨hP1, hD1⟩ := hB
    rw [ht] at hP1
    obtain ⟨rfl, hw⟩ := hw
    obtain ⟨hP, hD⟩ := fr_join X.1 X.2.1 hk1 (fr_free X.2.1 X.2.2 hA) hP1 hD1
    exact kk H1 locs1 u hw (wh_perm (hq u) ⟨hP, hD, hS1⟩)
variable {index n maxL nL : Nat} {y : MethodName} {bytes : ByteArray} {ret : Option FieldType} {ws : List Cond} {rm : Room} {Ts : List Cond} {b : Addr} {As : List Value} {w wf : va_W} {Qc : Array Value → State → Outcome → State → Prop} {free : Addr → Prop} {C : String}
theorem run_V (G : cG E p c cc s m args D Z own A) (hml : c.maxLocals = nL) (hts : ∀ w ∈ Ts, w.before args s = true) (hl : ls.size = nL) (hrecv : ∃ cellB : Cell, H[b]? = some cellB ∧ cellB.vm.isStatics = false ∧ s.vm.findClass C = some cellB.cls) (hM : Met l y ws rm (dtPre E D Z (.ref b :: As) w H.size) Qc rm.cells rm.slots free) (cw : CallW R s args own C index y bytes maxL ret ws rm rm.cells rm.slots n) (hn : As.length = n) (hrs : (rest.map fun v => v.category).sum ≤ 8) (hdg : decode cc pc = .ok (.invokevirtual index, 3)) (hf : cells + rm.cells ≤ R.cells ∧ slots + rm.slots ≤ R.slots) (X : wH D vwCl A s.heap H locs (w ++ wf)) :
    va_Run p l e R s m args below meth c H locs cells slots rm.cells rm.slots (F0 m pc ls (As.reverse ++ .ref b :: rest)) rest (Qc (Value.ref b :: As).toArray) free := va_runV (As := As) (rest := rest) ⟨G.1, G.2.1, hml, G.2.2.1, hts⟩ hM cw ⟨dt_blind G.2.2.2.2.2.1, hrecv, dt_pre G X (.ref b :: As)⟩ rfl hn hl rfl (lv_room hrs) hdg hf
theorem run_S (G : cG E p c cc s m args D Z own A) (hml : c.maxLocals = nL) (hts : ∀ w ∈ Ts, w.before args s = true) (hl : ls.size = nL) (hM : Met l y ws rm (dtPre E D Z As w H.size) Qc rm.cells rm.slots free) (cw : CallB R s args own index y bytes maxL ret ws rm rm.cells rm.slots n ∧ (Cond.static y).before args s = true) (hn : As.length = n) (hrs : (rest.map fun v => v.category).sum ≤ 8) (hdg : decode cc pc = .ok (.invokestatic index, 3)) (hf : cells + rm.cells ≤ R.cells ∧ slots + rm.slots ≤ R.slots) (X : wH D vwCl A s.heap H locs (w ++ wf)) :
    va_Run p l e R s m args below meth c H locs cells slots rm.cells rm.slots (F0 m pc ls (As.reverse ++ rest)) rest (Qc As.toArray) free := va_runS (As := As) (rest := rest) ⟨G.1, G.2.1, hml, G.2.2.1, hts⟩ hM cw ⟨dt_blind G.2.2.2.2.2.1, dt_pre G X As⟩ rfl hn hl rfl (lv_room hrs) hdg hf
theorem run_I (G : cG E p c cc s m args D Z own A) (hml : c.maxLocals = nL) (hts : ∀ w ∈ Ts, w.before args s = true) (hl : ls.size = nL) (hM : Met l y ws rm (dtPre E D Z (.ref b :: As) w H.size) Qc rm.cells rm.slots free) (cw : CallB R s args own index y bytes maxL none ws rm rm.cells rm.slots n ∧ y.name = "<init>" ∧ (Cond.instanceMethod y).before args s = true) (hn : As.length = n) (hrs : (rest.map fun v => v.category).sum ≤ 8) (hdg : decode cc pc = .ok (.invokespecial index, 3)) (hf : cells + rm.cells ≤ R.cells ∧ slots + rm.slots ≤ R.slots) (X : wH D vwCl A s.heap H locs (w ++ wf)) :
    va_Run p l e R s m args below meth c H locs cells slots rm.cells rm.slots (F0 m pc ls (As.reverse ++ .ref b :: rest)) rest (Qc (Value.ref b :: As).toArray) free := va_runI (As := As) (rest := rest) ⟨G.1, G.2.1, hml, G.2.2.1, hts⟩ hM cw ⟨dt_blind G.2.2.2.2.2.1, dt_pre G X (.ref b :: As)⟩ rfl hn hl rfl (lv_room hrs) hdg hf
theorem run_SN {host : String} (G : cG E p c cc s m args D Z own A) (hml : c.maxLocals = nL) (hts : ∀ w ∈ Ts, w.before args s = true) (hl : ls.size = nL) (hM : Met l y ws rm (dtPre E D Z As w H.size) Qc rm.cells rm.slots free) (cw : va_CN R s args own index y host bytes maxL ret ws rm rm.cells rm.slots n ∧ (Cond.static y).before args s = true ∧ True) (hn : As.length = n) (hrs : (rest.map fun v => v.category).sum ≤ 8) (hdg : decode cc pc = .ok (.invokestatic index, 3)) (hf : cells + rm.cells ≤ R.cells ∧ slots + rm.slots ≤ R.slots) (X : wH D vwCl A s.heap H locs (w ++ wf)) :
    va_Run p l e R s m args below meth c H locs cells slots rm.cells rm.slots (F0 m pc ls (As.reverse ++ rest)) rest (Qc As.toArray) free := va_runSN (As := As) (rest := rest) ⟨G.1, G.2.1, hml, G.2.2.1, hts⟩ hM cw ⟨dt_blind G.2.2.2.2.2.1, dt_pre G X As⟩ rfl hn hl rfl (lv_room hrs) hdg hf
theorem run_IN {host : String} (G : cG E p c cc s m args D Z own A) (hml : c.maxLocals = nL) (hts : ∀ w ∈ Ts, w.before args s = true) (hl : ls.size = nL) (hM : Met l y ws rm (dtPre E D Z (.ref b :: As) w H.size) Qc rm.cells rm.slots free) (cw : va_CN R s args own index y host bytes maxL none ws rm rm.cells rm.slots n ∧ y.name = "<init>" ∧ (Cond.instanceMethod y).before args s = true) (hn : As.length = n) (hrs : (rest.map fun v => v.category).sum ≤ 8) (hdg : decode cc pc = .ok (.invokespecial index, 3)) (hf : cells + rm.cells ≤ R.cells ∧ slots + rm.slots ≤ R.slots) (X : wH D vwCl A s.heap H locs (w ++ wf)) :
    va_Run p l e R s m args below meth c H locs cells slots rm.cells rm.slots (F0 m pc ls (As.reverse ++ .ref b :: rest)) rest (Qc (Value.ref b :: As).toArray) free := va_runIN (As := As) (rest := rest) ⟨G.1, G.2.1, hml, G.2.2.1, hts⟩ hM cw ⟨dt_blind G.2.2.2.2.2.1, dt_pre G X (.ref b :: As)⟩ rfl hn hl rfl (lv_room hrs) hdg hf
theorem run_U {owner : String} {x : MethodName} (G : cG E p c cc s m args D Z own A) (hml : c.maxLocals = nL) (hts : ∀ w ∈ Ts, w.before args s = true) (hl : ls.size = nL) (hrecv : ∃ cellB : Cell, H[b]? = some cellB ∧ cellB.vm.isStatics = false ∧ s.vm.findClass C = some cellB.cls) (hM : Met l y ws rm (dtPre E D Z (.ref b :: As) w H.size) Qc rm.cells rm.slots free) (cw : va_CU R s args own C owner index x y bytes maxL ret ws rm rm.cells rm.slots n) (hn : As.length = n) (hrs : (rest.map fun v => v.category).sum ≤ 8) (hdg : decode cc pc = .ok (.invokevirtual index, 3)) (hf : cells + rm.cells ≤ R.cells ∧ slots + rm.slots ≤ R.slots) (X : wH D vwCl A s.heap H locs (w ++ wf)) :
    va_Run p l e R s m args below meth c H locs cells slots rm.cells rm.slots (F0 m pc ls (As.reverse ++ .ref b :: rest)) rest (Qc (Value.ref b :: As).toArray) free := va_runU (As := As) (rest := rest) ⟨G.1, G.2.1, hml, G.2.2.1, hts⟩ hM cw ⟨dt_blind G.2.2.2.2.2.1, hrecv, dt_pre G X (.ref b :: As)⟩ rfl hn hl rfl (lv_room hrs) hdg hf
/-- a piece's own object receives a call -/
theorem p_recv (G : cG E p c cc s m args D Z own A) {ps : List va_W} (X : wH D vwCl A s.heap H locs (wcat ps)) (i k : Nat) {piece : va_W} {ci : Nat} {fs : List Value} {r : vw_C} (hp : ps[i]? = some piece) (hq : piece[k]? = some (b, .inr (ci, fs))) (hc : vwCl[ci]? = some r) : ∃ cell : Cell, H[b]? = some cell ∧ cell.vm.isStatics = false ∧ s.vm.findClass r.1 = some cell.cls := va_recv G.2.2.2.2.1 X.1 hc (q0 := wpos ps i + k) (wcat_at hp hq)
end CB
theorem cg_V {y0 : MethodName} {c0 : ByteArray} {m0 : Nat} {r0 : Option FieldType} {own C : String} {idx : Nat} {y : MethodName} {c : ByteArray} {maxL : Nat} {ret : Option FieldType} (h1 : Cond.code y c maxL ret ∈ cW) (h2 : Cond.methodLink own idx y ∈ cW) (h3 : Cond.instanceMethod y ∈ cW) (h4 : Cond.selects C y y ∈ cW) (h5 : Cond.initialized C ∈ cW) : GoodIn (Cond.code y0 c0 m0 r0 :: cW) (wsV own idx C y (Cond.code y c maxL ret :: cW)) := by
  intro w hw
  have key : ∀ v ∈ cW, v ∈ (Cond.code y0 c0 m0 r0 :: cW) ∧ ((v.onTables && v.keeps) = true ∨ ∃ ty, v = .arrayClass ty) := fun v hv => ⟨List.mem_cons_of_mem _ hv, cW_good v hv⟩
  unfold wsV at hw
  rcases List.mem_append.mp hw with hw | hw
  · simp only [List.mem_cons, List.not_mem_nil, or_false] at hw
    rcases hw with rfl | rfl | rfl | rfl
    · exact key _ h2
    · exact key _ h3
    · exact key _ h4
    · exact key _ h5
  · rcases List.mem_cons.mp hw with rfl | hw
    · exact key _ h1
    · exact key _ hw
theorem cg_S {y0 : MethodName} {c0 : ByteArray} {m0 : Nat} {r0 : Option FieldType} {own : String} {idx : Nat} {y : MethodName} {c : ByteArray} {maxL : Nat} {ret : Option FieldType} (h1 : Cond.code y c maxL ret ∈ cW) (h2 : Cond.methodLink own idx y ∈ cW) (h3 : Cond.static y ∈ cW) (h5 : Cond.initialized y.cls ∈ cW) : GoodIn (Cond.code y0 c0 m0 r0 :: cW) (va_wsS own idx y (Cond.code y c maxL ret :: cW)) := by
  intro w hw
  have key : ∀ v ∈ cW, v ∈ (Cond.code y0 c0 m0 r0 :: cW) ∧ ((v.onTables && v.keeps) = true ∨ ∃ ty, v = .arrayClass ty) := fun v hv => ⟨List.mem_cons_of_mem _ hv, cW_good v hv⟩
  unfold va_wsS at hw
  rcases List.mem_append.mp hw with hw | hw
  · simp only [List.mem_cons, List.not_mem_nil, or_false] at hw
    rcases hw with rfl | rfl | rfl
    · exact key _ h2
    · exact key _ h3
    · exact key _ h5
  · rcases List.mem_cons.mp hw with rfl | hw
    · exact key _ h1
    · exact key _ hw
theorem cg_0 {y0 : MethodName} {c0 : ByteArray} {m0 : Nat} {r0 : Option FieldType} {y : MethodName} {c : ByteArray} {maxL : Nat} {ret : Option FieldType} (h1 : Cond.code y c maxL ret ∈ cW) : GoodIn (Cond.code y0 c0 m0 r0 :: cW) (Cond.code y c maxL ret :: cW) := by
  intro w hw
  rcases List.mem_cons.mp hw with rfl | hw
  · exact ⟨List.mem_cons_of_mem _ h1, cW_good _ h1⟩
  · exact ⟨List.mem_cons_of_mem _ hw, cW_good _ hw⟩
theorem dtI_of {E : (Nat → Prop) → State → Heap → Prop} (hE : cEok E) {S : Type} {l : Launch} {D : va_G} {Z : Nat → ClassId} {y : MethodName} {ws' : List Cond} {fr lo mc ms : Nat} {As : List Value} {w : va_W} {w' : S → va_W} {post : S → Prop} {r : S → Int32} {cc : ByteArray} {maxL : Nat} (hy : plainName y.cls = true) (hcw : ∀ w ∈ cW, w ∈ Cond.code y cc maxL (some .int) :: ws') (hlen : (lg_sl As).length ≤ maxL)
    (body : ∀ (p : Program) (e : Env) (s : State) (m : MethodId) (args : Array Value) (below : List Frame) (meth : Method) (c : Code) (A : Nat → Prop) (Q : State → Prop) (ls : Array Slot), p.tables.exec = Jvm.exec → c.code = cc → c.maxLocals = maxL → s.vm.findClass y.cls = some m.cls → (∀ w ∈ Cond.code y cc maxL (some .int) :: ws', w.before args s = true) → cG E p c cc s m args D Z y.cls A → wH D vwCl A s.heap s.heap [] w → lv_has ls maxL (lv_args 0 As) →
      (∀ (pc : Nat) (H : Heap) (locs : List Loc) (ls : Array Slot) (u : S), post u → wH D vwCl A s.heap H locs (w' u) → decode cc pc = .ok (.ireturn, 1) → W p l e { frames := fr, cells := mc, slots := ms, locals := lo } s m args below meth c H locs mc ms Q (F0 m pc ls [.int (r u)])) →
      W p l e { frames := fr, cells := mc, slots := ms, locals := lo } s m args below meth c s.heap [] 0 0 Q (F0 m 0 ls [])) :
    dtI E l D Z y (Cond.code y cc maxL (some .int) :: ws') { frames := fr, cells := mc, slots := ms, locals := lo } As w w' r post := by
  intro sz
  refine Met.ofW (cc := cc) (maxL := maxL) (ret := some .int) hy rfl ?_
  intro p e s m args below meth c s₁ B hml hv
  obtain ⟨rfl, hsz, hP, hK, hD0, hEs⟩ := hv
  have hx := B.exec
  have hb := B.bytes
  have hr := B.returns
  have hts := atoms_spec (ws := Cond.code y cc maxL (some .int) :: ws') B.pre
  have hown : s.vm.findClass y.cls = some m.cls := findClass_of_methodNamed B.named
  have hlocks := B.notSynchronized
  subst hsz
  have hD := hD0.self (sz := s.heap.size)
  have hl := lv_entry As (n := maxL) hlen
  rw [lg_entry_eq]
  refine body p e s m _ below meth c (va_A w s.heap.size) _ _ hx hb hml hown hts ⟨hx, hb, hown, fun w h => hts w (hcw w h), hK, hE, hEs, fun q h => Or.inr h⟩ ⟨hP, hD, va_S.rf⟩ hl ?_
  intro pc H locs ls u hu X2 hdg
  exact W.iret hx hb hr (fun t ht hW => ⟨⟨r u, u, rfl, ⟨rfl, hu⟩, by rw [ht]; exact X2.1, X2.2.1⟩, X2.2.2.F ht⟩) X2.2.2.2.2 hdg
theorem dtZ_of {E : (Nat → Prop) → State → Heap → Prop} (hE : cEok E) {S : Type} {l : Launch} {D : va_G} {Z : Nat → ClassId} {y : MethodName} {ws' : List Cond} {fr lo mc ms : Nat} {As : List Value} {w : va_W} {w' : S → va_W} {post : S → Prop} {r : S → Int32} {cc : ByteArray} {maxL : Nat} (hnar : ∀ u, post u → narrow .boolean (.int (r u)) = .int (r u)) (hy : plainName y.cls = true) (hcw : ∀ w ∈ cW, w ∈ Cond.code y cc maxL (some .boolean) :: ws') (hlen : (lg_sl As).length ≤ maxL)
    (body : ∀ (p : Program) (e : Env) (s : State) (m : MethodId) (args : Array Value) (below : List Frame) (meth : Method) (c : Code) (A : Nat → Prop) (Q : State → Prop) (ls : Array Slot), p.tables.exec = Jvm.exec → c.code = cc → c.maxLocals = maxL → s.vm.findClass y.cls = some m.cls → (∀ w ∈ Cond.code y cc maxL (some .boolean) :: ws', w.before args s = true) → cG E p c cc s m args D Z y.cls A → wH D vwCl A s.heap s.heap [] w → lv_has ls maxL (lv_args 0 As) →
      (∀ (pc : Nat) (H : Heap) (locs : List Loc) (ls : Array Slot) (u : S), post u → wH D vwCl A s.heap H locs (w' u) → decode cc pc = .ok (.ireturn, 1) → W p l e { frames := fr, cells := mc, slots := ms, locals := lo } s m args below meth c H locs mc ms Q (F0 m pc ls [.int (r u)])) →
      W p l e { frames := fr, cells := mc, slots := ms, locals := lo } s m args below meth c s.heap [] 0 0 Q (F0 m 0 ls [])) :
    dtI E l D Z y (Cond.code y cc maxL (some .boolean) :: ws') { frames := fr, cells := mc, slots := ms, locals := lo } As w w' r post := by
  intro sz
  refine Met.ofW (cc := cc) (maxL := maxL) (ret := some .boolean) hy rfl ?_
  intro p e s m args below meth c s₁ B hml hv
  obtain ⟨rfl, hsz, hP, hK, hD0, hEs⟩ := hv
  have hx := B.exec
  have hb := B.bytes
  have hr := B.returns
  have hts := atoms_spec (ws := Cond.code y cc maxL (some .boolean) :: ws') B.pre
  have hown : s.vm.findClass y.cls = some m.cls := findClass_of_methodNamed B.named
  have hlocks := B.notSynchronized
  subst hsz
  have hD := hD0.self (sz := s.heap.size)
  have hl := lv_entry As (n := maxL) hlen
  rw [lg_entry_eq]
  refine body p e s m _ below meth c (va_A w s.heap.size) _ _ hx hb hml hown hts ⟨hx, hb, hown, fun w h => hts w (hcw w h), hK, hE, hEs, fun q h => Or.inr h⟩ ⟨hP, hD, va_S.rf⟩ hl ?_
  intro pc H locs ls u hu X2 hdg
  exact W.zret hx hb hr (hnar u hu) (fun t ht hW => ⟨⟨r u, u, rfl, ⟨rfl, hu⟩, by rw [ht]; exact X2.1, X2.2.1⟩, X2.2.2.F ht⟩) X2.2.2.2.2 hdg
theorem dtL_of {E : (Nat → Prop) → State → Heap → Prop} (hE : cEok E) {S : Type} {l : Launch} {D : va_G} {Z : Nat → ClassId} {y : MethodName} {ws' : List Cond} {fr lo mc ms : Nat} {As : List Value} {w : va_W} {w' : S → va_W} {post : S → Prop} {r : S → Int64} {cc : ByteArray} {maxL : Nat} (hy : plainName y.cls = true) (hcw : ∀ w ∈ cW, w ∈ Cond.code y cc maxL (some .long) :: ws') (hlen : (lg_sl As).length ≤ maxL)
    (body : ∀ (p : Program) (e : Env) (s : State) (m : MethodId) (args : Array Value) (below : List Frame) (meth : Method) (c : Code) (A : Nat → Prop) (Q : State → Prop) (ls : Array Slot), p.tables.exec = Jvm.exec → c.code = cc → c.maxLocals = maxL → s.vm.findClass y.cls = some m.cls → (∀ w ∈ Cond.code y cc maxL (some .long) :: ws', w.before args s = true) → cG E p c cc s m args D Z y.cls A → wH D vwCl A s.heap s.heap [] w → lv_has ls maxL (lv_args 0 As) →
      (∀ (pc : Nat) (H : Heap) (locs : List Loc) (ls : Array Slot) (u : S), post u → wH D vwCl A s.heap H locs (w' u) → decode cc pc = .ok (.lreturn, 1) → W p l e { frames := fr, cells := mc, slots := ms, locals := lo } s m args below meth c H locs mc ms Q (F0 m pc ls [.long (r u)])) →
      W p l e { frames := fr, cells := mc, slots := ms, locals := lo } s m args below meth c s.heap [] 0 0 Q (F0 m 0 ls [])) :
    dtL E l D Z y (Cond.code y cc maxL (some .long) :: ws') { frames := fr, cells := mc, slots := ms, locals := lo } As w w' r post := by
  intro sz
  refine Met.ofW (cc := cc) (maxL := maxL) (ret := some .long) hy rfl ?_
  intro p e s m args below meth c s₁ B hml hv
  obtain ⟨rfl, hsz, hP, hK, hD0, hEs⟩ := hv
  have hx := B.exec
  have hb := B.bytes
  have hr := B.returns
  have hts := atoms_spec (ws := Cond.code y cc maxL (some .long) :: ws') B.pre
  have hown : s.vm.findClass y.cls = some m.cls := findClass_of_methodNamed B.named
  have hlocks := B.notSynchronized
  subst hsz
  have hD := hD0.self (sz := s.heap.size)
  have hl := lv_entry As (n := maxL) hlen
  rw [lg_entry_eq]
  refine body p e s m _ below meth c (va_A w s.heap.size) _ _ hx hb hml hown hts ⟨hx, hb, hown, fun w h => hts w (hcw w h), hK, hE, hEs, fun q h => Or.inr h⟩ ⟨hP, hD, va_S.rf⟩ hl ?_
  intro pc H locs ls u hu X2 hdg
  exact W.lret hx hb hr (fun t ht hW => ⟨⟨r u, u, rfl, ⟨rfl, hu⟩, by rw [ht]; exact X2.1, X2.2.1⟩, X2.2.2.F ht⟩) X2.2.2.2.2 hdg
theorem dtV_of {E : (Nat → Prop) → State → Heap → Prop} (hE : cEok E) {S : Type} {l : Launch} {D : va_G} {Z : Nat → ClassId} {y : MethodName} {ws' : List Cond} {fr lo mc ms : Nat} {As : List Value} {w : va_W} {w' : S → va_W} {post : S → Prop} {cc : ByteArray} {maxL : Nat} (hy : plainName y.cls = true) (hcw : ∀ w ∈ cW, w ∈ Cond.code y cc maxL (none) :: ws') (hlen : (lg_sl As).length ≤ maxL)
    (body : ∀ (p : Program) (e : Env) (s : State) (m : MethodId) (args : Array Value) (below : List Frame) (meth : Method) (c : Code) (A : Nat → Prop) (Q : State → Prop) (ls : Array Slot), p.tables.exec = Jvm.exec → c.code = cc → c.maxLocals = maxL → s.vm.findClass y.cls = some m.cls → (∀ w ∈ Cond.code y cc maxL (none) :: ws', w.before args s = true) → cG E p c cc s m args D Z y.cls A → wH D vwCl A s.heap s.heap [] w → lv_has ls maxL (lv_args 0 As) →
      (∀ (pc : Nat) (H : Heap) (locs : List Loc) (ls : Array Slot) (u : S), post u → wH D vwCl A s.heap H locs (w' u) → decode cc pc = .ok (.return_, 1) → W p l e { frames := fr, cells := mc, slots := ms, locals := lo } s m args below meth c H locs mc ms Q (F0 m pc ls [])) →
      W p l e { frames := fr, cells := mc, slots := ms, locals := lo } s m args below meth c s.heap [] 0 0 Q (F0 m 0 ls [])) :
    dtV E l D Z y (Cond.code y cc maxL (none) :: ws') { frames := fr, cells := mc, slots := ms, locals := lo } As w w' post := by
  intro sz
  refine Met.ofW (cc := cc) (maxL := maxL) (ret := none) hy rfl ?_
  intro p e s m args below meth c s₁ B hml hv
  obtain ⟨rfl, hsz, hP, hK, hD0, hEs⟩ := hv
  have hx := B.exec
  have hb := B.bytes
  have hr := B.returns
  have hts := atoms_spec (ws := Cond.code y cc maxL (none) :: ws') B.pre
  have hown : s.vm.findClass y.cls = some m.cls := findClass_of_methodNamed B.named
  have hlocks := B.notSynchronized
  subst hsz
  have hD := hD0.self (sz := s.heap.size)
  have hl := lv_entry As (n := maxL) hlen
  rw [lg_entry_eq]
  refine body p e s m _ below meth c (va_A w s.heap.size) _ _ hx hb hml hown hts ⟨hx, hb, hown, fun w h => hts w (hcw w h), hK, hE, hEs, fun q h => Or.inr h⟩ ⟨hP, hD, va_S.rf⟩ hl ?_
  intro pc H locs ls u hu X2 hdg
  exact W.vret hx hb hr (fun t ht hW => ⟨⟨u, rfl, hu, by rw [ht]; exact X2.1, X2.2.1⟩, X2.2.2.F ht⟩) X2.2.2.2.2 hdg
