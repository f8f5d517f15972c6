theorem dtQ_of {E : (Nat → Prop) → State → Heap → Prop} (hE : cEok E) {S : Type} {l : Launch} {D : va_G} {Z : Nat → ClassId} {y : MethodName} {ws' : List Cond} {fr lo mc ms : Nat} {As : List Value} {w : va_W} {w' : S → va_W} {post : S → Prop} {r : S → Option Nat} {cc : ByteArray} {maxL : Nat} {rt : FieldType} (hrt : (∃ n, rt = .object n) ∨ ∃ t, rt = .array t) (hy : plainName y.cls = true) (hcw : ∀ w ∈ cW, w ∈ Cond.code y cc maxL (some rt) :: ws') (hlen : (lg_sl As).length ≤ maxL)
    (body : ∀ (p : Program) (e : Env) (s : State) (m : MethodId) (args : Array Value) (below : List Frame) (meth : Method) (c : Code) (A : Nat → Prop) (Q : State → Prop) (ls : Array Slot), p.tables.exec = Jvm.exec → c.code = cc → c.maxLocals = maxL → s.vm.findClass y.cls = some m.cls → (∀ w ∈ Cond.code y cc maxL (some rt) :: ws', w.before args s = true) → cG E p c cc s m args D Z y.cls A → wH D vwCl A s.heap s.heap [] w → lv_has ls maxL (lv_args 0 As) →
      (∀ (pc : Nat) (H : Heap) (locs : List Loc) (ls : Array Slot) (u : S), post u → wH D vwCl A s.heap H locs (w' u) → decode cc pc = .ok (.areturn, 1) → W p l e { frames := fr, cells := mc, slots := ms, locals := lo } s m args below meth c H locs mc ms Q (F0 m pc ls [va_rf (r u)])) →
      W p l e { frames := fr, cells := mc, slots := ms, locals := lo } s m args below meth c s.heap [] 0 0 Q (F0 m 0 ls [])) :
    dtQ E l D Z y (Cond.code y cc maxL (some rt) :: ws') { frames := fr, cells := mc, slots := ms, locals := lo } As w w' r post := by
  intro sz
  refine Met.ofW (cc := cc) (maxL := maxL) (ret := some rt) hy rfl ?_
  intro p e s m args below meth c s₁ B hml hv
  obtain ⟨rfl, hsz, hP, hK, hD0, hEs⟩ := hv
  have hx := B.exec
  have hb := B.bytes
  have hr := B.returns
  have hts := atoms_spec (ws := Cond.code y cc maxL (some rt) :: ws') B.pre
  have hown : s.vm.findClass y.cls = some m.cls := findClass_of_methodNamed B.named
  have hlocks := B.notSynchronized
  subst hsz
  have hD := hD0.self (sz := s.heap.size)
  have hl := lv_entry As (n := maxL) hlen
  rw [lg_entry_eq]
  refine body p e s m _ below meth c (va_A w s.heap.size) _ _ hx hb hml hown hts ⟨hx, hb, hown, fun w h => hts w (hcw w h), hK, hE, hEs, fun q h => Or.inr h⟩ ⟨hP, hD, va_S.rf⟩ hl ?_
  intro pc H locs ls u hu X2 hdg
  exact W.aret hx hb hr hrt (va_rf_or _) (fun t ht hW => ⟨⟨r u, u, rfl, ⟨rfl, hu⟩, by rw [ht]; exact X2.1, X2.2.1⟩, X2.2.2.F ht⟩) X2.2.2.2.2 hdg
section CA
variable {p : Program} {l : Launch} {e : Env} {R : Room} {s : State} {m : MethodId} {args : Array Value} {below : List Frame} {meth : Method} {c : Code} {H : Heap} {locs : List Loc} {cells slots : Nat} {Q : State → Prop}
variable {cc : ByteArray} {pc : Nat} {ls : Array Slot} {rest : List Value} {D : va_G} {A : Nat → Prop} {E : (Nat → Prop) → State → Heap → Prop} {Z : Nat → ClassId} {own : String} {ps ps' : List va_W} {piece : va_W} {a : Nat} {idx : Nat}

theorem cfin_Q {S : Type} {r : S → Option Nat} {post : S → Prop} {w : va_W} {w' : S → va_W} {x : Option Nat} (u : S) (hu : post u) (hw : w = w' u) (hr : x = r u) (X : wH D vwCl A s.heap H locs w) (hdg : decode cc pc = .ok (.areturn, 1)) (fin : ∀ (pc : Nat) (H : Heap) (locs : List Loc) (ls : Array Slot) (u : S), post u → wH D vwCl A s.heap H locs (w' u) → decode cc pc = .ok (.areturn, 1) → W p l e R s m args below meth c H locs cells slots Q (F0 m pc ls [va_rf (r u)])) : W p l e R s m args below meth c H locs cells slots Q (F0 m pc ls [va_rf x]) := by
  subst hw
  subst hr
  exact fin _ _ _ _ u hu X hdg
theorem gq_n {x : Option Nat} (h : x = none) (k : W p l e R s m args below meth c H locs cells slots Q (F0 m pc ls (.null :: rest))) : W p l e R s m args below meth c H locs cells slots Q (F0 m pc ls (va_rf x :: rest)) := by subst h; exact k
theorem gq_s {x : Option Nat} {b : Nat} (h : x = some b) (k : W p l e R s m args below meth c H locs cells slots Q (F0 m pc ls (.ref b :: rest))) : W p l e R s m args below meth c H locs cells slots Q (F0 m pc ls (va_rf x :: rest)) := by subst h; exact k
end CA
/-- what a shelf's place in an array shows: b its address, h what is held, k the kind that this array keeps -/
def shR (b h : Nat → Nat) (k : Nat) : Nat → Option Nat := fun j => if j < 8 ∧ h j = k then some (b j) else none
theorem shR_s {b h : Nat → Nat} {k j : Nat} (hj : j < 8) (hh : h j = k) : shR b h k j = some (b j) := if_pos ⟨hj, hh⟩
theorem shR_n {b h : Nat → Nat} {k j : Nat} (hh : h j ≠ k) : shR b h k j = none := if_neg (fun q => hh q.2)
def shQ (b h : Nat → Nat) (k : Nat) (xd : Int32) : Option Nat := if zir xd 8 then shR b h k xd.toInt.toNat else none
theorem zir_N {j n : Nat} (hj : j < n) (hn : n < 2147483648) : zir (nI j) n := (zir_n (by omega)).mpr hj
theorem nI_N {j : Nat} (hj : j < 2147483648) : (nI j).toInt.toNat = j := by rw [zi_of hj]; rfl
theorem shQ_j {b h : Nat → Nat} {k j : Nat} (hj : j < 8) : shQ b h k (nI j) = shR b h k j := by
  unfold shQ
  rw [if_pos (zir_N hj (by decide)), nI_N (by omega)]
theorem shQ_s {b h : Nat → Nat} {k j : Nat} (hj : j < 8) (hh : h j = k) : shQ b h k (nI j) = some (b j) := by rw [shQ_j hj, shR_s hj hh]
theorem shQ_n {b h : Nat → Nat} {k : Nat} {xd : Int32} (hh : ¬ (zir xd 8 ∧ h xd.toInt.toNat = k)) : shQ b h k xd = none := by
  unfold shQ
  by_cases hz : zir xd 8
  · rw [if_pos hz, shR_n (fun q => hh ⟨hz, q⟩)]
  · rw [if_neg hz]
/-- AskNext: its own address, its rules', its rows'; what its fields name; whether it has an image; shelves: addresses b, what is held h -/
def anP (Z : Nat → ClassId) (o : Nat × Nat × Nat) (x0 x1 x2 x3 x4 x5 x6 x7 x8 x9 hi : Nat) (b h : Nat → Nat) : va_W := [(o.1, .inr (11, [.ref x0, .ref x1, .ref x2, .ref x3, .ref x4, .ref x5, .ref x6, .ref x7, .ref x8, .ref x9, .ref o.2.1, .ref o.2.2, .int (nI hi)])), (o.2.1, .inl (Z 3, 8, .inr (.inr (.inr (.inr (shR b h 1)))))), (o.2.2, .inl (Z 4, 8, .inr (.inr (.inr (.inr (shR b h 2))))))]
/-- all shelves' own cells; one of them taken out -/
def shOn (f : Nat → va_W) : Nat → va_W | 0 => [] | n + 1 => shOn f n ++ f n
def shNo (f : Nat → va_W) (d : Nat) : Nat → va_W := fun i => if i = d then [] else f i
theorem shOn_c {f g : Nat → va_W} : ∀ {n : Nat}, (∀ i, i < n → f i = g i) → shOn f n = shOn g n
  | 0, _ => rfl
  | n + 1, h => by rw [shOn, shOn, shOn_c (fun i hi => h i (by omega)), h n (by omega)]
theorem shOn_p {f : Nat → va_W} {d : Nat} : ∀ {n : Nat}, d < n → (shOn f n).Perm (f d ++ shOn (shNo f d) n)
  | 0, h => absurd h (Nat.not_lt_zero _)
  | n + 1, h => by
    rw [shOn, shOn]
    by_cases e : d = n
    · subst e
      rw [show shNo f d d = [] from if_pos rfl, List.append_nil, show shOn (shNo f d) d = shOn f d from shOn_c (fun i hi => if_neg (by omega))]
      exact List.perm_append_comm
    · rw [show shNo f d n = f n from if_neg (by omega), ← List.append_assoc]
      exact (shOn_p (show d < n by omega)).append_right _
def shUp (f : Nat → va_W) (d : Nat) (x : va_W) : Nat → va_W := fun i => if i = d then x else f i
theorem shOn_b {f : Nat → va_W} {d : Nat} {x : va_W} {n : Nat} (h : d < n) : (x ++ shOn (shNo f d) n).Perm (shOn (shUp f d x) n) := by
  have h1 := shOn_p (f := shUp f d x) h
  rw [show shUp f d x d = x from if_pos rfl, show shNo (shUp f d x) d = shNo f d from funext fun i => by unfold shNo shUp; split <;> rfl] at h1
  exact h1.symm
theorem shUp_self {f : Nat → va_W} {d : Nat} : shUp f d (f d) = f := funext fun i => by
  unfold shUp
  by_cases h : i = d
  · rw [if_pos h, h]
  · rw [if_neg h]
theorem wcat_last {qs : List va_W} {x y z : va_W} (h : x.Perm (y ++ z)) : (wcat (qs ++ [x])).Perm (wcat (qs ++ [y, z])) := by
  induction qs with
  | nil =>
    show (x ++ []).Perm (y ++ (z ++ []))
    rw [List.append_nil, List.append_nil]
    exact h
  | cons q qs ih => exact List.Perm.append_left q ih
theorem wcat_last' {qs : List va_W} {x y z : va_W} (h : (y ++ z).Perm x) : (wcat (qs ++ [y, z])).Perm (wcat (qs ++ [x])) := (wcat_last h.symm).symm
