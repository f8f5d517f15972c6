/-! THE LAW'S OWN WORDS; ITS HELPER element -/
theorem gg_V {T L : List Cond} (hg : ∀ v ∈ T, (v.onTables && v.keeps) = true ∨ ∃ ty, v = .arrayClass ty) (hL : ∀ v ∈ L, v ∈ T) {own C : String} {idx : Nat} {y : MethodName} {c : ByteArray} {maxL : Nat} {ret : Option FieldType} (h1 : Cond.code y c maxL ret ∈ T) (h2 : Cond.methodLink own idx y ∈ T) (h3 : Cond.instanceMethod y ∈ T) (h4 : Cond.selects C y y ∈ T) (h5 : Cond.initialized C ∈ T) : GoodIn T (wsV own idx C y (Cond.code y c maxL ret :: L)) := by
  intro w hw
  have key : ∀ v ∈ T, v ∈ T ∧ ((v.onTables && v.keeps) = true ∨ ∃ ty, v = .arrayClass ty) := fun v hv => ⟨hv, hg v hv⟩
  unfold wsV at hw
  rcases List.mem_append.mp hw with hw | hw
  · simp only [List.mem_cons, List.not_mem_nil, or_false] at hw
    rcases hw with rfl | rfl | rfl | rfl
    · exact key _ h2
    · exact key _ h3
    · exact key _ h4
    · exact key _ h5
  · rcases List.mem_cons.mp hw with rfl | hw
    · exact key _ h1
    · exact key _ (hL _ hw)
def elW : List Cond := [.classLink RL 13 "java/lang/IllegalArgumentException", .classLink RL 15 "java/lang/IllegalStateException", .methodLink RL 7 yX11_element, .instanceMethod yX11_element, .selects RX11 yX11_element yX11_element, .initialized RX11]
theorem elW_all : elW.all (fun w => w.onTables && w.keeps) = true := by decide +kernel
theorem elW_good : ∀ v ∈ elW ++ cW, (v.onTables && v.keeps) = true ∨ ∃ ty, v = .arrayClass ty := fun v hv => (List.mem_append.mp hv).elim (fun h => Or.inl (List.all_eq_true.mp elW_all v h)) (cW_good v)
/-- what catches what -/
def cEle (E : (Nat → Prop) → State → Heap → Prop) : Prop := ∀ (A : Nat → Prop) (U : State) (H : Heap), E A U H → va_Nw (.castable "java/lang/IllegalArgumentException" "java/lang/IllegalArgumentException") U ∧ va_Nw (.castable "java/lang/IllegalStateException" "java/lang/IllegalStateException") U ∧ va_Nc "java/lang/IllegalStateException" "java/lang/IllegalArgumentException" U
section EL
variable {p : Program} {l : Launch} {e : Env} {R : Room} {s : State} {m : MethodId} {args : Array Value} {below : List Frame} {meth : Method} {c : Code} {H : Heap} {locs : List Loc} {cells slots : Nat} {Q : State → Prop}
variable {cc : ByteArray} {pc : Nat} {ls : Array Slot} {rest : List Value} {D : va_G} {A : Nat → Prop} {E : (Nat → Prop) → State → Heap → Prop} {Z : Nat → ClassId} {own : String} {w wf : va_W}
theorem dxL_go {W0 : va_W} {ok : Prop} {xc : String} {mc ms : Nat} {st0 : List Value} {a : Array Value} {r : Int64} (G : cG E p c cc s m args D Z own A) (X : wH D vwCl A s.heap H locs W0) (hp : W0.Perm (w ++ wf)) (hr : wH D vwCl A s.heap H locs (w ++ wf) → vx_Run p l e R s m args below meth c H locs cells slots mc ms (F0 m pc ls st0) rest (va_Ql (S := Unit) (fun x _ => x = r ∧ ok) (fun _ t => dtB D w H.size w t) (va_A w H.size) a) (vx_X (S := Unit) (fun _ => ¬ ok) (fun C _ t => C = xc ∧ dtB D w H.size w t) (va_A w H.size)) (va_A w H.size))
    (kx : ∀ (H1 : Heap) (locs1 : List Loc) (ce : Cell) (q : Addr), ¬ ok → wH D vwCl A s.heap H1 locs1 W0 → H1[q]? = some ce → ce.vm = .none → s.vm.findClass xc = some ce.cls → vx_W p l e R s m args below meth c H1 locs1 (cells + mc) (slots + ms) Q (F0 m pc ls rest) q)
    (kk : ∀ (H1 : Heap) (locs1 : List Loc), ok → wH D vwCl A s.heap H1 locs1 W0 → W p l e R s m args below meth c H1 locs1 (cells + mc) (slots + ms) Q (F0 m (pc + 3) ls (.long r :: rest))) : W p l e R s m args below meth c H locs cells slots Q (F0 m pc ls st0) := by
  replace X := wh_perm hp X
  have hA := G.2.2.2.2.2.2.2
  have join : ∀ (t : State) (H1 : Heap) (locs1 : List Loc), t.heap = H1 → dtB D w H.size w t → (∀ q : Nat, q < H.size → ¬ (va_A w H.size) q → H1[q]? = H[q]?) → va_S A s.heap H1 locs1 → wH D vwCl A s.heap H1 locs1 W0 := by
    intro t H1 locs1 ht hB hk1 hS1
    obtain ⟨hP1, hD1⟩ := hB
    rw [ht] at hP1
    obtain ⟨hP, hD⟩ := fr_join X.1 X.2.1 hk1 (fr_free X.2.1 X.2.2 hA) hP1 hD1
    exact wh_perm hp.symm ⟨hP, hD, hS1⟩
  refine vx_calll (hr X) X.2.2 (fun q _ h => fr_free X.2.1 X.2.2 hA q h) (fr_free X.2.1 X.2.2 hA) (fun q _ h => fr_free X.2.1 X.2.2 hA q h) (fun C ce q9 u t H1 locs1 ht hvm hno hB hz1 hk1 hS1 hc hv hcl => ?_) (fun r0 u t H1 locs1 ht hvm hw hB hz1 hk1 hS1 => ?_)
  · obtain ⟨rfl, hB⟩ := hB
    exact kx H1 locs1 ce q9 hno (join t H1 locs1 ht hB hk1 hS1) hc hv hcl
  · obtain ⟨rfl, hw⟩ := hw
    exact kk H1 locs1 hw (join t H1 locs1 ht hB hk1 hS1)
end EL
def elO (Z : Nat → ClassId) (oq : Nat) (g : Nat → Nat) : va_W := [(oq, .inl (Z 1, 1, .inr (.inl (mj g))))]
def elG (ρ : MS) (d i : Int32) (g : Nat → Nat) : Nat → Nat := if zelT ρ d i = 0 then (fun b => if b = 0 then lNN (zelC ρ d i) else g b) else g
set_option maxHeartbeats 4000000 in
set_option maxRecDepth 100000 in
theorem kL_element {E : (Nat → Prop) → State → Heap → Prop} (hE : cEok E) {l : Launch} {D : va_G} {Z : Nat → ClassId} {an : Nat × Nat × Nat} {x0 x1 x2 x3 x4 x5 x6 x7 x8 x9 hi : Nat} {sb sc : Nat → Nat} {ρ : MS} {oq : Nat} {g : Nat → Nat} (xd : Int32) (xi : Int32) (hzs : zSh ρ) (hC9 : cThr E) (hL9 : cEle E) (hst9 : l.stackTraces = false) : dtI E l D Z yL_element (Cond.codeWith yL_element cL_element 5 (some .int) [(0, 9, 12, 13), (0, 9, 16, 15)] :: (elW ++ cW)) { frames := 7, cells := 1, slots := 6, locals := 113 } [.ref an.1, .int xd, .int xi, .ref oq] (wcat [anP Z an x0 x1 x2 x3 x4 x5 x6 x7 x8 x9 hi sb (ρ.2 41), shOn (shF Z sb sc ρ) 8, elO Z oq g]) (S := Unit) (fun _ => wcat [anP Z an x0 x1 x2 x3 x4 x5 x6 x7 x8 x9 hi sb (ρ.2 41), shOn (shF Z sb sc ρ) 8, elO Z oq (elG ρ xd xi g)]) (fun _ => nI (zelT ρ xd xi)) (fun _ => True) := by
  refine dtW_of hE (cc := cL_element) (maxL := 5) (by decide +kernel) (fun w h => List.mem_cons_of_mem _ (List.mem_append_right _ h)) (Nat.le_of_ble_eq_true rfl) ?_
  intro p e s m args below meth c A Q ls htab hx hb hml hown hts0 G X hl fin
  replace hl : lv_has ls 5 [(0, .ref an.1), (1, .int xd), (2, .int xi), (3, .ref oq)] := hl
  have hts : ∀ w ∈ elW ++ cW, w.before args s = true := fun w h => hts0 w (List.mem_cons_of_mem _ h)
  have hc3 := hL9 _ _ _ G.2.2.2.2.2.2.1
  refine lv_aload_n hx hb dL_element_0 rfl (lv_at hl 3 rfl) ?_
  refine lv_iconst (v := nI 0) hx hb dL_element_1 (by decide) ?_
  refine lv_aload_n hx hb dL_element_2 rfl (lv_at hl 0 rfl) ?_
  refine lv_iload_n hx hb dL_element_3 rfl (lv_at hl 1 rfl) ?_
  refine lv_iload_n hx hb dL_element_4 rfl (lv_at hl 2 rfl) ?_
  refine dxL_go (mc := 1) (ms := 6) (W0 := wcat [anP Z an x0 x1 x2 x3 x4 x5 x6 x7 x8 x9 hi sb (ρ.2 41), shOn (shF Z sb sc ρ) 8, elO Z oq g]) (w := wcat [anP Z an x0 x1 x2 x3 x4 x5 x6 x7 x8 x9 hi sb (ρ.2 41), shOn (shF Z sb sc ρ) 8]) (wf := wcat [elO Z oq g]) (ok := zelT ρ xd xi = 0) (xc := zelX ρ xd xi) (r := zelC ρ xd xi) G X (wsel [0, 1, 2] rfl rfl) (xun_V (As := [.int xd, .int xi]) (rest := [.int (nI 0), .ref oq]) (n := 2) G hml hts hl.1 (p_recv G X 0 0 rfl rfl rfl) (k11_element hE xd xi hzs hC9 hst9 _) (cwV 2 hts (gg_V elW_good (fun v h => List.mem_append_right _ h) (List.mem_append_right _ ck_715) (List.mem_append_left _ (List.mem_of_getElem? (i := 2) rfl)) (List.mem_append_left _ (List.mem_of_getElem? (i := 3) rfl)) (List.mem_append_left _ (List.mem_of_getElem? (i := 4) rfl)) (List.mem_append_left _ (List.mem_of_getElem? (i := 5) rfl))) rfl rfl rfl (by decide +kernel) ⟨Nat.le_of_ble_eq_true rfl, Nat.le_of_ble_eq_true rfl⟩) rfl (Nat.le_of_ble_eq_true rfl) dL_element_5 ⟨Nat.le_of_ble_eq_true rfl, Nat.le_of_ble_eq_true rfl⟩) (fun H locs ce q9 hno9 X hc9 hv9 hcl9 => ?_) (fun H locs hok9 X => ?_)
  · have eg : elG ρ xd xi g = g := if_neg hno9
    have hb2 : zelT ρ xd xi = 1 ∨ zelT ρ xd xi = 2 := by
      have : zelT ρ xd xi < 3 := by unfold zelT; (repeat' split) <;> omega
      omega
    rcases hb2 with e | e
    · rw [← zelX_1 e] at hcl9
      refine vx_catch (own := RL) G.2.2.1 [] ⟨0, 9, 12, 13⟩ [⟨0, 9, 16, 15⟩] htab (fun z hz => by cases hz) (by decide) (by decide) (hts _ (List.mem_append_left _ (List.mem_of_getElem? (i := 0) rfl))) (va_Nw.use rfl hc3.1) hc9 hv9 hcl9 ?_
      refine lv_astore (lv' := [(4, .ref q9), (0, .ref an.1), (1, .int xd), (2, .int xi), (3, .ref oq)]) hx hb dL_element_12 hl (by decide) rfl (fun ls hl => ?_)
      refine lv_iconst (v := nI 1) hx hb dL_element_14 (by decide) ?_
      exact cfin_I (()) (trivial) (by rw [eg]) (by rw [e]) X dL_element_15 fin
    · rw [← zelX_2 e] at hcl9
      refine vx_catch (own := RL) G.2.2.1 [⟨0, 9, 12, 13⟩] ⟨0, 9, 16, 15⟩ [] htab (fun z hz => by rcases List.mem_cons.mp hz with rfl | hz; exact Or.inr ⟨by decide, _, (hts _ (List.mem_append_left _ (List.mem_of_getElem? (i := 0) rfl))), hc3.2.2⟩; cases hz) (by decide) (by decide) (hts _ (List.mem_append_left _ (List.mem_of_getElem? (i := 1) rfl))) (va_Nw.use rfl hc3.2.1) hc9 hv9 hcl9 ?_
      refine lv_astore (lv' := [(4, .ref q9), (0, .ref an.1), (1, .int xd), (2, .int xi), (3, .ref oq)]) hx hb dL_element_16 hl (by decide) rfl (fun ls hl => ?_)
      refine lv_iconst (v := nI 2) hx hb dL_element_18 (by decide) ?_
      exact cfin_I (()) (trivial) (by rw [eg]) (by rw [e]) X dL_element_19 fin
  · have eg : elG ρ xd xi g = (fun b => if b = 0 then lNN (zelC ρ xd xi) else g b) := if_pos hok9
    refine gl_asN ?_
    refine cr_last (ps' := [anP Z an x0 x1 x2 x3 x4 x5 x6 x7 x8 x9 hi sb (ρ.2 41), shOn (shF Z sb sc ρ) 8, elO Z oq (fun b => if b = 0 then lNN (zelC ρ xd xi) else g b)]) G X 2 0 rfl rfl (by decide) (by decide) rfl dL_element_8 (fun H locs X => ?_)
    refine lv_goto (tgt := 20) hx hb dL_element_9 (by decide) ?_
    refine lv_iconst (v := nI 0) hx hb dL_element_20 (by decide) ?_
    exact cfin_I (()) (trivial) (by rw [eg]) (by rw [hok9]) X dL_element_21 fin
