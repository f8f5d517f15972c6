/-- what the tables say of arrays of arrays and of references -/
def cArr (E : (Nat → Prop) → State → Heap → Prop) : Prop := ∀ (A : Nat → Prop) (U : State) (H : Heap), E A U H → zAO2 .int U ∧ va_AO "AskNext$Rule" U ∧ va_AO "AskNext$Row" U
def zrws (Z : Nat → ClassId) (r : Nat → Nat) (n k : Nat) : va_W := (List.range n).map (fun i => (r i, .inl (Z 0, k, .inl (fun _ => 0))))
theorem zpl_up {f : Nat → va_E} {n : Nat} {r : Nat → Nat} {v : va_E} : va_pl ([] ++ (List.range n).map r) (vr_up f ((List.range n).map r) v) = (List.range n).map (fun i => (r i, v)) := by
  rw [List.nil_append]
  unfold va_pl
  rw [List.map_map]
  apply List.map_congr_left
  intro i hi
  show (r i, vr_up f ((List.range n).map r) v (r i)) = (r i, v)
  rw [vr_up_in (List.mem_map.mpr ⟨i, hi, rfl⟩)]
section CM
variable {p : Program} {l : Launch} {e : Env} {R : Room} {s : State} {m : MethodId} {args : Array Value} {below : List Frame} {meth : Method} {c : Code} {H : Heap} {locs : List Loc} {cells slots : Nat} {Q : State → Prop}
variable {cc : ByteArray} {pc : Nat} {ls : Array Slot} {rest : List Value} {D : va_G} {A : Nat → Prop} {E : (Nat → Prop) → State → Heap → Prop} {Z : Nat → ClassId} {own : String} {ps ps' : List va_W} {piece : va_W} {a : Nat} {idx : Nat}

theorem cx_multi {n k : Nat} (hA2 : cArr E) (G : cG E p c cc s m args D Z own A) (X : wH D vwCl A s.heap H locs (wcat ps)) (hlink : (Cond.classLink own idx "[[I").before args s = true) (hn : n ≤ 1000) (hk : k ≤ 1000) (hcells : cells + (1 + n) ≤ R.cells) (hslots : slots + (n + n * k) ≤ R.slots) (hdg : decode cc pc = .ok (.multianewarray idx 2, 4)) (kk : ∀ (q : Nat) (r : Nat → Nat) (H1 : Heap), wH D vwCl A s.heap H1 locs (wcat (ps ++ [[(q, .inl (Z 2, n, .inr (.inr (.inr (.inr (fun i => if i < n then some (r i) else none))))))], zrws Z r n k])) → W p l e R s m args below meth c H1 locs (cells + 1 + n) (slots + n + n * k) Q (F0 m (pc + 4) ls (.ref q :: rest))) : W p l e R s m args below meth c H locs cells slots Q (F0 m pc ls (.int (nI k) :: .int (nI n) :: rest)) := by
  have hK := G.2.2.2.2.1
  obtain ⟨hO, -, -⟩ := hA2 _ _ _ G.2.2.2.2.2.2.1
  have e0 : wcat ps ++ va_pl [] (fun _ => Sum.inl (Z 0, 0, .inl (fun _ => 0))) = wcat ps := List.append_nil _
  refine va_mna (ty := .int) (L := []) (f := fun _ => .inl (Z 0, 0, .inl (fun _ => 0))) (X := wcat ps) (z := (k, .inl (fun _ => 0))) (cy := Z 0) G.1 G.2.1 G.2.2.1 hlink hO (G.2.2.2.1 _ ck_52) ((hK.2 0 (Z 0, .int) rfl).2) hK (by rw [e0]; exact X.1) (by rw [e0]; exact X.2.1) X.2.2 G.2.2.2.2.2.2.2 (nI_pos (by omega)) (nI_pos (by omega)) (nI_clamp (by omega)) (nI_clamp (by omega)) (by omega) (by show k * 4 ≤ 536870912; omega) (by omega) rfl rfl hcells hslots (fun cA => ?_) hdg (fun q r cA H1 _ _ hK1 hP hD hS => ?_)
  · show ({ cls := cA, slots := Array.replicate k (defaultValue .int), vm := .none } : Cell) = _
    rw [arrV_new]
    rfl
  · have e : cA = Z 2 := by
      have h1 := (hK1.2 5 (cA, .array .int) rfl).2
      have h2 := (hK.2 2 (Z 2, .array .int) rfl).2
      exact Option.some.inj (h1.symm.trans h2)
    subst e
    rw [zpl_up] at hP hD
    have e2 : wcat (ps ++ [[(q, .inl (Z 2, n, .inr (.inr (.inr (.inr (fun i => if i < n then some (r i) else none))))))], zrws Z r n k]) = (wcat ps ++ [(q, .inl (Z 2, n, .inr (.inr (.inr (.inr (fun i => if i < n then some (r i) else none))))))]) ++ zrws Z r n k := by
      rw [wcat_app]
      show wcat ps ++ ([_] ++ (zrws Z r n k ++ [])) = _
      rw [List.append_nil, List.append_assoc]
    refine kk q r H1 ⟨?_, ?_, hS⟩
    · rw [e2]; exact hP
    · rw [e2]; exact hD
theorem cx_newq3 {n : Nat} (hA2 : cArr E) (G : cG E p c cc s m args D Z own A) (X : wH D vwCl A s.heap H locs (wcat ps)) (hlink : (Cond.classLink own idx "AskNext$Rule").before args s = true) (hn : n ≤ 1000) (hcells : cells + 1 ≤ R.cells) (hslots : slots + n ≤ R.slots) (hdg : decode cc pc = .ok (.anewarray idx, 3)) (kk : ∀ (q : Nat) (H1 : Heap), wH D vwCl A s.heap H1 locs (wcat (ps ++ [[(q, .inl (Z 3, n, .inr (.inr (.inr (.inr (fun _ => none))))))]])) → W p l e R s m args below meth c H1 locs (cells + 1) (slots + n) Q (F0 m (pc + 3) ls (.ref q :: rest))) : W p l e R s m args below meth c H locs cells slots Q (F0 m pc ls (.int (nI n) :: rest)) := by
  have hK := G.2.2.2.2.1
  have hO := (hA2 _ _ _ G.2.2.2.2.2.2.1).2.1
  refine va_newq G.1 G.2.1 G.2.2.1 hlink hO hK X.1 X.2.1 X.2.2 G.2.2.2.2.2.2.2 (nI_pos (by omega)) (nI_clamp (by omega)) (by omega) hcells hslots hdg (fun q cA H1 hK1 hP hD hS => ?_)
  have e : cA = Z 3 := by
    obtain ⟨_, _, -, -, -, h1⟩ := (hK1.2 5 (cA, .object "AskNext$Rule") rfl).2
    obtain ⟨_, _, -, -, -, h2⟩ := (hK.2 3 (Z 3, .object "AskNext$Rule") rfl).2
    exact Option.some.inj (h1.symm.trans h2)
  subst e
  refine kk q H1 ⟨?_, ?_, hS⟩
  · rw [wcat_snoc]; exact hP
  · rw [wcat_snoc]; exact hD
theorem cx_newq4 {n : Nat} (hA2 : cArr E) (G : cG E p c cc s m args D Z own A) (X : wH D vwCl A s.heap H locs (wcat ps)) (hlink : (Cond.classLink own idx "AskNext$Row").before args s = true) (hn : n ≤ 1000) (hcells : cells + 1 ≤ R.cells) (hslots : slots + n ≤ R.slots) (hdg : decode cc pc = .ok (.anewarray idx, 3)) (kk : ∀ (q : Nat) (H1 : Heap), wH D vwCl A s.heap H1 locs (wcat (ps ++ [[(q, .inl (Z 4, n, .inr (.inr (.inr (.inr (fun _ => none))))))]])) → W p l e R s m args below meth c H1 locs (cells + 1) (slots + n) Q (F0 m (pc + 3) ls (.ref q :: rest))) : W p l e R s m args below meth c H locs cells slots Q (F0 m pc ls (.int (nI n) :: rest)) := by
  have hK := G.2.2.2.2.1
  have hO := (hA2 _ _ _ G.2.2.2.2.2.2.1).2.2
  refine va_newq G.1 G.2.1 G.2.2.1 hlink hO hK X.1 X.2.1 X.2.2 G.2.2.2.2.2.2.2 (nI_pos (by omega)) (nI_clamp (by omega)) (by omega) hcells hslots hdg (fun q cA H1 hK1 hP hD hS => ?_)
  have e : cA = Z 4 := by
    obtain ⟨_, _, -, -, -, h1⟩ := (hK1.2 5 (cA, .object "AskNext$Row") rfl).2
    obtain ⟨_, _, -, -, -, h2⟩ := (hK.2 4 (Z 4, .object "AskNext$Row") rfl).2
    exact Option.some.inj (h1.symm.trans h2)
  subst e
  refine kk q H1 ⟨?_, ?_, hS⟩
  · rw [wcat_snoc]; exact hP
  · rw [wcat_snoc]; exact hD
end CM
section CN
variable {p : Program} {l : Launch} {e : Env} {R : Room} {s : State} {m : MethodId} {args : Array Value} {below : List Frame} {meth : Method} {c : Code} {H : Heap} {locs : List Loc} {cells slots : Nat} {Q : State → Prop}
variable {cc : ByteArray} {pc : Nat} {ls : Array Slot} {rest : List Value} {D : va_G} {A : Nat → Prop} {E : (Nat → Prop) → State → Heap → Prop} {Z : Nat → ClassId} {own : String} {ps ps' : List va_W} {piece : va_W} {a : Nat} {idx : Nat}

theorem cx_n2 (G : cG E p c cc s m args D Z own A) (X : wH D vwCl A s.heap H locs (wcat ps)) (h1 : (Cond.classLink own idx RX2).before args s = true) (h2 : (Cond.instantiable RX2 18).before args s = true) (h3 : (Cond.initialized RX2).before args s = true) (hcells : cells + 1 ≤ R.cells) (hslots : slots + 18 ≤ R.slots) (hdg : decode cc pc = .ok (.new idx, 3)) (kk : ∀ (q : Nat) (H1 : Heap), wH D vwCl A s.heap H1 locs (wcat (ps ++ [[(q, .inr (2, [.int 0, .null, .null, .null, .int 0, .null, .null, .null, .int 0, .null, .null, .null, .int 0, .int 0, .null, .null, .null, .null]))]])) → W p l e R s m args below meth c H1 locs (cells + 1) (slots + 18) Q (F0 m (pc + 3) ls (.ref q :: rest))) : W p l e R s m args below meth c H locs cells slots Q (F0 m pc ls rest) := cx_new (ci := 2) (C := RX2) (T := TX2) (N := 18) (fs := [.int 0, .null, .null, .null, .int 0, .null, .null, .null, .int 0, .null, .null, .null, .int 0, .int 0, .null, .null, .null, .null]) rfl cbase_2 tyX2 tyX2_ok G X h1 h2 h3 (fun j hj => by rcases (show j = 0 ∨ j = 1 ∨ j = 2 ∨ j = 3 ∨ j = 4 ∨ j = 5 ∨ j = 6 ∨ j = 7 ∨ j = 8 ∨ j = 9 ∨ j = 10 ∨ j = 11 ∨ j = 12 ∨ j = 13 ∨ j = 14 ∨ j = 15 ∨ j = 16 ∨ j = 17 by omega) with rfl | rfl | rfl | rfl | rfl | rfl | rfl | rfl | rfl | rfl | rfl | rfl | rfl | rfl | rfl | rfl | rfl | rfl <;> rfl) hcells hslots hdg kk
theorem cx_n4 (G : cG E p c cc s m args D Z own A) (X : wH D vwCl A s.heap H locs (wcat ps)) (h1 : (Cond.classLink own idx RX4).before args s = true) (h2 : (Cond.instantiable RX4 2).before args s = true) (h3 : (Cond.initialized RX4).before args s = true) (hcells : cells + 1 ≤ R.cells) (hslots : slots + 2 ≤ R.slots) (hdg : decode cc pc = .ok (.new idx, 3)) (kk : ∀ (q : Nat) (H1 : Heap), wH D vwCl A s.heap H1 locs (wcat (ps ++ [[(q, .inr (4, [.null, .null]))]])) → W p l e R s m args below meth c H1 locs (cells + 1) (slots + 2) Q (F0 m (pc + 3) ls (.ref q :: rest))) : W p l e R s m args below meth c H locs cells slots Q (F0 m pc ls rest) := cx_new (ci := 4) (C := RX4) (T := TX4) (N := 2) (fs := [.null, .null]) rfl cbase_4 tyX4 tyX4_ok G X h1 h2 h3 (fun j hj => by rcases (show j = 0 ∨ j = 1 by omega) with rfl | rfl <;> rfl) hcells hslots hdg kk
theorem cx_n8 (G : cG E p c cc s m args D Z own A) (X : wH D vwCl A s.heap H locs (wcat ps)) (h1 : (Cond.classLink own idx RX8).before args s = true) (h2 : (Cond.instantiable RX8 2).before args s = true) (h3 : (Cond.initialized RX8).before args s = true) (hcells : cells + 1 ≤ R.cells) (hslots : slots + 2 ≤ R.slots) (hdg : decode cc pc = .ok (.new idx, 3)) (kk : ∀ (q : Nat) (H1 : Heap), wH D vwCl A s.heap H1 locs (wcat (ps ++ [[(q, .inr (8, [.null, .null]))]])) → W p l e R s m args below meth c H1 locs (cells + 1) (slots + 2) Q (F0 m (pc + 3) ls (.ref q :: rest))) : W p l e R s m args below meth c H locs cells slots Q (F0 m pc ls rest) := cx_new (ci := 8) (C := RX8) (T := TX8) (N := 2) (fs := [.null, .null]) rfl cbase_8 tyX8 tyX8_ok G X h1 h2 h3 (fun j hj => by rcases (show j = 0 ∨ j = 1 by omega) with rfl | rfl <;> rfl) hcells hslots hdg kk
theorem cx_n10 (G : cG E p c cc s m args D Z own A) (X : wH D vwCl A s.heap H locs (wcat ps)) (h1 : (Cond.classLink own idx RX10).before args s = true) (h2 : (Cond.instantiable RX10 12).before args s = true) (h3 : (Cond.initialized RX10).before args s = true) (hcells : cells + 1 ≤ R.cells) (hslots : slots + 12 ≤ R.slots) (hdg : decode cc pc = .ok (.new idx, 3)) (kk : ∀ (q : Nat) (H1 : Heap), wH D vwCl A s.heap H1 locs (wcat (ps ++ [[(q, .inr (10, [.null, .null, .null, .null, .int 0, .int 0, .int 0, .int 0, .int 0, .int 0, .int 0, .int 0]))]])) → W p l e R s m args below meth c H1 locs (cells + 1) (slots + 12) Q (F0 m (pc + 3) ls (.ref q :: rest))) : W p l e R s m args below meth c H locs cells slots Q (F0 m pc ls rest) := cx_new (ci := 10) (C := RX10) (T := TX10) (N := 12) (fs := [.null, .null, .null, .null, .int 0, .int 0, .int 0, .int 0, .int 0, .int 0, .int 0, .int 0]) rfl cbase_10 tyX10 tyX10_ok G X h1 h2 h3 (fun j hj => by rcases (show j = 0 ∨ j = 1 ∨ j = 2 ∨ j = 3 ∨ j = 4 ∨ j = 5 ∨ j = 6 ∨ j = 7 ∨ j = 8 ∨ j = 9 ∨ j = 10 ∨ j = 11 by omega) with rfl | rfl | rfl | rfl | rfl | rfl | rfl | rfl | rfl | rfl | rfl | rfl <;> rfl) hcells hslots hdg kk
theorem cx_n11 (G : cG E p c cc s m args D Z own A) (X : wH D vwCl A s.heap H locs (wcat ps)) (h1 : (Cond.classLink own idx RX11).before args s = true) (h2 : (Cond.instantiable RX11 13).before args s = true) (h3 : (Cond.initialized RX11).before args s = true) (hcells : cells + 1 ≤ R.cells) (hslots : slots + 13 ≤ R.slots) (hdg : decode cc pc = .ok (.new idx, 3)) (kk : ∀ (q : Nat) (H1 : Heap), wH D vwCl A s.heap H1 locs (wcat (ps ++ [[(q, .inr (11, [.null, .null, .null, .null, .null, .null, .null, .null, .null, .null, .null, .null, .int 0]))]])) → W p l e R s m args below meth c H1 locs (cells + 1) (slots + 13) Q (F0 m (pc + 3) ls (.ref q :: rest))) : W p l e R s m args below meth c H locs cells slots Q (F0 m pc ls rest) := cx_new (ci := 11) (C := RX11) (T := TX11) (N := 13) (fs := [.null, .null, .null, .null, .null, .null, .null, .null, .null, .null, .null, .null, .int 0]) rfl cbase_11 tyX11 tyX11_ok G X h1 h2 h3 (fun j hj => by rcases (show j = 0 ∨ j = 1 ∨ j = 2 ∨ j = 3 ∨ j = 4 ∨ j = 5 ∨ j = 6 ∨ j = 7 ∨ j = 8 ∨ j = 9 ∨ j = 10 ∨ j = 11 ∨ j = 12 by omega) with rfl | rfl | rfl | rfl | rfl | rfl | rfl | rfl | rfl | rfl | rfl | rfl | rfl <;> rfl) hcells hslots hdg kk
end CN
/-- a land that nobody told anything -/
def zτ0 : MS := (fun j => if j = 13 then 2 else 0, fun _ _ => 0)
theorem lrows_0 {Z : Nat → ClassId} {b : Nat → Nat → Nat} {j J n k : Nat} : lrows Z b zτ0 j J n k = zrws Z (b j) n k := by
  unfold lrows zrws
  apply List.map_congr_left
  intro c _
  have e : mi (zrow zτ0 J k c) = fun _ => 0 := by
    funext i
    show nI (if i < k then 0 else 0) = 0
    split <;> rfl
  rw [e]
theorem landP_0 {Z : Nat → ClassId} {o : Nat} {a : Nat → Nat} {b : Nat → Nat → Nat} : wcat [[(o, Sum.inr (2, landObj a zτ0.1))], [(a 1, .inl (Z 0, 16, .inl (fun _ => 0)))], [(a 2, .inl (Z 0, 16, .inl (fun _ => 0)))], [(a 3, .inl (Z 0, 16, .inl (fun _ => 0)))], [(a 5, .inl (Z 0, 5, .inl (fun _ => 0)))], [(a 6, .inl (Z 0, 5, .inl (fun _ => 0)))], [(a 7, .inl (Z 0, 5, .inl (fun _ => 0)))], [(a 9, .inl (Z 0, 6, .inl (fun _ => 0)))], [(a 10, .inl (Z 0, 6, .inl (fun _ => 0)))], [(a 16, .inl (Z 0, 8, .inl (fun _ => 0)))], [(a 11, loutr Z b 11 8)], [(a 14, loutr Z b 14 5)], [(a 15, loutr Z b 15 5)], [(a 17, loutr Z b 17 48)], zrws Z (b 11) 8 6, zrws Z (b 14) 5 8, zrws Z (b 15) 5 8, zrws Z (b 17) 48 5] = landP Z (o, a, b) zτ0 := by
  have e : ∀ n J, mi (zcl n (zτ0.2 J)) = fun _ => 0 := fun n J => by
    show mi (zcl n (fun _ => 0)) = _
    rw [zcl_0, mi_0]
  unfold landP
  rw [e, e, e, e, e, e, e, e, e, lrows_0, lrows_0, lrows_0, lrows_0]
  simp only [wcat, List.append_nil]
  rfl
theorem wsel2 {ps qs rest : List va_W} (ix : List Nat) (n : Nat) (hn : ps.length = n) (h : ix.isPerm (List.range n) = true) (e : ix.map (fun i => ps.getD i []) = qs ++ rest) : (wcat ps).Perm (wcat qs ++ wcat rest) := wsel ix (by rw [hn]; exact h) e
theorem wback2 {ps qs rest : List va_W} (ix : List Nat) (n : Nat) (hn : ps.length = n) (h : ix.isPerm (List.range n) = true) (e : ix.map (fun i => ps.getD i []) = qs ++ rest) : (wcat qs ++ wcat rest).Perm (wcat ps) := (wsel2 ix n hn h e).symm
def laA (q1 q2 q3 q5 q6 q7 q9 q10 q11 q14 q15 q16 q17 : Nat) : Nat → Nat := fun j => if j = 1 then q1 else if j = 2 then q2 else if j = 3 then q3 else if j = 5 then q5 else if j = 6 then q6 else if j = 7 then q7 else if j = 9 then q9 else if j = 10 then q10 else if j = 11 then q11 else if j = 14 then q14 else if j = 15 then q15 else if j = 16 then q16 else q17
def laR (r11 r14 r15 r17 : Nat → Nat) : Nat → Nat → Nat := fun j => if j = 11 then r11 else if j = 14 then r14 else if j = 15 then r15 else r17
theorem landP_1 {Z : Nat → ClassId} {o q1 q2 q3 q5 q6 q7 q9 q10 q11 q14 q15 q16 q17 : Nat} {r11 r14 r15 r17 : Nat → Nat} : wcat [[(o, Sum.inr (2, [.int (nI 0), .ref q1, .ref q2, .ref q3, .int (nI 0), .ref q5, .ref q6, .ref q7, .int (nI 0), .ref q9, .ref q10, .ref q11, .int (nI 0), .int (nI 2), .ref q14, .ref q15, .ref q16, .ref q17]))], [(q1, Sum.inl (Z 0, 16, Sum.inl (fun _ => 0)))], [(q2, Sum.inl (Z 0, 16, Sum.inl (fun _ => 0)))], [(q3, Sum.inl (Z 0, 16, Sum.inl (fun _ => 0)))], [(q5, Sum.inl (Z 0, 5, Sum.inl (fun _ => 0)))], [(q6, Sum.inl (Z 0, 5, Sum.inl (fun _ => 0)))], [(q7, Sum.inl (Z 0, 5, Sum.inl (fun _ => 0)))], [(q9, Sum.inl (Z 0, 6, Sum.inl (fun _ => 0)))], [(q10, Sum.inl (Z 0, 6, Sum.inl (fun _ => 0)))], [(q16, Sum.inl (Z 0, 8, Sum.inl (fun _ => 0)))], [(q11, Sum.inl (Z 2, 8, Sum.inr (Sum.inr (Sum.inr (Sum.inr (fun i => if i < 8 then some (r11 i) else none))))))], [(q14, Sum.inl (Z 2, 5, Sum.inr (Sum.inr (Sum.inr (Sum.inr (fun i => if i < 5 then some (r14 i) else none))))))], [(q15, Sum.inl (Z 2, 5, Sum.inr (Sum.inr (Sum.inr (Sum.inr (fun i => if i < 5 then some (r15 i) else none))))))], [(q17, Sum.inl (Z 2, 48, Sum.inr (Sum.inr (Sum.inr (Sum.inr (fun i => if i < 48 then some (r17 i) else none))))))], zrws Z r11 8 6, zrws Z r14 5 8, zrws Z r15 5 8, zrws Z r17 48 5] = wcat [landP Z (o, laA q1 q2 q3 q5 q6 q7 q9 q10 q11 q14 q15 q16 q17, laR r11 r14 r15 r17) zτ0] := by
  rw [wcat_one, ← landP_0]
  rfl
theorem wkP_0 {Z : Nat → ClassId} {o : Nat × Nat × Nat × Nat} {ru : Nat} : wkP Z o ru 0 0 4294967295 0 0 0 0 0 (fun _ => 0) = [(o.1, .inr (10, [.ref o.2.1, .ref o.2.2.1, .ref o.2.2.2, .ref ru, .int 0, .int 0, .int (nI 4294967295), .int 0, .int 0, .int 0, .int 0, .int 0])), (o.2.2.2, .inl (Z 0, 5, .inl (fun _ => 0)))] := by
  unfold wkP
  rw [zcl_0, mi_0]
  rfl
theorem shR_0 {b : Nat → Nat} {k : Nat} (hk : k ≠ 0) : shR b (fun _ => 0) k = fun _ => none := funext fun j => shR_n (fun e => hk e.symm)
theorem anP_0 {Z : Nat → ClassId} {o : Nat × Nat × Nat} {x0 x1 x2 x3 x4 x5 x6 x7 x8 x9 : Nat} {b : Nat → Nat} : anP Z o x0 x1 x2 x3 x4 x5 x6 x7 x8 x9 0 b (fun _ => 0) = [(o.1, .inr (11, [.ref x0, .ref x1, .ref x2, .ref x3, .ref x4, .ref x5, .ref x6, .ref x7, .ref x8, .ref x9, .ref o.2.1, .ref o.2.2, .int (nI 0)])), (o.2.1, .inl (Z 3, 8, .inr (.inr (.inr (.inr (fun _ => none)))))), (o.2.2, .inl (Z 4, 8, .inr (.inr (.inr (.inr (fun _ => none))))))] := by
  unfold anP
  rw [shR_0 (by decide), shR_0 (by decide)]
