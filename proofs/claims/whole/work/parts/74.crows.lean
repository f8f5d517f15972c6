section CR
variable {p : Program} {l : Launch} {e : Env} {R : Room} {s : State} {m : MethodId} {args : Array Value} {below : List Frame} {meth : Method} {c : Code} {H : Heap} {locs : List Loc} {cells slots : Nat} {Q : State → Prop}
variable {cc : ByteArray} {pc : Nat} {ls : Array Slot} {rest : List Value} {D : va_G} {A : Nat → Prop} {E : (Nat → Prop) → State → Heap → Prop} {Z : Nat → ClassId} {own : String} {ps ps' : List va_W} {piece : va_W} {a : Nat} {idx : Nat}

theorem cr_get {ci : Nat} {C C' : String} {T : u_T} {N : Nat} (hc : vwCl[ci]? = some (C, T, N)) (hin : ∀ w ∈ u_ws C T N, w ∈ cW) (G : cG E p c cc s m args D Z own A) (X : wH D vwCl A s.heap H locs (wcat ps)) (i k : Nat) {fs : List Value} (hp : ps[i]? = some piece) (hq : piece[k]? = some (a, .inr (ci, fs))) (j : Nat) (hj : j < N) (hlink : (Cond.fieldLink own idx C' (T j).2.1 (T j).2.2.1).before args s = true) (hs : (T j).1 = C') {v : Value} (hv : fs[j]? = some v) (hdg : decode cc pc = .ok (.getfield idx, 3)) (kk : W p l e R s m args below meth c H locs cells slots Q (F0 m (pc + 3) ls (v :: rest))) : W p l e R s m args below meth c H locs cells slots Q (F0 m pc ls (.ref a :: rest)) := va_get G.1 G.2.1 G.2.2.2.1 hin G.2.2.1 G.2.2.2.2.1 X.1 (wpos ps i + k) (wcat_at hp hq) hc j hj hlink (fun x h => by rw [hs] at h; exact h) hv hdg kk
theorem cr_put {ci : Nat} {C C' : String} {T : u_T} {N : Nat} (hc : vwCl[ci]? = some (C, T, N)) (hin : ∀ w ∈ u_ws C T N, w ∈ cW) (ty0 : Nat → FieldType) (hty : ∀ k, k < N → parseFieldDescriptor (T k).2.2.1 = some (ty0 k)) (hnm : ∀ a, a < N → ∀ b, b < N → a ≠ b → (T a).2.1 ≠ (T b).2.1) (G : cG E p c cc s m args D Z own A) (X : wH D vwCl A s.heap H locs (wcat ps)) (i k : Nat) {fs : List Value} (hp : ps[i]? = some piece) (hq : piece[k]? = some (a, .inr (ci, fs))) (j : Nat) (hj : j < N) (hlink : (Cond.fieldLink own idx C' (T j).2.1 (T j).2.2.1).before args s = true) (hs : (T j).1 = C') (hfin : (T j).2.2.2 = false) {v : Value} {ty : FieldType} (hd : parseFieldDescriptor (T j).2.2.1 = some ty) (hn : narrow ty v = v) (hfit : fits ty v = true) (hl : j < fs.length) (hset : ps.set i (piece.set k (a, .inr (ci, fs.set j v))) = ps') (hdg : decode cc pc = .ok (.putfield idx, 3)) (kk : ∀ (H1 : Heap) (locs1 : List Loc), wH D vwCl A s.heap H1 locs1 (wcat ps') → W p l e R s m args below meth c H1 locs1 cells slots Q (F0 m (pc + 3) ls rest)) : W p l e R s m args below meth c H locs cells slots Q (F0 m pc ls (v :: .ref a :: rest)) := by
  refine va_put G.1 G.2.1 G.2.2.2.1 hin ty0 hty hnm G.2.2.1 G.2.2.2.2.1 X.1 X.2.1 X.2.2 (wpos ps i + k) (wcat_at hp hq) hc j hj hlink (fun x h => by rw [hs] at h; exact h) hfin hd hn hfit hl hdg (fun H1 locs1 hP hD hS => ?_)
  rw [wcat_set hp hq, hset] at hP hD
  exact kk H1 locs1 ⟨hP, hD, hS⟩
theorem cr_iald (G : cG E p c cc s m args D Z own A) (X : wH D vwCl A s.heap H locs (wcat ps)) (i k : Nat) {n : Nat} {g : Nat → Nat} (hp : ps[i]? = some piece) (hq : piece[k]? = some (a, .inl (Z 0, n, .inl (mi g)))) {j : Nat} (hj : j < n) (hn : n < 2147483648) (hdg : decode cc pc = .ok (.iaload, 1)) (kk : W p l e R s m args below meth c H locs cells slots Q (F0 m (pc + 1) ls (.int (nI (g j)) :: rest))) : W p l e R s m args below meth c H locs cells slots Q (F0 m pc ls (.int (nI j) :: .ref a :: rest)) := by
  refine va_iald G.1 G.2.1 G.2.2.2.2.1 X.1 (wpos ps i + k) 0 (wcat_at hp hq) rfl (vp_in_nI hj hn) hdg ?_
  rw [nI_clamp (by omega)]
  exact kk
theorem cr_ialdr (G : cG E p c cc s m args D Z own A) (X : wH D vwCl A s.heap H locs (wcat ps)) (i k : Nat) {n : Nat} {g : Nat → Int32} (hp : ps[i]? = some piece) (hq : piece[k]? = some (a, .inl (Z 0, n, .inl g))) {j : Nat} (hj : j < n) (hn : n < 2147483648) (hdg : decode cc pc = .ok (.iaload, 1)) (kk : W p l e R s m args below meth c H locs cells slots Q (F0 m (pc + 1) ls (.int (g j) :: rest))) : W p l e R s m args below meth c H locs cells slots Q (F0 m pc ls (.int (nI j) :: .ref a :: rest)) := by
  refine va_iald G.1 G.2.1 G.2.2.2.2.1 X.1 (wpos ps i + k) 0 (wcat_at hp hq) rfl (vp_in_nI hj hn) hdg ?_
  rw [nI_clamp (by omega)]
  exact kk
theorem cr_lald (G : cG E p c cc s m args D Z own A) (X : wH D vwCl A s.heap H locs (wcat ps)) (i k : Nat) {n : Nat} {g : Nat → Nat} (hp : ps[i]? = some piece) (hq : piece[k]? = some (a, .inl (Z 1, n, .inr (.inl (mj g))))) {j : Nat} (hj : j < n) (hn : n < 2147483648) (hdg : decode cc pc = .ok (.laload, 1)) (kk : W p l e R s m args below meth c H locs cells slots Q (F0 m (pc + 1) ls (.long (lN (g j)) :: rest))) : W p l e R s m args below meth c H locs cells slots Q (F0 m pc ls (.int (nI j) :: .ref a :: rest)) := by
  refine va_lald G.1 G.2.1 G.2.2.2.2.1 X.1 (wpos ps i + k) 1 (wcat_at hp hq) rfl (vp_in_nI hj hn) hdg ?_
  rw [nI_clamp (by omega)]
  exact kk
theorem cr_iast (G : cG E p c cc s m args D Z own A) (X : wH D vwCl A s.heap H locs (wcat ps)) (i k : Nat) {n : Nat} {g : Nat → Nat} (hp : ps[i]? = some piece) (hq : piece[k]? = some (a, .inl (Z 0, n, .inl (mi g)))) {j v : Nat} (hj : j < n) (hn : n < 2147483648) (hset : ps.set i (piece.set k (a, .inl (Z 0, n, .inl (mi (fun b => if b = j then v else g b))))) = ps') (hdg : decode cc pc = .ok (.iastore, 1)) (kk : ∀ (H1 : Heap) (locs1 : List Loc), wH D vwCl A s.heap H1 locs1 (wcat ps') → W p l e R s m args below meth c H1 locs1 cells slots Q (F0 m (pc + 1) ls rest)) : W p l e R s m args below meth c H locs cells slots Q (F0 m pc ls (.int (nI v) :: .int (nI j) :: .ref a :: rest)) := by
  refine va_iast G.1 G.2.1 G.2.2.2.2.1 X.1 X.2.1 X.2.2 (wpos ps i + k) 0 (wcat_at hp hq) rfl (vp_in_nI hj hn) hdg (fun H1 locs1 hP hD hS => ?_)
  rw [nI_clamp (by omega), mi_up, wcat_set hp hq, hset] at hP hD
  exact kk H1 locs1 ⟨hP, hD, hS⟩
theorem cr_iastr (G : cG E p c cc s m args D Z own A) (X : wH D vwCl A s.heap H locs (wcat ps)) (i k : Nat) {n : Nat} {g : Nat → Int32} (hp : ps[i]? = some piece) (hq : piece[k]? = some (a, .inl (Z 0, n, .inl g))) {j : Nat} {v : Int32} (hj : j < n) (hn : n < 2147483648) (hset : ps.set i (piece.set k (a, .inl (Z 0, n, .inl (upd g j v)))) = ps') (hdg : decode cc pc = .ok (.iastore, 1)) (kk : ∀ (H1 : Heap) (locs1 : List Loc), wH D vwCl A s.heap H1 locs1 (wcat ps') → W p l e R s m args below meth c H1 locs1 cells slots Q (F0 m (pc + 1) ls rest)) : W p l e R s m args below meth c H locs cells slots Q (F0 m pc ls (.int v :: .int (nI j) :: .ref a :: rest)) := by
  refine va_iast G.1 G.2.1 G.2.2.2.2.1 X.1 X.2.1 X.2.2 (wpos ps i + k) 0 (wcat_at hp hq) rfl (vp_in_nI hj hn) hdg (fun H1 locs1 hP hD hS => ?_)
  rw [nI_clamp (by omega), wcat_set hp hq, hset] at hP hD
  exact kk H1 locs1 ⟨hP, hD, hS⟩
theorem cr_last (G : cG E p c cc s m args D Z own A) (X : wH D vwCl A s.heap H locs (wcat ps)) (i k : Nat) {n : Nat} {g : Nat → Nat} (hp : ps[i]? = some piece) (hq : piece[k]? = some (a, .inl (Z 1, n, .inr (.inl (mj g))))) {j v : Nat} (hj : j < n) (hn : n < 2147483648) (hset : ps.set i (piece.set k (a, .inl (Z 1, n, .inr (.inl (mj (fun b => if b = j then v else g b)))))) = ps') (hdg : decode cc pc = .ok (.lastore, 1)) (kk : ∀ (H1 : Heap) (locs1 : List Loc), wH D vwCl A s.heap H1 locs1 (wcat ps') → W p l e R s m args below meth c H1 locs1 cells slots Q (F0 m (pc + 1) ls rest)) : W p l e R s m args below meth c H locs cells slots Q (F0 m pc ls (.long (lN v) :: .int (nI j) :: .ref a :: rest)) := by
  refine va_last G.1 G.2.1 G.2.2.2.2.1 X.1 X.2.1 X.2.2 (wpos ps i + k) 1 (wcat_at hp hq) rfl (vp_in_nI hj hn) hdg (fun H1 locs1 hP hD hS => ?_)
  rw [nI_clamp (by omega), mj_up, wcat_set hp hq, hset] at hP hD
  exact kk H1 locs1 ⟨hP, hD, hS⟩
/-- a row of an array of int arrays -/
theorem cr_aald (G : cG E p c cc s m args D Z own A) (X : wH D vwCl A s.heap H locs (wcat ps)) (i k : Nat) {n : Nat} {f : Nat → Option Nat} (hp : ps[i]? = some piece) (hq : piece[k]? = some (a, .inl (Z 2, n, .inr (.inr (.inr (.inr f)))))) {j b : Nat} (hj : j < n) (hn : n < 2147483648) (hf : f j = some b) (hdg : decode cc pc = .ok (.aaload, 1)) (kk : W p l e R s m args below meth c H locs cells slots Q (F0 m (pc + 1) ls (.ref b :: rest))) : W p l e R s m args below meth c H locs cells slots Q (F0 m pc ls (.int (nI j) :: .ref a :: rest)) := by
  have hP := X.1
  have hin : vp_in (nI j) n := vp_in_nI hj hn
  have hlt : (nI j).toNatClampNeg < n := Nat.not_le.mp fun q => hin (Or.inr q)
  refine W.aald (v := va_rf (f (nI j).toNatClampNeg)) (ty := .array .int) G.1 G.2.1 (hP _ _ (wcat_at hp hq)) ((G.2.2.2.2.1.2 2 (Z 2, .array .int) rfl).1 n (fun j => va_rf (f j))) rfl (fun q => by cases q) (by show ¬ (nI j < 0 ∨ (arrV _ _ _).slots.size ≤ _); rw [arrV_size]; exact hin) (by show (arrV _ _ _).slots[_]? = _; rw [arrV_read _ _ hlt]) rfl rfl hdg ?_
  rw [nI_clamp (by omega), hf]
  exact kk
/-- a place of the rules, of the rows -/
theorem cr_aaldq (t0 : Nat) {C : String} (ht : ∀ Z : Nat → ClassId, (cT Z)[t0]? = some (Z t0, .object C)) (G : cG E p c cc s m args D Z own A) (X : wH D vwCl A s.heap H locs (wcat ps)) (i k : Nat) {n : Nat} {f : Nat → Option Nat} (hp : ps[i]? = some piece) (hq : piece[k]? = some (a, .inl (Z t0, n, .inr (.inr (.inr (.inr f)))))) {j : Nat} (hj : j < n) (hn : n < 2147483648) (hdg : decode cc pc = .ok (.aaload, 1)) (kk : W p l e R s m args below meth c H locs cells slots Q (F0 m (pc + 1) ls (va_rf (f j) :: rest))) : W p l e R s m args below meth c H locs cells slots Q (F0 m pc ls (.int (nI j) :: .ref a :: rest)) := by
  refine va_aldq G.1 G.2.1 G.2.2.2.2.1 X.1 (wpos ps i + k) t0 (wcat_at hp hq) (ht Z) (vp_in_nI hj hn) hdg ?_
  rw [nI_clamp (by omega)]
  exact kk
theorem cr_alen (t0 : Nat) (G : cG E p c cc s m args D Z own A) (X : wH D vwCl A s.heap H locs (wcat ps)) (i k : Nat) {x : vp_A} {ty : FieldType} (ht : (cT Z)[t0]? = some (Z t0, ty)) (hp : ps[i]? = some piece) (hq : piece[k]? = some (a, .inl (Z t0, x))) (hdg : decode cc pc = .ok (.arraylength, 1)) (kk : W p l e R s m args below meth c H locs cells slots Q (F0 m (pc + 1) ls (.int (nI x.1) :: rest))) : W p l e R s m args below meth c H locs cells slots Q (F0 m pc ls (.ref a :: rest)) := va_alen G.1 G.2.1 G.2.2.2.2.1 X.1 (wpos ps i + k) t0 (wcat_at hp hq) ht (v := nI x.1) rfl hdg kk
theorem wx_eq {w w' : va_W} (h : w = w') (X : wH D vwCl A s.heap H locs w) : wH D vwCl A s.heap H locs w' := h ▸ X
end CR
/-! THE PIECES -/
def zrow (τ : MS) (J n c : Nat) : Nat → Nat := fun i => if i < n then τ.2 J (n * c + i) else 0
def zcl (n : Nat) (f : Nat → Nat) : Nat → Nat := fun i => if i < n then f i else 0
theorem zcl_in {n i : Nat} {f : Nat → Nat} (h : i < n) : zcl n f i = f i := if_pos h
theorem zcl_up {n i v : Nat} {f : Nat → Nat} (h : i < n) : (fun b => if b = i then v else zcl n f b) = zcl n (fun b => if b = i then v else f b) := by
  funext b
  unfold zcl
  by_cases hb : b = i
  · rw [if_pos hb, if_pos (show b < n by omega)]
    exact (if_pos hb).symm
  · rw [if_neg hb]
    by_cases h2 : b < n
    · rw [if_pos h2, if_pos h2]
      exact (if_neg hb).symm
    · rw [if_neg h2, if_neg h2]
theorem zcl_cong {n : Nat} {f g : Nat → Nat} (h : ∀ i, i < n → f i = g i) : zcl n f = zcl n g := by
  funext b
  unfold zcl
  split
  · exact h b (by assumption)
  · rfl
theorem zrow_in {τ : MS} {J n c i : Nat} (h : i < n) : zrow τ J n c i = τ.2 J (n * c + i) := if_pos h
abbrev LA : Type := Nat × (Nat → Nat) × (Nat → Nat → Nat)
def lrows (Z : Nat → ClassId) (b : Nat → Nat → Nat) (τ : MS) (j J n k : Nat) : va_W := (List.range n).map (fun c => (b j c, .inl (Z 0, k, .inl (mi (zrow τ J k c)))))
def loutr (Z : Nat → ClassId) (b : Nat → Nat → Nat) (j n : Nat) : va_E := .inl (Z 2, n, .inr (.inr (.inr (.inr (fun c => if c < n then some (b j c) else none)))))
def landObj (a f : Nat → Nat) : List Value := [.int (nI (f 0)), .ref (a 1), .ref (a 2), .ref (a 3), .int (nI (f 4)), .ref (a 5), .ref (a 6), .ref (a 7), .int (nI (f 8)), .ref (a 9), .ref (a 10), .ref (a 11), .int (nI (f 12)), .int (nI (f 13)), .ref (a 14), .ref (a 15), .ref (a 16), .ref (a 17)]
/-- a land's cells: its state by the model's slots; ways 27, next roads 60, pleasing 61, odds 62 -/
def landP (Z : Nat → ClassId) (L : LA) (τ : MS) : va_W := (L.1, .inr (2, landObj L.2.1 τ.1)) :: (L.2.1 1, .inl (Z 0, 16, .inl (mi (zcl 16 (τ.2 1))))) :: (L.2.1 2, .inl (Z 0, 16, .inl (mi (zcl 16 (τ.2 2))))) :: (L.2.1 3, .inl (Z 0, 16, .inl (mi (zcl 16 (τ.2 3))))) :: (L.2.1 5, .inl (Z 0, 5, .inl (mi (zcl 5 (τ.2 5))))) :: (L.2.1 6, .inl (Z 0, 5, .inl (mi (zcl 5 (τ.2 6))))) :: (L.2.1 7, .inl (Z 0, 5, .inl (mi (zcl 5 (τ.2 7))))) :: (L.2.1 9, .inl (Z 0, 6, .inl (mi (zcl 6 (τ.2 9))))) :: (L.2.1 10, .inl (Z 0, 6, .inl (mi (zcl 6 (τ.2 10))))) :: (L.2.1 16, .inl (Z 0, 8, .inl (mi (zcl 8 (τ.2 61))))) :: (L.2.1 11, loutr Z L.2.2 11 8) :: (L.2.1 14, loutr Z L.2.2 14 5) :: (L.2.1 15, loutr Z L.2.2 15 5) :: (L.2.1 17, loutr Z L.2.2 17 48) :: (lrows Z L.2.2 τ 11 11 8 6 ++ (lrows Z L.2.2 τ 14 27 5 8 ++ (lrows Z L.2.2 τ 15 60 5 8 ++ lrows Z L.2.2 τ 17 62 48 5)))
theorem lrows_at {Z : Nat → ClassId} {b : Nat → Nat → Nat} {τ : MS} {j J n k c : Nat} (h : c < n) : (lrows Z b τ j J n k)[c]? = some (b j c, .inl (Z 0, k, .inl (mi (zrow τ J k c)))) := by
  unfold lrows
  rw [List.getElem?_map, List.getElem?_range h]
  rfl
theorem lrows_len {Z : Nat → ClassId} {b : Nat → Nat → Nat} {τ : MS} {j J n k : Nat} : (lrows Z b τ j J n k).length = n := by unfold lrows; rw [List.length_map, List.length_range]
theorem lrows_ne {Z : Nat → ClassId} {b : Nat → Nat → Nat} {τ : MS} {j J J' i v n k : Nat} (h : J ≠ J') : lrows Z b (sE τ J' i v) j J n k = lrows Z b τ j J n k := by
  unfold lrows zrow
  have e : (sE τ J' i v).2 J = τ.2 J := if_neg h
  rw [e]
theorem lrows_set {Z : Nat → ClassId} {b : Nat → Nat → Nat} {τ : MS} {j J n k c i v : Nat} (hc : c < n) (hi : i < k) : (lrows Z b τ j J n k).set c (b j c, .inl (Z 0, k, .inl (mi (fun x => if x = i then v else zrow τ J k c x)))) = lrows Z b (sE τ J (k * c + i) v) j J n k := by
  apply List.ext_getElem?
  intro d
  rw [List.getElem?_set]
  by_cases hd : d < n
  · rw [lrows_at hd, lrows_at hd, lrows_len]
    have e0 : ∀ x, (sE τ J (k * c + i) v).2 J x = if x = k * c + i then v else τ.2 J x := fun x => by
      show (if J = J then (fun a => if a = k * c + i then v else τ.2 J a) else τ.2 J) x = _
      rw [if_pos rfl]
    by_cases e : c = d
    · subst e
      rw [if_pos rfl, if_pos hc]
      have : (fun x => if x = i then v else zrow τ J k c x) = zrow (sE τ J (k * c + i) v) J k c := by
        funext x
        unfold zrow
        rw [e0]
        by_cases hx : x < k
        · rw [if_pos hx, if_pos hx]
          by_cases hxi : x = i
          · rw [if_pos hxi, if_pos (by omega)]
          · rw [if_neg hxi, if_neg (by omega)]
        · rw [if_neg hx, if_neg hx, if_neg (by omega)]
      rw [this]
    · rw [if_neg e]
      have : zrow (sE τ J (k * c + i) v) J k d = zrow τ J k d := by
        funext x
        unfold zrow
        rw [e0]
        by_cases hx : x < k
        · rw [if_pos hx, if_pos hx, if_neg]
          intro h
          rcases Nat.lt_or_ge c d with g | g
          · have : k * (c + 1) ≤ k * d := Nat.mul_le_mul_left k g
            rw [Nat.mul_succ] at this
            omega
          · have : k * (d + 1) ≤ k * c := Nat.mul_le_mul_left k (by omega)
            rw [Nat.mul_succ] at this
            omega
        · rw [if_neg hx, if_neg hx]
      rw [this]
  · rw [List.getElem?_eq_none (by rw [lrows_len]; omega), List.getElem?_eq_none (by rw [lrows_len]; omega), if_neg (by omega)]
theorem landP_s1 {Z : Nat → ClassId} {L : LA} {τ : MS} {i v : Nat} (h : i < 16) : (landP Z L τ).set 1 (L.2.1 1, .inl (Z 0, 16, .inl (mi (fun b => if b = i then v else zcl 16 (τ.2 1) b)))) = landP Z L (sE τ 1 i v) := by
  rw [zcl_up h]
  rfl
theorem landP_s2 {Z : Nat → ClassId} {L : LA} {τ : MS} {i v : Nat} (h : i < 16) : (landP Z L τ).set 2 (L.2.1 2, .inl (Z 0, 16, .inl (mi (fun b => if b = i then v else zcl 16 (τ.2 2) b)))) = landP Z L (sE τ 2 i v) := by
  rw [zcl_up h]
  rfl
theorem landP_s3 {Z : Nat → ClassId} {L : LA} {τ : MS} {i v : Nat} (h : i < 16) : (landP Z L τ).set 3 (L.2.1 3, .inl (Z 0, 16, .inl (mi (fun b => if b = i then v else zcl 16 (τ.2 3) b)))) = landP Z L (sE τ 3 i v) := by
  rw [zcl_up h]
  rfl
theorem landP_s5 {Z : Nat → ClassId} {L : LA} {τ : MS} {i v : Nat} (h : i < 5) : (landP Z L τ).set 4 (L.2.1 5, .inl (Z 0, 5, .inl (mi (fun b => if b = i then v else zcl 5 (τ.2 5) b)))) = landP Z L (sE τ 5 i v) := by
  rw [zcl_up h]
  rfl
theorem landP_s6 {Z : Nat → ClassId} {L : LA} {τ : MS} {i v : Nat} (h : i < 5) : (landP Z L τ).set 5 (L.2.1 6, .inl (Z 0, 5, .inl (mi (fun b => if b = i then v else zcl 5 (τ.2 6) b)))) = landP Z L (sE τ 6 i v) := by
  rw [zcl_up h]
  rfl
theorem landP_s7 {Z : Nat → ClassId} {L : LA} {τ : MS} {i v : Nat} (h : i < 5) : (landP Z L τ).set 6 (L.2.1 7, .inl (Z 0, 5, .inl (mi (fun b => if b = i then v else zcl 5 (τ.2 7) b)))) = landP Z L (sE τ 7 i v) := by
  rw [zcl_up h]
  rfl
theorem landP_s9 {Z : Nat → ClassId} {L : LA} {τ : MS} {i v : Nat} (h : i < 6) : (landP Z L τ).set 7 (L.2.1 9, .inl (Z 0, 6, .inl (mi (fun b => if b = i then v else zcl 6 (τ.2 9) b)))) = landP Z L (sE τ 9 i v) := by
  rw [zcl_up h]
  rfl
theorem landP_s10 {Z : Nat → ClassId} {L : LA} {τ : MS} {i v : Nat} (h : i < 6) : (landP Z L τ).set 8 (L.2.1 10, .inl (Z 0, 6, .inl (mi (fun b => if b = i then v else zcl 6 (τ.2 10) b)))) = landP Z L (sE τ 10 i v) := by
  rw [zcl_up h]
  rfl
theorem landP_s16 {Z : Nat → ClassId} {L : LA} {τ : MS} {i v : Nat} (h : i < 8) : (landP Z L τ).set 9 (L.2.1 16, .inl (Z 0, 8, .inl (mi (fun b => if b = i then v else zcl 8 (τ.2 61) b)))) = landP Z L (sE τ 61 i v) := by
  rw [zcl_up h]
  rfl
theorem landP_r11 {Z : Nat → ClassId} {L : LA} {τ : MS} {c : Nat} (h : c < 8) : (landP Z L τ)[c + 14]? = some (L.2.2 11 c, .inl (Z 0, 6, .inl (mi (zrow τ 11 6 c)))) := by
  show (lrows Z L.2.2 τ 11 11 8 6 ++ (lrows Z L.2.2 τ 14 27 5 8 ++ (lrows Z L.2.2 τ 15 60 5 8 ++ lrows Z L.2.2 τ 17 62 48 5)))[c + 0]? = _
  rw [List.getElem?_append_left (by rw [lrows_len]; omega)]
  exact lrows_at h
theorem landP_rs11 {Z : Nat → ClassId} {L : LA} {τ : MS} {c i v : Nat} (h : c < 8) (hi : i < 6) : (landP Z L τ).set (c + 14) (L.2.2 11 c, .inl (Z 0, 6, .inl (mi (fun x => if x = i then v else zrow τ 11 6 c x)))) = landP Z L (sE τ 11 (6 * c + i) v) := by
  have key : (lrows Z L.2.2 τ 11 11 8 6 ++ (lrows Z L.2.2 τ 14 27 5 8 ++ (lrows Z L.2.2 τ 15 60 5 8 ++ lrows Z L.2.2 τ 17 62 48 5))).set (c + 0) (L.2.2 11 c, .inl (Z 0, 6, .inl (mi (fun x => if x = i then v else zrow τ 11 6 c x)))) = (lrows Z L.2.2 (sE τ 11 (6 * c + i) v) 11 11 8 6 ++ (lrows Z L.2.2 (sE τ 11 (6 * c + i) v) 14 27 5 8 ++ (lrows Z L.2.2 (sE τ 11 (6 * c + i) v) 15 60 5 8 ++ lrows Z L.2.2 (sE τ 11 (6 * c + i) v) 17 62 48 5))) := by
    rw [List.set_append_left _ _ (by rw [lrows_len]; omega)]
    rw [show c + 0 = c from rfl, lrows_set h hi]
    rw [lrows_ne (J := 27) (J' := 11) (by decide)]
    rw [lrows_ne (J := 60) (J' := 11) (by decide)]
    rw [lrows_ne (J := 62) (J' := 11) (by decide)]
  unfold landP at *
  exact congrArg (fun r => (L.1, Sum.inr (2, landObj L.2.1 τ.1)) :: (L.2.1 1, .inl (Z 0, 16, .inl (mi (zcl 16 (τ.2 1))))) :: (L.2.1 2, .inl (Z 0, 16, .inl (mi (zcl 16 (τ.2 2))))) :: (L.2.1 3, .inl (Z 0, 16, .inl (mi (zcl 16 (τ.2 3))))) :: (L.2.1 5, .inl (Z 0, 5, .inl (mi (zcl 5 (τ.2 5))))) :: (L.2.1 6, .inl (Z 0, 5, .inl (mi (zcl 5 (τ.2 6))))) :: (L.2.1 7, .inl (Z 0, 5, .inl (mi (zcl 5 (τ.2 7))))) :: (L.2.1 9, .inl (Z 0, 6, .inl (mi (zcl 6 (τ.2 9))))) :: (L.2.1 10, .inl (Z 0, 6, .inl (mi (zcl 6 (τ.2 10))))) :: (L.2.1 16, .inl (Z 0, 8, .inl (mi (zcl 8 (τ.2 61))))) :: (L.2.1 11, loutr Z L.2.2 11 8) :: (L.2.1 14, loutr Z L.2.2 14 5) :: (L.2.1 15, loutr Z L.2.2 15 5) :: (L.2.1 17, loutr Z L.2.2 17 48) :: r) key
theorem landP_r14 {Z : Nat → ClassId} {L : LA} {τ : MS} {c : Nat} (h : c < 5) : (landP Z L τ)[c + 22]? = some (L.2.2 14 c, .inl (Z 0, 8, .inl (mi (zrow τ 27 8 c)))) := by
  show (lrows Z L.2.2 τ 11 11 8 6 ++ (lrows Z L.2.2 τ 14 27 5 8 ++ (lrows Z L.2.2 τ 15 60 5 8 ++ lrows Z L.2.2 τ 17 62 48 5)))[c + 8]? = _
  rw [List.getElem?_append_right (by rw [lrows_len]; omega), lrows_len, show c + 8 - 8 = c + 0 by omega]
  rw [List.getElem?_append_left (by rw [lrows_len]; omega)]
  exact lrows_at h
theorem landP_rs14 {Z : Nat → ClassId} {L : LA} {τ : MS} {c i v : Nat} (h : c < 5) (hi : i < 8) : (landP Z L τ).set (c + 22) (L.2.2 14 c, .inl (Z 0, 8, .inl (mi (fun x => if x = i then v else zrow τ 27 8 c x)))) = landP Z L (sE τ 27 (8 * c + i) v) := by
  have key : (lrows Z L.2.2 τ 11 11 8 6 ++ (lrows Z L.2.2 τ 14 27 5 8 ++ (lrows Z L.2.2 τ 15 60 5 8 ++ lrows Z L.2.2 τ 17 62 48 5))).set (c + 8) (L.2.2 14 c, .inl (Z 0, 8, .inl (mi (fun x => if x = i then v else zrow τ 27 8 c x)))) = (lrows Z L.2.2 (sE τ 27 (8 * c + i) v) 11 11 8 6 ++ (lrows Z L.2.2 (sE τ 27 (8 * c + i) v) 14 27 5 8 ++ (lrows Z L.2.2 (sE τ 27 (8 * c + i) v) 15 60 5 8 ++ lrows Z L.2.2 (sE τ 27 (8 * c + i) v) 17 62 48 5))) := by
    rw [List.set_append_right _ _ (by rw [lrows_len]; omega), lrows_len, show c + 8 - 8 = c + 0 by omega]
    rw [List.set_append_left _ _ (by rw [lrows_len]; omega)]
    rw [show c + 0 = c from rfl, lrows_set h hi]
    rw [lrows_ne (J := 11) (J' := 27) (by decide)]
    rw [lrows_ne (J := 60) (J' := 27) (by decide)]
    rw [lrows_ne (J := 62) (J' := 27) (by decide)]
  unfold landP at *
  exact congrArg (fun r => (L.1, Sum.inr (2, landObj L.2.1 τ.1)) :: (L.2.1 1, .inl (Z 0, 16, .inl (mi (zcl 16 (τ.2 1))))) :: (L.2.1 2, .inl (Z 0, 16, .inl (mi (zcl 16 (τ.2 2))))) :: (L.2.1 3, .inl (Z 0, 16, .inl (mi (zcl 16 (τ.2 3))))) :: (L.2.1 5, .inl (Z 0, 5, .inl (mi (zcl 5 (τ.2 5))))) :: (L.2.1 6, .inl (Z 0, 5, .inl (mi (zcl 5 (τ.2 6))))) :: (L.2.1 7, .inl (Z 0, 5, .inl (mi (zcl 5 (τ.2 7))))) :: (L.2.1 9, .inl (Z 0, 6, .inl (mi (zcl 6 (τ.2 9))))) :: (L.2.1 10, .inl (Z 0, 6, .inl (mi (zcl 6 (τ.2 10))))) :: (L.2.1 16, .inl (Z 0, 8, .inl (mi (zcl 8 (τ.2 61))))) :: (L.2.1 11, loutr Z L.2.2 11 8) :: (L.2.1 14, loutr Z L.2.2 14 5) :: (L.2.1 15, loutr Z L.2.2 15 5) :: (L.2.1 17, loutr Z L.2.2 17 48) :: r) key
theorem landP_r15 {Z : Nat → ClassId} {L : LA} {τ : MS} {c : Nat} (h : c < 5) : (landP Z L τ)[c + 27]? = some (L.2.2 15 c, .inl (Z 0, 8, .inl (mi (zrow τ 60 8 c)))) := by
  show (lrows Z L.2.2 τ 11 11 8 6 ++ (lrows Z L.2.2 τ 14 27 5 8 ++ (lrows Z L.2.2 τ 15 60 5 8 ++ lrows Z L.2.2 τ 17 62 48 5)))[c + 13]? = _
  rw [List.getElem?_append_right (by rw [lrows_len]; omega), lrows_len, show c + 13 - 8 = c + 5 by omega]
  rw [List.getElem?_append_right (by rw [lrows_len]; omega), lrows_len, show c + 5 - 5 = c + 0 by omega]
  rw [List.getElem?_append_left (by rw [lrows_len]; omega)]
  exact lrows_at h
theorem landP_rs15 {Z : Nat → ClassId} {L : LA} {τ : MS} {c i v : Nat} (h : c < 5) (hi : i < 8) : (landP Z L τ).set (c + 27) (L.2.2 15 c, .inl (Z 0, 8, .inl (mi (fun x => if x = i then v else zrow τ 60 8 c x)))) = landP Z L (sE τ 60 (8 * c + i) v) := by
  have key : (lrows Z L.2.2 τ 11 11 8 6 ++ (lrows Z L.2.2 τ 14 27 5 8 ++ (lrows Z L.2.2 τ 15 60 5 8 ++ lrows Z L.2.2 τ 17 62 48 5))).set (c + 13) (L.2.2 15 c, .inl (Z 0, 8, .inl (mi (fun x => if x = i then v else zrow τ 60 8 c x)))) = (lrows Z L.2.2 (sE τ 60 (8 * c + i) v) 11 11 8 6 ++ (lrows Z L.2.2 (sE τ 60 (8 * c + i) v) 14 27 5 8 ++ (lrows Z L.2.2 (sE τ 60 (8 * c + i) v) 15 60 5 8 ++ lrows Z L.2.2 (sE τ 60 (8 * c + i) v) 17 62 48 5))) := by
    rw [List.set_append_right _ _ (by rw [lrows_len]; omega), lrows_len, show c + 13 - 8 = c + 5 by omega]
    rw [List.set_append_right _ _ (by rw [lrows_len]; omega), lrows_len, show c + 5 - 5 = c + 0 by omega]
    rw [List.set_append_left _ _ (by rw [lrows_len]; omega)]
    rw [show c + 0 = c from rfl, lrows_set h hi]
    rw [lrows_ne (J := 11) (J' := 60) (by decide)]
    rw [lrows_ne (J := 27) (J' := 60) (by decide)]
    rw [lrows_ne (J := 62) (J' := 60) (by decide)]
  unfold landP at *
  exact congrArg (fun r => (L.1, Sum.inr (2, landObj L.2.1 τ.1)) :: (L.2.1 1, .inl (Z 0, 16, .inl (mi (zcl 16 (τ.2 1))))) :: (L.2.1 2, .inl (Z 0, 16, .inl (mi (zcl 16 (τ.2 2))))) :: (L.2.1 3, .inl (Z 0, 16, .inl (mi (zcl 16 (τ.2 3))))) :: (L.2.1 5, .inl (Z 0, 5, .inl (mi (zcl 5 (τ.2 5))))) :: (L.2.1 6, .inl (Z 0, 5, .inl (mi (zcl 5 (τ.2 6))))) :: (L.2.1 7, .inl (Z 0, 5, .inl (mi (zcl 5 (τ.2 7))))) :: (L.2.1 9, .inl (Z 0, 6, .inl (mi (zcl 6 (τ.2 9))))) :: (L.2.1 10, .inl (Z 0, 6, .inl (mi (zcl 6 (τ.2 10))))) :: (L.2.1 16, .inl (Z 0, 8, .inl (mi (zcl 8 (τ.2 61))))) :: (L.2.1 11, loutr Z L.2.2 11 8) :: (L.2.1 14, loutr Z L.2.2 14 5) :: (L.2.1 15, loutr Z L.2.2 15 5) :: (L.2.1 17, loutr Z L.2.2 17 48) :: r) key
theorem landP_r17 {Z : Nat → ClassId} {L : LA} {τ : MS} {c : Nat} (h : c < 48) : (landP Z L τ)[c + 32]? = some (L.2.2 17 c, .inl (Z 0, 5, .inl (mi (zrow τ 62 5 c)))) := by
  show (lrows Z L.2.2 τ 11 11 8 6 ++ (lrows Z L.2.2 τ 14 27 5 8 ++ (lrows Z L.2.2 τ 15 60 5 8 ++ lrows Z L.2.2 τ 17 62 48 5)))[c + 18]? = _
  rw [List.getElem?_append_right (by rw [lrows_len]; omega), lrows_len, show c + 18 - 8 = c + 10 by omega]
  rw [List.getElem?_append_right (by rw [lrows_len]; omega), lrows_len, show c + 10 - 5 = c + 5 by omega]
  rw [List.getElem?_append_right (by rw [lrows_len]; omega), lrows_len, show c + 5 - 5 = c + 0 by omega]
  exact lrows_at h
theorem landP_rs17 {Z : Nat → ClassId} {L : LA} {τ : MS} {c i v : Nat} (h : c < 48) (hi : i < 5) : (landP Z L τ).set (c + 32) (L.2.2 17 c, .inl (Z 0, 5, .inl (mi (fun x => if x = i then v else zrow τ 62 5 c x)))) = landP Z L (sE τ 62 (5 * c + i) v) := by
  have key : (lrows Z L.2.2 τ 11 11 8 6 ++ (lrows Z L.2.2 τ 14 27 5 8 ++ (lrows Z L.2.2 τ 15 60 5 8 ++ lrows Z L.2.2 τ 17 62 48 5))).set (c + 18) (L.2.2 17 c, .inl (Z 0, 5, .inl (mi (fun x => if x = i then v else zrow τ 62 5 c x)))) = (lrows Z L.2.2 (sE τ 62 (5 * c + i) v) 11 11 8 6 ++ (lrows Z L.2.2 (sE τ 62 (5 * c + i) v) 14 27 5 8 ++ (lrows Z L.2.2 (sE τ 62 (5 * c + i) v) 15 60 5 8 ++ lrows Z L.2.2 (sE τ 62 (5 * c + i) v) 17 62 48 5))) := by
    rw [List.set_append_right _ _ (by rw [lrows_len]; omega), lrows_len, show c + 18 - 8 = c + 10 by omega]
    rw [List.set_append_right _ _ (by rw [lrows_len]; omega), lrows_len, show c + 10 - 5 = c + 5 by omega]
    rw [List.set_append_right _ _ (by rw [lrows_len]; omega), lrows_len, show c + 5 - 5 = c + 0 by omega]
    rw [show c + 0 = c from rfl, lrows_set h hi]
    rw [lrows_ne (J := 11) (J' := 62) (by decide)]
    rw [lrows_ne (J := 27) (J' := 62) (by decide)]
    rw [lrows_ne (J := 60) (J' := 62) (by decide)]
  unfold landP at *
  exact congrArg (fun r => (L.1, Sum.inr (2, landObj L.2.1 τ.1)) :: (L.2.1 1, .inl (Z 0, 16, .inl (mi (zcl 16 (τ.2 1))))) :: (L.2.1 2, .inl (Z 0, 16, .inl (mi (zcl 16 (τ.2 2))))) :: (L.2.1 3, .inl (Z 0, 16, .inl (mi (zcl 16 (τ.2 3))))) :: (L.2.1 5, .inl (Z 0, 5, .inl (mi (zcl 5 (τ.2 5))))) :: (L.2.1 6, .inl (Z 0, 5, .inl (mi (zcl 5 (τ.2 6))))) :: (L.2.1 7, .inl (Z 0, 5, .inl (mi (zcl 5 (τ.2 7))))) :: (L.2.1 9, .inl (Z 0, 6, .inl (mi (zcl 6 (τ.2 9))))) :: (L.2.1 10, .inl (Z 0, 6, .inl (mi (zcl 6 (τ.2 10))))) :: (L.2.1 16, .inl (Z 0, 8, .inl (mi (zcl 8 (τ.2 61))))) :: (L.2.1 11, loutr Z L.2.2 11 8) :: (L.2.1 14, loutr Z L.2.2 14 5) :: (L.2.1 15, loutr Z L.2.2 15 5) :: (L.2.1 17, loutr Z L.2.2 17 48) :: r) key
def thP (Z : Nat → ClassId) (t : Nat × Nat × Nat) (F G : Nat → Nat) : va_W := [(t.1, .inr (8, [.ref t.2.1, .ref t.2.2])), (t.2.1, .inl (Z 1, 5, .inr (.inl (mj (zcl 5 F))))), (t.2.2, .inl (Z 1, 5, .inr (.inl (mj (zcl 5 G)))))]
theorem thP_s0 {Z : Nat → ClassId} {t : Nat × Nat × Nat} {F G : Nat → Nat} {i v : Nat} (h : i < 5) : (thP Z t F G).set 1 (t.2.1, .inl (Z 1, 5, .inr (.inl (mj (fun b => if b = i then v else zcl 5 F b))))) = thP Z t (fun b => if b = i then v else F b) G := by
  rw [zcl_up h]
  rfl
theorem thP_s1 {Z : Nat → ClassId} {t : Nat × Nat × Nat} {F G : Nat → Nat} {i v : Nat} (h : i < 5) : (thP Z t F G).set 2 (t.2.2, .inl (Z 1, 5, .inr (.inl (mj (fun b => if b = i then v else zcl 5 G b))))) = thP Z t F (fun b => if b = i then v else G b) := by
  rw [zcl_up h]
  rfl
theorem thP_cong {Z : Nat → ClassId} {t : Nat × Nat × Nat} {F F' G G' : Nat → Nat} (h : ∀ i, i < 5 → F i = F' i) (h2 : ∀ i, i < 5 → G i = G' i) : thP Z t F G = thP Z t F' G' := by
  unfold thP
  rw [zcl_cong h, zcl_cong h2]
/-- a walker: o, its land's, its mind's, its votes' addresses; its rule's; world z post at minutes renewed asked gone; votes -/
def wkP (Z : Nat → ClassId) (o : Nat × Nat × Nat × Nat) (ru w z po pl mn re as go : Nat) (v : Nat → Nat) : va_W := [(o.1, .inr (10, [.ref o.2.1, .ref o.2.2.1, .ref o.2.2.2, .ref ru, .int (nI w), .int (nI z), .int (nI po), .int (nI pl), .int (nI mn), .int (nI re), .int (nI as), .int (nI go)])), (o.2.2.2, .inl (Z 0, 5, .inl (mi (zcl 5 v))))]
theorem wkP_s {Z : Nat → ClassId} {o : Nat × Nat × Nat × Nat} {ru w z po pl mn re as go : Nat} {g : Nat → Nat} {i v : Nat} (h : i < 5) : (wkP Z o ru w z po pl mn re as go g).set 1 (o.2.2.2, .inl (Z 0, 5, .inl (mi (fun b => if b = i then v else zcl 5 g b)))) = wkP Z o ru w z po pl mn re as go (fun b => if b = i then v else g b) := by
  rw [zcl_up h]
  rfl
/-- a rule of kind k -/
def ciR (k : Nat) : Nat := if k = 1 then 1 else if k = 2 then 3 else if k = 3 then 7 else if k = 4 then 0 else if k = 5 then 9 else 6
def ruP (o k f : Nat) : va_W := [(o, .inr (ciR k, [.int (nI f)]))]
def roP (Z : Nat → ClassId) (r : Nat × Nat) (t n : Nat) (g : Nat → Int32) : va_W := [(r.1, .inr (5, [.int (nI t), .ref r.2])), (r.2, .inl (Z 0, n, .inl g))]
/-- a reader: o, its bytes' row, what was told -/
def rdP (Z : Nat → ClassId) (o : Nat × Nat) (by' : Nat) (g : Nat → Nat) : va_W := [(o.1, .inr (4, [.ref by', .ref o.2])), (o.2, .inl (Z 0, 3, .inl (mi (zcl 3 g))))]
theorem rdP_s {Z : Nat → ClassId} {o : Nat × Nat} {by' : Nat} {g : Nat → Nat} {i v : Nat} (h : i < 3) : (rdP Z o by' g).set 1 (o.2, .inl (Z 0, 3, .inl (mi (fun b => if b = i then v else zcl 3 g b)))) = rdP Z o by' (fun b => if b = i then v else g b) := by
  rw [zcl_up h]
  rfl
section CS
variable {p : Program} {l : Launch} {e : Env} {R : Room} {s : State} {m : MethodId} {args : Array Value} {below : List Frame} {meth : Method} {c : Code} {H : Heap} {locs : List Loc} {cells slots : Nat} {Q : State → Prop}
variable {cc : ByteArray} {pc : Nat} {ls : Array Slot} {rest : List Value} {D : va_G} {A : Nat → Prop} {E : (Nat → Prop) → State → Heap → Prop} {Z : Nat → ClassId} {own : String} {ps ps' : List va_W} {piece : va_W} {a : Nat} {idx : Nat}

theorem cg_2 (G : cG E p c cc s m args D Z own A) (X : wH D vwCl A s.heap H locs (wcat ps)) (i k : Nat) {fs : List Value} (hp : ps[i]? = some piece) (hq : piece[k]? = some (a, .inr (2, fs))) (j : Nat) (hj : j < 18) {C' : String} (hlink : (Cond.fieldLink own idx C' (TX2 j).2.1 (TX2 j).2.2.1).before args s = true) (hs : (TX2 j).1 = C') {v : Value} (hv : fs[j]? = some v) (hdg : decode cc pc = .ok (.getfield idx, 3)) (kk : W p l e R s m args below meth c H locs cells slots Q (F0 m (pc + 3) ls (v :: rest))) : W p l e R s m args below meth c H locs cells slots Q (F0 m pc ls (.ref a :: rest)) := cr_get (ci := 2) (C := RX2) (T := TX2) (N := 18) rfl cbase_2 G X i k hp hq j hj hlink hs hv hdg kk
theorem cp_2 (G : cG E p c cc s m args D Z own A) (X : wH D vwCl A s.heap H locs (wcat ps)) (i k : Nat) {fs : List Value} (hp : ps[i]? = some piece) (hq : piece[k]? = some (a, .inr (2, fs))) (j : Nat) (hj : j < 18) {C' : String} (hlink : (Cond.fieldLink own idx C' (TX2 j).2.1 (TX2 j).2.2.1).before args s = true) (hs : (TX2 j).1 = C') (hfin : (TX2 j).2.2.2 = false) {v : Value} {ty : FieldType} (hd : parseFieldDescriptor (TX2 j).2.2.1 = some ty) (hn : narrow ty v = v) (hfit : fits ty v = true) (hl : j < fs.length) (hset : ps.set i (piece.set k (a, .inr (2, fs.set j v))) = ps') (hdg : decode cc pc = .ok (.putfield idx, 3)) (kk : ∀ (H1 : Heap) (locs1 : List Loc), wH D vwCl A s.heap H1 locs1 (wcat ps') → W p l e R s m args below meth c H1 locs1 cells slots Q (F0 m (pc + 3) ls rest)) : W p l e R s m args below meth c H locs cells slots Q (F0 m pc ls (v :: .ref a :: rest)) := cr_put (ci := 2) (C := RX2) (T := TX2) (N := 18) rfl cbase_2 tyX2 tyX2_ok nmX2 G X i k hp hq j hj hlink hs hfin hd hn hfit hl hset hdg kk
theorem cg_4 (G : cG E p c cc s m args D Z own A) (X : wH D vwCl A s.heap H locs (wcat ps)) (i k : Nat) {fs : List Value} (hp : ps[i]? = some piece) (hq : piece[k]? = some (a, .inr (4, fs))) (j : Nat) (hj : j < 2) {C' : String} (hlink : (Cond.fieldLink own idx C' (TX4 j).2.1 (TX4 j).2.2.1).before args s = true) (hs : (TX4 j).1 = C') {v : Value} (hv : fs[j]? = some v) (hdg : decode cc pc = .ok (.getfield idx, 3)) (kk : W p l e R s m args below meth c H locs cells slots Q (F0 m (pc + 3) ls (v :: rest))) : W p l e R s m args below meth c H locs cells slots Q (F0 m pc ls (.ref a :: rest)) := cr_get (ci := 4) (C := RX4) (T := TX4) (N := 2) rfl cbase_4 G X i k hp hq j hj hlink hs hv hdg kk
theorem cp_4 (G : cG E p c cc s m args D Z own A) (X : wH D vwCl A s.heap H locs (wcat ps)) (i k : Nat) {fs : List Value} (hp : ps[i]? = some piece) (hq : piece[k]? = some (a, .inr (4, fs))) (j : Nat) (hj : j < 2) {C' : String} (hlink : (Cond.fieldLink own idx C' (TX4 j).2.1 (TX4 j).2.2.1).before args s = true) (hs : (TX4 j).1 = C') (hfin : (TX4 j).2.2.2 = false) {v : Value} {ty : FieldType} (hd : parseFieldDescriptor (TX4 j).2.2.1 = some ty) (hn : narrow ty v = v) (hfit : fits ty v = true) (hl : j < fs.length) (hset : ps.set i (piece.set k (a, .inr (4, fs.set j v))) = ps') (hdg : decode cc pc = .ok (.putfield idx, 3)) (kk : ∀ (H1 : Heap) (locs1 : List Loc), wH D vwCl A s.heap H1 locs1 (wcat ps') → W p l e R s m args below meth c H1 locs1 cells slots Q (F0 m (pc + 3) ls rest)) : W p l e R s m args below meth c H locs cells slots Q (F0 m pc ls (v :: .ref a :: rest)) := cr_put (ci := 4) (C := RX4) (T := TX4) (N := 2) rfl cbase_4 tyX4 tyX4_ok nmX4 G X i k hp hq j hj hlink hs hfin hd hn hfit hl hset hdg kk
theorem cg_5 (G : cG E p c cc s m args D Z own A) (X : wH D vwCl A s.heap H locs (wcat ps)) (i k : Nat) {fs : List Value} (hp : ps[i]? = some piece) (hq : piece[k]? = some (a, .inr (5, fs))) (j : Nat) (hj : j < 2) {C' : String} (hlink : (Cond.fieldLink own idx C' (TX5 j).2.1 (TX5 j).2.2.1).before args s = true) (hs : (TX5 j).1 = C') {v : Value} (hv : fs[j]? = some v) (hdg : decode cc pc = .ok (.getfield idx, 3)) (kk : W p l e R s m args below meth c H locs cells slots Q (F0 m (pc + 3) ls (v :: rest))) : W p l e R s m args below meth c H locs cells slots Q (F0 m pc ls (.ref a :: rest)) := cr_get (ci := 5) (C := RX5) (T := TX5) (N := 2) rfl cbase_5 G X i k hp hq j hj hlink hs hv hdg kk
theorem cp_5 (G : cG E p c cc s m args D Z own A) (X : wH D vwCl A s.heap H locs (wcat ps)) (i k : Nat) {fs : List Value} (hp : ps[i]? = some piece) (hq : piece[k]? = some (a, .inr (5, fs))) (j : Nat) (hj : j < 2) {C' : String} (hlink : (Cond.fieldLink own idx C' (TX5 j).2.1 (TX5 j).2.2.1).before args s = true) (hs : (TX5 j).1 = C') (hfin : (TX5 j).2.2.2 = false) {v : Value} {ty : FieldType} (hd : parseFieldDescriptor (TX5 j).2.2.1 = some ty) (hn : narrow ty v = v) (hfit : fits ty v = true) (hl : j < fs.length) (hset : ps.set i (piece.set k (a, .inr (5, fs.set j v))) = ps') (hdg : decode cc pc = .ok (.putfield idx, 3)) (kk : ∀ (H1 : Heap) (locs1 : List Loc), wH D vwCl A s.heap H1 locs1 (wcat ps') → W p l e R s m args below meth c H1 locs1 cells slots Q (F0 m (pc + 3) ls rest)) : W p l e R s m args below meth c H locs cells slots Q (F0 m pc ls (v :: .ref a :: rest)) := cr_put (ci := 5) (C := RX5) (T := TX5) (N := 2) rfl cbase_5 tyX5 tyX5_ok nmX5 G X i k hp hq j hj hlink hs hfin hd hn hfit hl hset hdg kk
theorem cg_8 (G : cG E p c cc s m args D Z own A) (X : wH D vwCl A s.heap H locs (wcat ps)) (i k : Nat) {fs : List Value} (hp : ps[i]? = some piece) (hq : piece[k]? = some (a, .inr (8, fs))) (j : Nat) (hj : j < 2) {C' : String} (hlink : (Cond.fieldLink own idx C' (TX8 j).2.1 (TX8 j).2.2.1).before args s = true) (hs : (TX8 j).1 = C') {v : Value} (hv : fs[j]? = some v) (hdg : decode cc pc = .ok (.getfield idx, 3)) (kk : W p l e R s m args below meth c H locs cells slots Q (F0 m (pc + 3) ls (v :: rest))) : W p l e R s m args below meth c H locs cells slots Q (F0 m pc ls (.ref a :: rest)) := cr_get (ci := 8) (C := RX8) (T := TX8) (N := 2) rfl cbase_8 G X i k hp hq j hj hlink hs hv hdg kk
theorem cp_8 (G : cG E p c cc s m args D Z own A) (X : wH D vwCl A s.heap H locs (wcat ps)) (i k : Nat) {fs : List Value} (hp : ps[i]? = some piece) (hq : piece[k]? = some (a, .inr (8, fs))) (j : Nat) (hj : j < 2) {C' : String} (hlink : (Cond.fieldLink own idx C' (TX8 j).2.1 (TX8 j).2.2.1).before args s = true) (hs : (TX8 j).1 = C') (hfin : (TX8 j).2.2.2 = false) {v : Value} {ty : FieldType} (hd : parseFieldDescriptor (TX8 j).2.2.1 = some ty) (hn : narrow ty v = v) (hfit : fits ty v = true) (hl : j < fs.length) (hset : ps.set i (piece.set k (a, .inr (8, fs.set j v))) = ps') (hdg : decode cc pc = .ok (.putfield idx, 3)) (kk : ∀ (H1 : Heap) (locs1 : List Loc), wH D vwCl A s.heap H1 locs1 (wcat ps') → W p l e R s m args below meth c H1 locs1 cells slots Q (F0 m (pc + 3) ls rest)) : W p l e R s m args below meth c H locs cells slots Q (F0 m pc ls (v :: .ref a :: rest)) := cr_put (ci := 8) (C := RX8) (T := TX8) (N := 2) rfl cbase_8 tyX8 tyX8_ok nmX8 G X i k hp hq j hj hlink hs hfin hd hn hfit hl hset hdg kk
theorem cg_10 (G : cG E p c cc s m args D Z own A) (X : wH D vwCl A s.heap H locs (wcat ps)) (i k : Nat) {fs : List Value} (hp : ps[i]? = some piece) (hq : piece[k]? = some (a, .inr (10, fs))) (j : Nat) (hj : j < 12) {C' : String} (hlink : (Cond.fieldLink own idx C' (TX10 j).2.1 (TX10 j).2.2.1).before args s = true) (hs : (TX10 j).1 = C') {v : Value} (hv : fs[j]? = some v) (hdg : decode cc pc = .ok (.getfield idx, 3)) (kk : W p l e R s m args below meth c H locs cells slots Q (F0 m (pc + 3) ls (v :: rest))) : W p l e R s m args below meth c H locs cells slots Q (F0 m pc ls (.ref a :: rest)) := cr_get (ci := 10) (C := RX10) (T := TX10) (N := 12) rfl cbase_10 G X i k hp hq j hj hlink hs hv hdg kk
theorem cp_10 (G : cG E p c cc s m args D Z own A) (X : wH D vwCl A s.heap H locs (wcat ps)) (i k : Nat) {fs : List Value} (hp : ps[i]? = some piece) (hq : piece[k]? = some (a, .inr (10, fs))) (j : Nat) (hj : j < 12) {C' : String} (hlink : (Cond.fieldLink own idx C' (TX10 j).2.1 (TX10 j).2.2.1).before args s = true) (hs : (TX10 j).1 = C') (hfin : (TX10 j).2.2.2 = false) {v : Value} {ty : FieldType} (hd : parseFieldDescriptor (TX10 j).2.2.1 = some ty) (hn : narrow ty v = v) (hfit : fits ty v = true) (hl : j < fs.length) (hset : ps.set i (piece.set k (a, .inr (10, fs.set j v))) = ps') (hdg : decode cc pc = .ok (.putfield idx, 3)) (kk : ∀ (H1 : Heap) (locs1 : List Loc), wH D vwCl A s.heap H1 locs1 (wcat ps') → W p l e R s m args below meth c H1 locs1 cells slots Q (F0 m (pc + 3) ls rest)) : W p l e R s m args below meth c H locs cells slots Q (F0 m pc ls (v :: .ref a :: rest)) := cr_put (ci := 10) (C := RX10) (T := TX10) (N := 12) rfl cbase_10 tyX10 tyX10_ok nmX10 G X i k hp hq j hj hlink hs hfin hd hn hfit hl hset hdg kk
theorem cg_11 (G : cG E p c cc s m args D Z own A) (X : wH D vwCl A s.heap H locs (wcat ps)) (i k : Nat) {fs : List Value} (hp : ps[i]? = some piece) (hq : piece[k]? = some (a, .inr (11, fs))) (j : Nat) (hj : j < 13) {C' : String} (hlink : (Cond.fieldLink own idx C' (TX11 j).2.1 (TX11 j).2.2.1).before args s = true) (hs : (TX11 j).1 = C') {v : Value} (hv : fs[j]? = some v) (hdg : decode cc pc = .ok (.getfield idx, 3)) (kk : W p l e R s m args below meth c H locs cells slots Q (F0 m (pc + 3) ls (v :: rest))) : W p l e R s m args below meth c H locs cells slots Q (F0 m pc ls (.ref a :: rest)) := cr_get (ci := 11) (C := RX11) (T := TX11) (N := 13) rfl cbase_11 G X i k hp hq j hj hlink hs hv hdg kk
theorem cp_11 (G : cG E p c cc s m args D Z own A) (X : wH D vwCl A s.heap H locs (wcat ps)) (i k : Nat) {fs : List Value} (hp : ps[i]? = some piece) (hq : piece[k]? = some (a, .inr (11, fs))) (j : Nat) (hj : j < 13) {C' : String} (hlink : (Cond.fieldLink own idx C' (TX11 j).2.1 (TX11 j).2.2.1).before args s = true) (hs : (TX11 j).1 = C') (hfin : (TX11 j).2.2.2 = false) {v : Value} {ty : FieldType} (hd : parseFieldDescriptor (TX11 j).2.2.1 = some ty) (hn : narrow ty v = v) (hfit : fits ty v = true) (hl : j < fs.length) (hset : ps.set i (piece.set k (a, .inr (11, fs.set j v))) = ps') (hdg : decode cc pc = .ok (.putfield idx, 3)) (kk : ∀ (H1 : Heap) (locs1 : List Loc), wH D vwCl A s.heap H1 locs1 (wcat ps') → W p l e R s m args below meth c H1 locs1 cells slots Q (F0 m (pc + 3) ls rest)) : W p l e R s m args below meth c H locs cells slots Q (F0 m pc ls (v :: .ref a :: rest)) := cr_put (ci := 11) (C := RX11) (T := TX11) (N := 13) rfl cbase_11 tyX11 tyX11_ok nmX11 G X i k hp hq j hj hlink hs hfin hd hn hfit hl hset hdg kk
end CS
section CF
variable {p : Program} {l : Launch} {e : Env} {R : Room} {s : State} {m : MethodId} {args : Array Value} {below : List Frame} {meth : Method} {c : Code} {H : Heap} {locs : List Loc} {cells slots : Nat} {Q : State → Prop}
variable {cc : ByteArray} {pc : Nat} {ls : Array Slot} {rest : List Value} {D : va_G} {A : Nat → Prop} {E : (Nat → Prop) → State → Heap → Prop} {Z : Nat → ClassId} {own : String} {ps ps' : List va_W} {piece : va_W} {a : Nat} {idx : Nat}

theorem cfin_I {S : Type} {r : S → Int32} {post : S → Prop} {w : va_W} {w' : S → va_W} {x : Int32} (u : S) (hu : post u) (hw : w = w' u) (hr : x = r u) (X : wH D vwCl A s.heap H locs w) (hdg : decode cc pc = .ok (.ireturn, 1)) (fin : ∀ (pc : Nat) (H : Heap) (locs : List Loc) (ls : Array Slot) (u : S), post u → wH D vwCl A s.heap H locs (w' u) → decode cc pc = .ok (.ireturn, 1) → W p l e R s m args below meth c H locs cells slots Q (F0 m pc ls [.int (r u)])) : W p l e R s m args below meth c H locs cells slots Q (F0 m pc ls [.int x]) := by
  subst hw
  subst hr
  exact fin _ _ _ _ u hu X hdg
theorem cfin_L {S : Type} {r : S → Int64} {post : S → Prop} {w : va_W} {w' : S → va_W} {x : Int64} (u : S) (hu : post u) (hw : w = w' u) (hr : x = r u) (X : wH D vwCl A s.heap H locs w) (hdg : decode cc pc = .ok (.lreturn, 1)) (fin : ∀ (pc : Nat) (H : Heap) (locs : List Loc) (ls : Array Slot) (u : S), post u → wH D vwCl A s.heap H locs (w' u) → decode cc pc = .ok (.lreturn, 1) → W p l e R s m args below meth c H locs cells slots Q (F0 m pc ls [.long (r u)])) : W p l e R s m args below meth c H locs cells slots Q (F0 m pc ls [.long x]) := by
  subst hw
  subst hr
  exact fin _ _ _ _ u hu X hdg
theorem cfin_V {S : Type} {post : S → Prop} {w : va_W} {w' : S → va_W} (u : S) (hu : post u) (hw : w = w' u) (X : wH D vwCl A s.heap H locs w) (hdg : decode cc pc = .ok (.return_, 1)) (fin : ∀ (pc : Nat) (H : Heap) (locs : List Loc) (ls : Array Slot) (u : S), post u → wH D vwCl A s.heap H locs (w' u) → decode cc pc = .ok (.return_, 1) → W p l e R s m args below meth c H locs cells slots Q (F0 m pc ls [])) : W p l e R s m args below meth c H locs cells slots Q (F0 m pc ls []) := by
  subst hw
  exact fin _ _ _ _ u hu X hdg
end CF
theorem zir_n {a n : Nat} (ha : a < 2147483648) : zir (nI a) n ↔ a < n := by
  show (0 ≤ (nI a).toInt ∧ (nI a).toInt < (n : Int)) ↔ _
  rw [zi_of ha]
  omega
theorem zir_of {x : Int32} {n : Nat} (hn : n ≤ 2147483647) (h : zir x n) : ∃ j : Nat, j < n ∧ x = nI j := zi_in hn h
theorem zir_m1 {n : Nat} : ¬ zir (nI 4294967295) n := by
  show ¬ (0 ≤ (nI 4294967295).toInt ∧ _)
  rw [zneg (by omega) (by omega)]
  omega
