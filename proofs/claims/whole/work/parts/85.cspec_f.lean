theorem wkP_cong {Z : Nat → ClassId} {o : Nat × Nat × Nat × Nat} {ru w z po pl mn re as go : Nat} {v v' : Nat → Nat} (h : ∀ i, i < 5 → v i = v' i) : wkP Z o ru w z po pl mn re as go v = wkP Z o ru w z po pl mn re as go v' := by
  unfold wkP
  rw [zcl_cong h]
theorem zmost_is {v : Nat → Nat} : ∀ {n : Nat}, 0 < n → n < 1000 → zmost v n = if 0 < v (zbest v n) then zbest v n else 4294967295
  | 0, h, _ => absurd h (Nat.lt_irrefl 0)
  | 1, _, _ => by
    show (if (if (4294967295 : Nat) = 4294967295 then 0 else v 4294967295) < v 0 then 0 else 4294967295) = _
    rw [if_pos rfl, zbest_1]
  | n + 2, _, hb => by
    have ih := zmost_is (v := v) (n := n + 1) (by omega) (by omega)
    have hz := zbest_lt v (n + 1) (by omega)
    have e : (if zmost v (n + 1) = 4294967295 then 0 else v (zmost v (n + 1))) = v (zbest v (n + 1)) := by
      rw [ih]
      by_cases h : 0 < v (zbest v (n + 1))
      · rw [if_pos h, if_neg (by omega)]
      · rw [if_neg h, if_pos rfl]; omega
    have ez : zbest v (n + 2) = if v (zbest v (n + 1)) < v (n + 1) then n + 1 else zbest v (n + 1) := rfl
    rw [zmost, e, ez]
    by_cases h : v (zbest v (n + 1)) < v (n + 1)
    · rw [if_pos h, if_pos h, if_pos (by omega)]
    · rw [if_neg h, if_neg h, ih]
theorem zvotes_out {τ : MS} {z c w : Nat} (hw : w < τ.1 4) {o : Nat} (h1 : τ.1 4 ≤ o) (h2 : o < 5) : ∀ k, zvotes τ z c w k o = 0
  | 0 => rfl
  | k + 1 => by
    show (if o = zans τ (zsd z (k + 1)) c w then zvotes τ z c w k o + 1 else zvotes τ z c w k o) = 0
    have := zans_lt (σ := τ) (z := zsd z (k + 1)) (c := c) hw
    rw [if_neg (by omega), zvotes_out hw h1 h2 k]
theorem zvotes_n {τ : MS} {z c w k : Nat} (h : ¬ zans τ (znx (zsd z k)) c w < 5) (i : Nat) (hi : i < 5) : zvotes τ z c w k i = zvotes τ z c w (k + 1) i := by
  show _ = (if i = zans τ (znx (zsd z k)) c w then zvotes τ z c w k i + 1 else zvotes τ z c w k i)
  rw [if_neg (by omega)]
theorem zvotes_y {τ : MS} {z c w k : Nat} (i : Nat) : (fun b => if b = zans τ (znx (zsd z k)) c w then zvotes τ z c w k (zans τ (znx (zsd z k)) c w) + 1 else zvotes τ z c w k b) i = zvotes τ z c w (k + 1) i := by
  show (if i = zans τ (znx (zsd z k)) c w then zvotes τ z c w k (zans τ (znx (zsd z k)) c w) + 1 else zvotes τ z c w k i) = (if i = zans τ (znx (zsd z k)) c w then zvotes τ z c w k i + 1 else zvotes τ z c w k i)
  by_cases h : i = zans τ (znx (zsd z k)) c w
  · rw [if_pos h, if_pos h, ← h]
  · rw [if_neg h, if_neg h]
theorem zmost_0 {v : Nat → Nat} (h : ∀ o, v o = 0) : ∀ n, zmost v n = 4294967295
  | 0 => rfl
  | n + 1 => by rw [zmost, zmost_0 h n, if_pos rfl, h n, if_neg (Nat.lt_irrefl 0)]
theorem zmost_1 {v : Nat → Nat} {a : Nat} (h1 : v a = 1) (h0 : ∀ o, o ≠ a → v o = 0) : ∀ n, n < 1000 → zmost v n = if a < n then a else 4294967295
  | 0, _ => rfl
  | n + 1, hb => by
    rw [zmost, zmost_1 h1 h0 n (by omega)]
    by_cases h : a < n
    · rw [if_pos h, if_neg (show ¬ a = 4294967295 by omega), h1, h0 n (by omega), if_neg (by omega), if_pos (by omega)]
    · rw [if_neg h, if_pos rfl]
      by_cases e : a = n
      · rw [← e, h1, if_pos (by omega), if_pos (by omega)]
      · rw [h0 n (fun q => e q.symm), if_neg (by omega), if_neg (by omega)]
def zbeb (τ : MS) (z c w k f : Nat) : Nat := if 0 < zasks k f then zmost (zvotes τ z c w (zasks k f)) (τ.1 4) else ztw k f
theorem zbeb_lt {τ : MS} {z c w k f : Nat} (hn : τ.1 4 ≤ 5) (hf : f < 100) : zbeb τ z c w k f < 100 ∨ zbeb τ z c w k f = 4294967295 := by
  unfold zbeb
  split
  · rcases zmost_lt (zvotes τ z c w (zasks k f)) (τ.1 4) hn with h | h
    · exact Or.inl (by omega)
    · exact Or.inr h
  · unfold ztw
    split
    · exact Or.inl hf
    · exact Or.inr rfl
theorem ktold {τ : MS} {z c w k f : Nat} (hn : τ.1 4 ≤ 5) (hw : w < τ.1 4) (hk : k < 6) : ztold τ z c w k f = (if zbeb τ z c w k f < τ.1 4 then zbeb τ z c w k f else 4294967295) ∧ (zbeb τ z c w k f < τ.1 4 → k ≠ 3 ∧ k ≠ 4) := by
  have e0 : ∀ k, k ≠ 1 → k ≠ 2 → zasks k f = 0 := fun k h1 h2 => by unfold zasks; rw [if_neg h1, if_neg h2]
  have no : ∀ k, k ≠ 1 → k ≠ 2 → k ≠ 5 → zbeb τ z c w k f = 4294967295 := fun k h1 h2 h5 => by
    unfold zbeb
    rw [e0 k h1 h2, if_neg (Nat.lt_irrefl 0)]
    unfold ztw
    rw [if_neg h5]
  have none : ∀ k, k ≠ 1 → k ≠ 2 → k ≠ 5 → ztold τ z c w k f = (if zbeb τ z c w k f < τ.1 4 then zbeb τ z c w k f else 4294967295) ∧ (zbeb τ z c w k f < τ.1 4 → k ≠ 3 ∧ k ≠ 4) := fun k h1 h2 h5 => by
    rw [no k h1 h2 h5, if_neg (by omega)]
    refine ⟨?_, fun h => absurd h (by omega)⟩
    unfold ztold
    rw [if_neg h1, if_neg h2, if_neg h5]
  rcases (show k = 0 ∨ k = 1 ∨ k = 2 ∨ k = 3 ∨ k = 4 ∨ k = 5 by omega) with rfl | rfl | rfl | rfl | rfl | rfl
  · exact none 0 (by decide) (by decide) (by decide)
  · refine ⟨?_, fun _ => ⟨by decide, by decide⟩⟩
    have ha := zans_lt (σ := τ) (z := znx z) (c := c) hw
    have e : zbeb τ z c w 1 f = if zans τ (znx z) c w < τ.1 4 then zans τ (znx z) c w else 4294967295 := by
      unfold zbeb
      rw [show zasks 1 f = 1 from rfl, if_pos (by decide)]
      refine zmost_1 (a := zans τ (znx z) c w) ?_ (fun o h => ?_) _ (by omega)
      · show (if zans τ (znx z) c w = zans τ (znx z) c w then 0 + 1 else 0) = 1
        rw [if_pos rfl]
      · show (if o = zans τ (znx z) c w then 0 + 1 else 0) = 0
        rw [if_neg h]
    rw [e]
    show zans τ (znx z) c w = _
    rcases ha with h | h
    · rw [if_pos h, if_pos h]
    · have h2 : ¬ (4294967295 : Nat) < τ.1 4 := by omega
      simp [h, h2]
  · refine ⟨?_, fun _ => ⟨by decide, by decide⟩⟩
    show zmost (zvotes τ z c w f) (τ.1 4) = _
    by_cases h : 0 < f
    · have e : zbeb τ z c w 2 f = zmost (zvotes τ z c w f) (τ.1 4) := if_pos h
      rw [e]
      rcases zmost_lt (zvotes τ z c w f) (τ.1 4) hn with q | q
      · rw [if_pos q]
      · rw [q, if_neg (by omega)]
    · have e : zbeb τ z c w 2 f = 4294967295 := if_neg h
      rw [e, if_neg (by omega), show f = 0 by omega]
      exact zmost_0 (fun _ => rfl) _
  · exact none 3 (by decide) (by decide) (by decide)
  · exact none 4 (by decide) (by decide) (by decide)
  · exact ⟨rfl, fun _ => ⟨by decide, by decide⟩⟩
abbrev SB : Type := (Nat → Nat) × (Nat → Nat) × Nat × Nat × Nat × (Nat → Nat)
def kbegin (τ : MS) (yw yl k f : Nat) (F : Nat → Nat) (z mn as : Nat) (u : SB) : Prop := zM (τ.1 4) u.1 ∧ u.2.2.1 = zsd z (zasks k f) ∧ u.2.2.2.1 = mn + zasks k f * τ.1 13 ∧ u.2.2.2.2.1 = as + zasks k f ∧ ∀ j mi as go se pl an ca, zloop τ yw k f j u.1 mi as go se pl an ca = zloop τ yw k f j (zbmind τ F (ztold τ z yl yw k f)) mi as go se pl an ca
theorem kbegin_n {τ : MS} {yw yl k f : Nat} {F K v : Nat → Nat} {z mn as z' mn' as' : Nat} (hn : τ.1 4 ≤ 5) (hw : yw < τ.1 4) (hk : k < 6) (hM : zM (τ.1 4) F) (hb : ¬ zbeb τ z yl yw k f < τ.1 4) (hz : z' = zsd z (zasks k f)) (hmn : mn' = mn + zasks k f * τ.1 13) (has : as' = as + zasks k f) : kbegin τ yw yl k f F z mn as (F, K, z', mn', as', v) := by
  refine ⟨hM, hz, hmn, has, fun _ _ _ _ _ _ _ _ => ?_⟩
  rw [(ktold hn hw hk).1, if_neg hb]
  rfl
theorem kbegin_y {τ : MS} {yw yl k f b : Nat} {F K v : Nat → Nat} {z mn as z' mn' as' : Nat} (hn : τ.1 4 ≤ 5) (hw : yw < τ.1 4) (hk : k < 6) (hM : zM (τ.1 4) F) (hF0 : ∀ w, w < τ.1 4 → 0 < F w) (hb : b = zbeb τ z yl yw k f) (hlt : b < τ.1 4) (hz : z' = zsd z (zasks k f)) (hmn : mn' = mn + zasks k f * τ.1 13) (has : as' = as + zasks k f) : kbegin τ yw yl k f F z mn as (if zgall (zbelM F b) 5 = 0 then F else zset 5 (zbelM F b), K, z', mn', as', v) := by
  have hz0 : ∀ w, τ.1 4 ≤ w → w < 5 → zbelM F b w = 0 := fun w h1 h2 => by
    show (if w = b then F w else 0) = 0
    rw [if_neg (by omega)]
  have hb63 : ∀ w, w < 5 → zbelM F b w < 9223372036854775808 := fun w h => by
    have := hM.1 w h
    show (if w = b then F w else 0) < _
    split <;> omega
  have hv : 0 < zbelM F b b := by
    show 0 < (if b = b then F b else 0)
    rw [if_pos rfl]
    exact hF0 b hlt
  have h0 : ∀ w, w < 5 → w ≠ b → zbelM F b w = 0 := fun w _ h => if_neg h
  obtain ⟨e1, e2⟩ := zset_e (n := 5) (t := b) (by omega) hv h0
  have eg : ¬ zgall (zbelM F b) 5 = 0 := by rw [e1]; omega
  rw [if_neg eg]
  refine ⟨zM_set hn hb63 hz0, hz, hmn, has, fun j mi as go se pl an ca => ?_⟩
  have hr := (ktold (z := z) (c := yl) (f := f) hn hw hk).2 (hb ▸ hlt)
  rw [(ktold hn hw hk).1, ← hb, if_pos hlt]
  have e3 : zbmind τ F b = zcp (zbelM F b) F (τ.1 4) := if_neg (by omega)
  rw [e3]
  rw [zloop_cong (by omega) j (zset 5 (zbelM F b)) (fun w => if w = b then 1 else 0) mi as go se pl an ca (fun w h => e2 w (by omega))]
  rw [← zloop_sc (v := F b) (hF0 b hlt) hr (by omega)]
  refine zloop_cong (by omega) j _ _ mi as go se pl an ca (fun w h => ?_)
  rw [zcp_in h]
  show F b * (if w = b then 1 else 0) = (if w = b then F w else 0)
  by_cases q : w = b
  · rw [if_pos q, if_pos q, q, Nat.mul_one]
  · rw [if_neg q, if_neg q, Nat.mul_zero]
def kout (τ : MS) (w k f z : Nat) (u : SB) : Prop := zM (τ.1 4) u.1 ∧ zloop τ w k f 200 u.1 u.2.2.2.1 u.2.2.2.2.1 0 u.2.2.1 (τ.1 12) (zanew k 0) 1 = zwalk τ w (τ.1 12) k f (τ.2 5) z
theorem kout_t {τ : MS} {w k f z : Nat} {F K v : Nat → Nat} (hM : zM (τ.1 4) F) (h : τ.1 12 = τ.2 6 w) : kout τ w k f z (F, K, z, 0, 0, v) := by
  refine ⟨hM, ?_⟩
  rw [zloop_there h]
  unfold zwalk
  rw [if_pos h]
theorem kout_w {τ : MS} {w k f z : Nat} {u : SB} (h0 : 0 < τ.1 4) (h : τ.1 12 ≠ τ.2 6 w) (hk : kbegin τ w (τ.1 12) k f (zch5 τ) z 0 0 u) : kout τ w k f z u := by
  obtain ⟨h1, h2, h3, h4, h5⟩ := hk
  refine ⟨h1, ?_⟩
  unfold zwalk
  rw [if_neg h, h5, h2, h3, h4]
  have e : zanew k 0 = if k = 1 ∨ k = 2 ∨ k = 5 then 1 else 0 := by
    unfold zanew zsec
    by_cases q : k = 1 ∨ k = 2 ∨ k = 5
    · rw [if_pos q, if_pos ⟨q, rfl⟩]
    · rw [if_neg q, if_neg (fun h => q h.1)]
  rw [e]
  refine zloop_cong h0 _ _ _ _ _ _ _ _ _ _ (fun x hx => ?_)
  unfold zbmind
  have ex : zch5 τ x = τ.2 5 x := if_pos hx
  split
  · exact ex
  · rw [zcp_in hx, zcp_in hx]
    show (if x = _ then zch5 τ x else 0) = (if x = _ then τ.2 5 x else 0)
    rw [ex]
def zmnN (R : ZR) : Nat := if R.1 = 0 then R.2.1 else 99999
theorem zgo_t {σ : MS} {w rule fig n : Nat} {m : Nat → Nat} {mi as go se pl an : Nat} (h : pl = σ.2 6 w) : zgo σ w rule fig n m mi as go se pl an = (0, mi, as, go) := if_pos h
theorem zgo_e {σ : MS} {w rule fig : Nat} {m : Nat → Nat} {mi as go se pl an : Nat} (h : pl ≠ σ.2 6 w) : zgo σ w rule fig 0 m mi as go se pl an = (1, mi, as, go) := by unfold zgo; rw [if_neg h, if_pos rfl]
abbrev ST4 : Type := (Nat → Nat) × Nat × Nat × Nat
theorem kl_s {τ : MS} (hT : tOk τ) {yw k f n : Nat} {F1 : Nat → Nat} {m1 a1 g1 z1 l1 an : Nat} {u : ST4} {R : ZR} (h0 : 0 < τ.1 4) (hp : l1 ≠ τ.2 6 yw) (hk : kstep τ yw l1 F1 m1 g1 u) (hg : ¬ zgall u.1 5 = 0) (hR : zgo τ yw k f (n + 1) F1 m1 a1 g1 z1 l1 an = R) : zM (τ.1 4) (if zgall u.1 5 = 0 then F1 else zset 5 u.1) ∧ zloop τ yw k f n (if zgall u.1 5 = 0 then F1 else zset 5 u.1) u.2.2.1 a1 u.2.2.2 z1 u.2.1 an (zstep τ yw F1 l1).2.2.2 = R := by
  have hn := hT.1.2.1
  obtain ⟨K, yl', mn', go'⟩ := u
  have hk' := hk
  obtain ⟨hM, -⟩ := hk
  rw [if_neg hg]
  refine ⟨zM_set hn (fun w hw => Nat.lt_of_le_of_lt (hM.1 w hw) (by decide)) hM.2, ?_⟩
  rw [← hR, kturn h0 hp hk', if_neg (by rw [← zgall_ext hn hM.2]; exact hg)]
  exact zloop_cong h0 _ _ _ _ _ _ _ _ _ _ (zset_ext hn (fun _ _ => rfl) hM.2).1
theorem kl_a {τ : MS} (hT : tOk τ) {yw k f n : Nat} {F1 X : Nat → Nat} {m1 a1 g1 z1 l1 r1 : Nat} {u : ST4} {R : ZR} (h0 : 0 < τ.1 4) (hp : l1 ≠ τ.2 6 yw) (hk : kstep τ yw l1 F1 m1 g1 u) (hg : zgall u.1 5 = 0) (hr : r1 = 0 ∧ zsec k) (hR : zgo τ yw k f (n + 1) F1 m1 a1 g1 z1 l1 (zanew k r1) = R) : zM (τ.1 4) (if r1 = 0 ∧ zsec k then zch5 τ else X) ∧ zloop τ yw k f n (if r1 = 0 ∧ zsec k then zch5 τ else X) u.2.2.1 a1 u.2.2.2 z1 u.2.1 (zanew k (if r1 = 0 ∧ zsec k then 1 else r1)) (zstep τ yw F1 l1).2.2.2 = R := by
  have hn := hT.1.2.1
  obtain ⟨K, yl', mn', go'⟩ := u
  have hk' := hk
  obtain ⟨hM, -⟩ := hk
  rw [if_pos hr, if_pos hr]
  refine ⟨zM_ch hT.1, ?_⟩
  have ea : zanew k r1 = 1 := if_pos ⟨hr.2, hr.1⟩
  have eb : zanew k 1 = 0 := if_neg (fun h => absurd h.2 (by decide))
  rw [← hR, kturn h0 hp hk', if_pos (by rw [← zgall_ext hn hM.2]; exact hg), ea, if_neg (by decide), eb]
  exact zloop_cong h0 _ _ _ _ _ _ _ _ _ _ (fun w hw => if_pos hw)
theorem kl_l {τ : MS} (hT : tOk τ) {yw k f n : Nat} {F1 : Nat → Nat} {m1 a1 g1 z1 l1 r1 : Nat} {u : ST4} {R : ZR} (h0 : 0 < τ.1 4) (hp : l1 ≠ τ.2 6 yw) (hk : kstep τ yw l1 F1 m1 g1 u) (hg : zgall u.1 5 = 0) (hr : ¬ (r1 = 0 ∧ zsec k)) (hR : zgo τ yw k f (n + 1) F1 m1 a1 g1 z1 l1 (zanew k r1) = R) : R = (1, u.2.2.1, a1, u.2.2.2) := by
  have hn := hT.1.2.1
  obtain ⟨K, yl', mn', go'⟩ := u
  have hk' := hk
  obtain ⟨hM, -⟩ := hk
  have ea : zanew k r1 = 0 := if_neg (fun h => hr ⟨h.2, h.1⟩)
  rw [← hR, kturn h0 hp hk', if_pos (by rw [← zgall_ext hn hM.2]; exact hg), ea, if_pos rfl]
/-- moved: it comes; not moved: it doesn't -/
theorem kl_m {τ : MS} {yw k f n : Nat} {F1 F2 : Nat → Nat} {a1 g1 z1 l1 m1 an : Nat} {u : ST4} {R : ZR} (hk : kstep τ yw l1 F1 m1 g1 u) (hg : g1 < u.2.2.2) (hL : zloop τ yw k f n F2 u.2.2.1 a1 u.2.2.2 z1 u.2.1 an (zstep τ yw F1 l1).2.2.2 = R) {v : (Nat → Nat) × (Nat → Nat) × Nat × Nat × Nat} (hc : kcome τ yw u.2.1 k f F2 z1 u.2.2.1 a1 v) : zgo τ yw k f n v.1 v.2.2.2.1 v.2.2.2.2 u.2.2.2 v.2.2.1 u.2.1 an = R := by
  have e : (zstep τ yw F1 l1).2.2.2 = 1 := by
    have h1 := hk.2.2.2.2
    rcases zstep_ca (τ := τ) (yw := yw) (F := F1) (yl := l1) with h | h
    · rw [h] at h1; omega
    · exact h
  rw [e] at hL
  rw [← hL, hc.2 n u.2.2.2 an]
theorem kl_n {τ : MS} {yw k f n : Nat} {F1 F2 : Nat → Nat} {a1 g1 z1 l1 m1 an : Nat} {u : ST4} {R : ZR} (hk : kstep τ yw l1 F1 m1 g1 u) (hg : u.2.2.2 ≤ g1) (hL : zloop τ yw k f n F2 u.2.2.1 a1 u.2.2.2 z1 u.2.1 an (zstep τ yw F1 l1).2.2.2 = R) : zgo τ yw k f n F2 u.2.2.1 a1 u.2.2.2 z1 u.2.1 an = R := by
  have e : (zstep τ yw F1 l1).2.2.2 = 0 := by
    have h1 := hk.2.2.2.2
    rcases zstep_ca (τ := τ) (yw := yw) (F := F1) (yl := l1) with h | h
    · exact h
    · rw [h] at h1; omega
  rw [e] at hL
  rw [← hL]
  exact (zgo_n (Or.inr (fun h => absurd h.1 (by decide))) n).symm
