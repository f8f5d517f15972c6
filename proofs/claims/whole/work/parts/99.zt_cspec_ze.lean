/-! TWO STATES THAT SAY THE SAME OF A LAND -/
def zAg (σ τ : MS) : Prop := (σ.1 0 = τ.1 0 ∧ σ.1 4 = τ.1 4 ∧ σ.1 8 = τ.1 8 ∧ σ.1 12 = τ.1 12 ∧ σ.1 13 = τ.1 13 ∧ σ.1 28 = τ.1 28) ∧ (∀ r, r < τ.1 0 → σ.2 1 r = τ.2 1 r ∧ σ.2 2 r = τ.2 2 r ∧ σ.2 3 r = τ.2 3 r) ∧ (∀ w, w < τ.1 4 → σ.2 5 w = τ.2 5 w ∧ σ.2 6 w = τ.2 6 w ∧ σ.2 7 w = τ.2 7 w) ∧ (∀ s, s < τ.1 8 → σ.2 9 s = τ.2 9 s ∧ σ.2 10 s = τ.2 10 s) ∧ (∀ k, k < 48 → σ.2 11 k = τ.2 11 k) ∧ ∀ w c, w < τ.1 4 → c < 8 → σ.2 27 (8 * w + c) = τ.2 27 (8 * w + c)
theorem ag_sum5 {σ τ : MS} (h : zAg σ τ) : zsum (σ.2 5) (σ.1 4) = zsum (τ.2 5) (τ.1 4) := by
  rw [h.1.2.1]
  exact zsum_cong _ (fun k hk => (h.2.2.1 k hk).1)
theorem ag_ready {σ τ : MS} (h : zAg σ τ) : zready σ ↔ zready τ := by
  show zsum (σ.2 5) (σ.1 4) = 100 ↔ zsum (τ.2 5) (τ.1 4) = 100
  rw [ag_sum5 h]
theorem ag_shut {σ τ : MS} (h : zAg σ τ) {w r : Nat} (hw : w < τ.1 4) : zshut σ w r ↔ zshut τ w r := by
  show σ.2 7 w / 2 ^ r % 2 = 1 ↔ τ.2 7 w / 2 ^ r % 2 = 1
  rw [(h.2.2.1 w hw).2.2]
theorem zleast_cong {f g : Nat → Nat} : ∀ {n : Nat}, (∀ k, k < n → f k = g k) → zleast f n = zleast g n ∧ (0 < n → zleast f n < n)
  | 0, _ => ⟨rfl, fun h => absurd h (Nat.lt_irrefl 0)⟩
  | n + 1, h => by
    obtain ⟨h1, h2⟩ := zleast_cong (n := n) (fun k hk => h k (by omega))
    rw [zleast, zleast, h1, h n (by omega)]
    by_cases hn : n = 0
    · subst hn
      have e : zleast g 0 = 0 := rfl
      rw [e, h 0 (by omega)]
      exact ⟨rfl, fun _ => by split <;> omega⟩
    · have h3 := h2 (by omega)
      rw [← h1, h _ (by omega)]
      exact ⟨rfl, fun _ => by split <;> omega⟩
theorem ag_said {σ τ : MS} (h : zAg σ τ) {s c w : Nat} (hs : s < τ.1 8) (hc : c < 8) : zsaid σ s c w = zsaid τ s c w := by
  unfold zsaid
  rw [(h.2.2.2.1 s hs).1, (h.2.2.2.1 s hs).2, h.1.2.1, (zleast_cong (f := fun o => σ.2 27 (8 * o + c)) (g := fun o => τ.2 27 (8 * o + c)) (fun k hk => h.2.2.2.2.2 k c hk hc)).1]
theorem ag_met {σ τ : MS} (h : zAg σ τ) {c n : Nat} (hc : c < 8) (hn : n ≤ 6) : zsum (fun t => σ.2 11 (6 * c + t)) n = zsum (fun t => τ.2 11 (6 * c + t)) n := zsum_cong _ (fun k hk => h.2.2.2.2.1 _ (by omega))
theorem ag_hund {σ τ : MS} (h : zAg σ τ) (h8 : τ.1 8 ≤ 6) {c a w : Nat} (hc : c < 8) : zhund σ c a w = zhund τ c a w := by
  unfold zhund
  rw [h.1.2.2.2.2.2, ag_met h hc (Nat.le_refl 6), h.1.2.2.1]
  rw [zsum_cong (f := fun s => if zsaid σ s c w = a then σ.2 11 (6 * c + s) else 0) (g := fun s => if zsaid τ s c w = a then τ.2 11 (6 * c + s) else 0) (τ.1 8) (fun k hk => by
    show (if zsaid σ k c w = a then σ.2 11 (6 * c + k) else 0) = if zsaid τ k c w = a then τ.2 11 (6 * c + k) else 0
    rw [ag_said h hk hc, h.2.2.2.2.1 _ (by omega)])]
theorem ag_nextP {σ τ : MS} (h : zAg σ τ) (hok : mOk τ) {w c r : Nat} (hw : w < τ.1 4) (hc : c < 8) (hr : r < τ.1 0) : znextP σ w c r = znextP τ w c r := by
  obtain ⟨e1, e2, e3⟩ := h.2.1 r hr
  have hb := hok.2.2.2.1 r hr
  unfold znextP
  rw [e1, e2, e3, h.2.2.2.2.2 w c hw hc, h.2.2.2.2.2 w _ hw (show (if τ.2 1 r = c then τ.2 2 r else τ.2 1 r) < 8 by split <;> omega)]
  exact decide_eq_decide.mpr (and_congr Iff.rfl (and_congr (not_congr (ag_shut h hw)) Iff.rfl))
theorem ag_nextF {σ τ : MS} (h : zAg σ τ) (hok : mOk τ) {w c : Nat} (hw : w < τ.1 4) (hc : c < 8) : zfirst (znextP σ w c) (σ.1 0) = zfirst (znextP τ w c) (τ.1 0) := by
  rw [h.1.1]
  exact zfirst_cong (fun r hr => ag_nextP h hok hw hc hr)
theorem ag_next {σ τ : MS} (h : zAg σ τ) (hok : mOk τ) {w c : Nat} (hw : w < τ.1 4) (hc : c < 8) : znext σ w c = znext τ w c := by
  unfold znext
  rw [ag_nextF h hok hw hc, h.1.1, h.2.2.2.2.2 w c hw hc]
theorem ag_ans {σ τ : MS} (h : zAg σ τ) (h8 : τ.1 8 ≤ 6) {z c w : Nat} (hc : c < 8) : zans σ z c w = zans τ z c w := by
  have e : zfirst (zmetP σ c (zdrawn z)) (σ.1 8) = zfirst (zmetP τ c (zdrawn z)) (τ.1 8) := by
    rw [h.1.2.2.1]
    refine zfirst_cong (fun k hk => ?_)
    unfold zmetP
    rw [ag_met h hc (show k + 1 ≤ 6 by omega)]
  unfold zans
  rw [e, h.1.2.2.1, h.1.2.2.2.2.2]
  by_cases q : zfirst (zmetP τ c (zdrawn z)) (τ.1 8) < τ.1 8
  · rw [if_pos q, if_pos q, ag_said h q hc]
  · rw [if_neg q, if_neg q]
theorem ag_votes {σ τ : MS} (h : zAg σ τ) (h8 : τ.1 8 ≤ 6) {z c w : Nat} (hc : c < 8) : ∀ k, zvotes σ z c w k = zvotes τ z c w k
  | 0 => rfl
  | k + 1 => by
    funext o
    rw [zvotes, zvotes, ag_votes h h8 hc k, ag_ans h h8 hc]
theorem ag_told {σ τ : MS} (h : zAg σ τ) (h8 : τ.1 8 ≤ 6) {z c w rule fig : Nat} (hc : c < 8) : ztold σ z c w rule fig = ztold τ z c w rule fig := by
  unfold ztold
  rw [ag_ans h h8 hc, ag_votes h h8 hc, h.1.2.1]
theorem ag_bmind {σ τ : MS} (h : zAg σ τ) {m : Nat → Nat} {t : Nat} : zbmind σ m t = zbmind τ m t := by
  unfold zbmind
  rw [h.1.2.1]
theorem ag_howM {σ τ : MS} (h : zAg σ τ) (h8 : τ.1 8 ≤ 6) {m : Nat → Nat} {c a : Nat} (hc : c < 8) : zhowM σ m c a = zhowM τ m c a := by
  have e : zcp (zhearM σ m c a) m (σ.1 4) = zcp (zhearM τ m c a) m (τ.1 4) := by
    rw [h.1.2.1]
    refine zcp_cong (fun w hw => ?_)
    show m w * zhund σ c a w = m w * zhund τ c a w
    rw [ag_hund h h8 hc]
  unfold zhowM
  rw [e, h.1.2.1]
theorem ag_seeM {σ τ : MS} (h : zAg σ τ) {m : Nat → Nat} {r b : Nat} : zcp (zseeM σ m r b) m (σ.1 4) = zcp (zseeM τ m r b) m (τ.1 4) := by
  rw [h.1.2.1]
  refine zcp_cong (fun w hw => ?_)
  show (if (if zshut σ w r then 1 else 0) = b then 0 else m w) = if (if zshut τ w r then 1 else 0) = b then 0 else m w
  have e : (if zshut σ w r then 1 else 0) = (if zshut τ w r then 1 else 0) := by
    by_cases q : zshut τ w r
    · rw [if_pos q, if_pos ((ag_shut h hw).mpr q)]
    · rw [if_neg q, if_neg (fun x => q ((ag_shut h hw).mp x))]
  rw [e]
theorem zbest_lt2 {m : Nat → Nat} {n : Nat} (hn : 0 < n) : zbest m n < n := zbest_lt m n hn
theorem ag_step {σ τ : MS} (h : zAg σ τ) (hok : mOk τ) (hn : 0 < τ.1 4) {w pl : Nat} {m : Nat → Nat} (hw : w < τ.1 4) (hp : pl < 8) : zstep σ w m pl = zstep τ w m pl ∧ (zstep τ w m pl).2.1 < 8 := by
  have hb := zbest_lt2 (m := m) hn
  have e4 := h.1.2.1
  have e6 := (h.2.2.1 _ hb).2.1
  have eF := ag_nextF h hok hb hp
  have eN := ag_next h hok hb hp
  have eG : zcp (fun o => if σ.2 6 o = pl then 0 else m o) m (σ.1 4) = zcp (fun o => if τ.2 6 o = pl then 0 else m o) m (τ.1 4) := by
    rw [e4]
    refine zcp_cong (fun o ho => ?_)
    show (if σ.2 6 o = pl then 0 else m o) = if τ.2 6 o = pl then 0 else m o
    rw [(h.2.2.1 o ho).2.1]
  unfold zstep
  rw [e4, e6, eN]
  by_cases q1 : τ.2 6 (zbest m (τ.1 4)) = pl
  · rw [if_pos q1, if_pos q1]
    rw [e4] at eG
    rw [eG]
    exact ⟨rfl, hp⟩
  · rw [if_neg q1, if_neg q1]
    by_cases q2 : znext τ (zbest m (τ.1 4)) pl = -4
    · rw [if_pos q2, if_pos q2]
      exact ⟨rfl, hp⟩
    · rw [if_neg q2, if_neg q2, eF]
      have hr : zfirst (znextP τ (zbest m (τ.1 4)) pl) (τ.1 0) < τ.1 0 := by
        unfold znext at q2
        by_cases q3 : τ.2 27 (8 * zbest m (τ.1 4) + pl) < 99999 ∧ zfirst (znextP τ (zbest m (τ.1 4)) pl) (τ.1 0) < τ.1 0
        · exact q3.2
        · rw [if_neg q3] at q2
          exact absurd rfl q2
      obtain ⟨f1, f2, f3⟩ := h.2.1 _ hr
      have hends := hok.2.2.2.1 _ hr
      by_cases q4 : zshut τ w (zfirst (znextP τ (zbest m (τ.1 4)) pl) (τ.1 0))
      · rw [if_pos q4, if_pos ((ag_shut h hw).mpr q4)]
        have e := ag_seeM h (m := m) (r := zfirst (znextP τ (zbest m (τ.1 4)) pl) (τ.1 0)) (b := 0)
        rw [e4] at e
        rw [e]
        exact ⟨rfl, hp⟩
      · rw [if_neg q4, if_neg (fun x => q4 ((ag_shut h hw).mp x))]
        have e := ag_seeM h (m := m) (r := zfirst (znextP τ (zbest m (τ.1 4)) pl) (τ.1 0)) (b := 1)
        rw [e4] at e
        rw [e, f1, f2, f3]
        refine ⟨rfl, ?_⟩
        show (if τ.2 1 _ = pl then τ.2 2 _ else τ.2 1 _) < 8
        split <;> omega
theorem ag_will {σ τ : MS} (h : zAg σ τ) {rule fig ca : Nat} {m : Nat → Nat} : zwill σ rule fig ca m ↔ zwill τ rule fig ca m := by
  unfold zwill zdb
  rw [h.1.2.1]
theorem ag_aft {σ τ : MS} (h : zAg σ τ) (hok : mOk τ) (hn : 0 < τ.1 4) {w : Nat} (hw : w < τ.1 4) {rec rec' : (Nat → Nat) → Nat → Nat → Nat → Nat → Nat → Nat → Nat → ZR} (hr : ∀ m mi as go se pl an ca, pl < 8 → rec m mi as go se pl an ca = rec' m mi as go se pl an ca) {m : Nat → Nat} {mi as go se pl an : Nat} (hp : pl < 8) : zaft σ w rec m mi as go se pl an = zaft τ w rec' m mi as go se pl an := by
  obtain ⟨e, h8⟩ := ag_step h hok hn (m := m) hw hp
  unfold zaft
  rw [e]
  unfold zthen
  rw [h.1.2.1, zcp_cong (f := σ.2 5) (f' := τ.2 5) (fun k hk => (h.2.2.1 k hk).1), hr _ _ _ _ _ _ _ _ h8, hr _ _ _ _ _ _ _ _ h8]
theorem ag_loop {σ τ : MS} (h : zAg σ τ) (hok : mOk τ) (hn : 0 < τ.1 4) {w rule fig : Nat} (hw : w < τ.1 4) : ∀ (k : Nat) (m : Nat → Nat) (mi as go se pl an ca : Nat), pl < 8 → zloop σ w rule fig k m mi as go se pl an ca = zloop τ w rule fig k m mi as go se pl an ca
  | 0, m, mi, as, go, se, pl, an, ca, hp => by
    unfold zloop
    rw [(h.2.2.1 w hw).2.1, h.1.2.2.2.2.1]
    by_cases q : zwill τ rule fig ca m
    · rw [if_pos q, if_pos (ag_will h |>.mpr q)]
    · rw [if_neg q, if_neg (fun x => q (ag_will h |>.mp x))]
  | k + 1, m, mi, as, go, se, pl, an, ca, hp => by
    have ih := ag_loop h hok hn (rule := rule) (fig := fig) hw k
    rw [zloop, zloop, (h.2.2.1 w hw).2.1, h.1.2.2.2.2.1, ag_ans h hok.2.2.1 hp, ag_howM h hok.2.2.1 hp, ag_aft h hok hn hw (fun m mi as go se pl an ca hp => ih m mi as go se pl an ca hp) hp, ag_aft h hok hn hw (fun m mi as go se pl an ca hp => ih m mi as go se pl an ca hp) hp]
    by_cases q : zwill τ rule fig ca m
    · rw [if_pos q, if_pos (ag_will h |>.mpr q)]
    · rw [if_neg q, if_neg (fun x => q (ag_will h |>.mp x))]
theorem ag_walk {σ τ : MS} (h : zAg σ τ) (hok : mOk τ) {w c rule fig z : Nat} {m m' : Nat → Nat} (hw : w < τ.1 4) (hc : c < 8) (hm : zsame (τ.1 4) m m') : zwalk σ w c rule fig m z = zwalk τ w c rule fig m' z := by
  have hn : 0 < τ.1 4 := by omega
  rw [← zwalk_cong hn hm]
  unfold zwalk
  rw [(h.2.2.1 w hw).2.1, ag_told h hok.2.2.1 hc, ag_bmind h, h.1.2.2.2.2.1, ag_loop h hok hn hw 200 _ _ _ _ _ _ _ _ hc]
theorem ag_means {σ τ : MS} (h : zAg σ τ) (hok : mOk τ) {rule fig n z : Nat} : zmeans σ rule fig n z = zmeans τ rule fig n z := by
  unfold zmeans
  rw [h.1.2.1]
  refine zsum_cong _ (fun w hw => ?_)
  unfold zmean
  refine zsum_cong _ (fun k _ => ?_)
  show σ.2 5 w * zin (zwalk σ w (σ.1 12) rule fig (σ.2 5) (z + k)) = τ.2 5 w * zin (zwalk τ w (τ.1 12) rule fig (τ.2 5) (z + k))
  rw [h.1.2.2.2.1, (h.2.2.1 w hw).1, ag_walk h hok hw hok.2.2.2.2.2.2.2.2.1 (m' := τ.2 5) (fun k hk => (h.2.2.1 k hk).1)]
theorem ag_dusk {σ τ : MS} (h : zAg σ τ) (hok : mOk τ) {rule fig n z mn : Nat} : zsum (zdusk σ rule fig n z mn) (σ.1 4) = zsum (zdusk τ rule fig n z mn) (τ.1 4) := by
  rw [h.1.2.1]
  refine zsum_cong _ (fun w hw => ?_)
  unfold zdusk
  refine zsum_cong _ (fun k _ => ?_)
  unfold zduskI
  rw [h.1.2.2.2.1, (h.2.2.1 w hw).1, ag_walk h hok hw hok.2.2.2.2.2.2.2.2.1 (m' := τ.2 5) (fun k hk => (h.2.2.1 k hk).1)]
