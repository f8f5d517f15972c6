/-! A MIND OF FIVE WEIGHTS, AND ITS FIRST n -/
def zM (n : Nat) (F : Nat → Nat) : Prop := (∀ w, w < 5 → F w ≤ 100000000000) ∧ ∀ w, n ≤ w → w < 5 → F w = 0
theorem zgall_ext {g : Nat → Nat} {n : Nat} : ∀ {k : Nat}, n ≤ k → (∀ w, n ≤ w → w < k → g w = 0) → zgall g k = zgall g n
  | 0, h, _ => by rw [Nat.le_zero.mp h]
  | k + 1, h, hz => by
    rcases Nat.lt_or_ge k n with q | q
    · rw [show n = k + 1 by omega]
    · show Nat.gcd (g k) (zgall g k) = _
      rw [hz k q (by omega), Nat.gcd_zero_left, zgall_ext q (fun w h1 h2 => hz w h1 (by omega))]
theorem zsum_ext {g : Nat → Nat} {n : Nat} : ∀ {k : Nat}, n ≤ k → (∀ w, n ≤ w → w < k → g w = 0) → zsum g k = zsum g n
  | 0, h, _ => by rw [Nat.le_zero.mp h]
  | k + 1, h, hz => by
    rcases Nat.lt_or_ge k n with q | q
    · rw [show n = k + 1 by omega]
    · show zsum g k + g k = _
      rw [hz k q (by omega), zsum_ext q (fun w h1 h2 => hz w h1 (by omega)), Nat.add_zero]
theorem zbest_ext {g : Nat → Nat} {n : Nat} : ∀ {k : Nat}, n ≤ k → (∀ w, n ≤ w → w < k → g w = 0) → zbest g k = zbest g n
  | 0, h, _ => by rw [Nat.le_zero.mp h]
  | k + 1, h, hz => by
    rcases Nat.lt_or_ge k n with q | q
    · rw [show n = k + 1 by omega]
    · rw [zbest, hz k q (by omega), if_neg (Nat.not_lt_zero _), zbest_ext q (fun w h1 h2 => hz w h1 (by omega))]
theorem zany_ext {P : Nat → Bool} {n : Nat} : ∀ {k : Nat}, n ≤ k → (∀ w, n ≤ w → w < k → P w = false) → zany P k = zany P n
  | 0, h, _ => by rw [Nat.le_zero.mp h]
  | k + 1, h, hz => by
    rcases Nat.lt_or_ge k n with q | q
    · rw [show n = k + 1 by omega]
    · rw [zany, hz k q (by omega), Bool.or_false, zany_ext q (fun w h1 h2 => hz w h1 (by omega))]
theorem zhf_0 {g : Nat → Nat} {w : Nat} (h : g w = 0) : zhf g w = 0 := by unfold zhf; rw [h]; rfl
theorem zhalves_ext {n : Nat} (hn : n ≤ 5) : ∀ (k : Nat) {g h : Nat → Nat}, zsame n g h → (∀ w, n ≤ w → w < 5 → g w = 0) → zsame n (zhalves 5 k g) (zhalves n k h) ∧ ∀ w, n ≤ w → w < 5 → zhalves 5 k g w = 0
  | 0, _, _, hs, hz => ⟨hs, hz⟩
  | k + 1, g, h, hs, hz => by
    have e : zany (zbigP g) 5 = zany (zbigP h) n := (zany_ext hn (fun w h1 h2 => by unfold zbigP; rw [hz w h1 h2]; rfl)).trans (zany_cong fun w hw => by unfold zbigP; rw [hs w hw])
    rw [zhalves, zhalves, e]
    by_cases q : zany (zbigP h) n = true
    · rw [if_pos q, if_pos q]
      refine zhalves_ext hn k (fun w hw => ?_) (fun w h1 h2 => ?_)
      · rw [zcp_in (show w < 5 by omega), zcp_in hw]
        unfold zhf
        rw [hs w hw]
      · rw [zcp_in h2]
        exact zhf_0 (hz w h1 h2)
    · rw [if_neg q, if_neg q]
      exact ⟨hs, hz⟩
theorem zset_ext {n : Nat} (hn : n ≤ 5) {g h : Nat → Nat} (hs : zsame n g h) (hz : ∀ w, n ≤ w → w < 5 → g w = 0) : zsame n (zset 5 g) (zset n h) ∧ ∀ w, n ≤ w → w < 5 → zset 5 g w = 0 := by
  refine zhalves_ext hn 64 (fun w hw => ?_) (fun w h1 h2 => ?_)
  · rw [zcp_in (show w < 5 by omega), zcp_in hw, hs w hw, zgall_ext hn hz, zgall_cong hs]
  · rw [zcp_in h2, hz w h1 h2, Nat.zero_div]
theorem zM_set {n : Nat} (hn : n ≤ 5) {g : Nat → Nat} (hb : ∀ w, w < 5 → g w < 9223372036854775808) (hz : ∀ w, n ≤ w → w < 5 → g w = 0) : zM n (zset 5 g) := ⟨zset_le hb, (zset_ext hn (fun _ _ => rfl) hz).2⟩
theorem zM_ch {τ : MS} (hok : mOk τ) : zM (τ.1 4) (zch5 τ) := by
  refine ⟨fun w hw => ?_, fun w h1 h2 => if_neg (by omega)⟩
  unfold zch5
  split
  · have := (hok.2.2.2.2.1 w (by assumption)).2.1
    omega
  · omega
/-! scaled minds -/
abbrev zsc (v : Nat) (m : Nat → Nat) : Nat → Nat := fun x => v * m x
theorem zbest_sc {v : Nat} (hv : 0 < v) {m : Nat → Nat} : ∀ n, zbest (zsc v m) n = zbest m n
  | 0 => rfl
  | n + 1 => by
    rw [zbest, zbest, zbest_sc hv n]
    by_cases h : m (zbest m n) < m n
    · rw [if_pos h, if_pos (show v * m (zbest m n) < v * m n from Nat.mul_lt_mul_of_pos_left h hv)]
    · rw [if_neg h, if_neg (show ¬ v * m (zbest m n) < v * m n from fun h2 => h (Nat.lt_of_mul_lt_mul_left h2))]
theorem zgall_sc {v : Nat} {m : Nat → Nat} : ∀ n, zgall (zsc v m) n = v * zgall m n
  | 0 => by show 0 = v * 0; rw [Nat.mul_zero]
  | n + 1 => by
    show Nat.gcd (v * m n) (zgall (zsc v m) n) = v * Nat.gcd (m n) (zgall m n)
    rw [zgall_sc n, Nat.gcd_mul_left]
theorem zset_sc {v : Nat} (hv : 0 < v) {m : Nat → Nat} (n : Nat) : zsame n (zset n (zsc v m)) (zset n m) := by
  refine zhalves_cong 64 (fun w hw => ?_)
  rw [zcp_in hw, zcp_in hw, zgall_sc]
  exact Nat.mul_div_mul_left _ _ hv
theorem zstep_sc {σ : MS} {w pl v : Nat} (hv : 0 < v) {m : Nat → Nat} : (zstep σ w (zsc v m) pl).1 = zsc v (zstep σ w m pl).1 ∧ (zstep σ w (zsc v m) pl).2 = (zstep σ w m pl).2 := by
  have e : ∀ (P : Nat → Prop) [DecidablePred P], zcp (fun o => if P o then 0 else v * m o) (zsc v m) (σ.1 4) = zsc v (zcp (fun o => if P o then 0 else m o) m (σ.1 4)) := by
    intro P _
    funext x
    show zcp (fun o => if P o then 0 else v * m o) (zsc v m) (σ.1 4) x = v * zcp (fun o => if P o then 0 else m o) m (σ.1 4) x
    unfold zcp
    split
    · show (if P x then 0 else v * m x) = v * (if P x then 0 else m x)
      split
      · rw [Nat.mul_zero]
      · rfl
    · rfl
  unfold zstep
  rw [zbest_sc hv]
  split
  · exact ⟨e _, rfl⟩
  · split
    · refine ⟨funext fun x => ?_, rfl⟩
      show (if x = _ then 0 else v * m x) = v * (if x = _ then 0 else m x)
      split
      · rw [Nat.mul_zero]
      · rfl
    · split
      · exact ⟨e _, rfl⟩
      · exact ⟨e _, rfl⟩
theorem zaft_sc {σ : MS} {w v : Nat} (hv : 0 < v) {rec : (Nat → Nat) → Nat → Nat → Nat → Nat → Nat → Nat → Nat → ZR} (hr : ∀ (m m' : Nat → Nat) (mi as go se pl an ca : Nat), zsame (σ.1 4) m m' → rec m mi as go se pl an ca = rec m' mi as go se pl an ca) {m : Nat → Nat} {mi as go se pl an : Nat} : zaft σ w rec (zsc v m) mi as go se pl an = zaft σ w rec m mi as go se pl an := by
  obtain ⟨h1, h2⟩ := zstep_sc (σ := σ) (w := w) (pl := pl) hv (m := m)
  unfold zaft zthen
  rw [h1, h2, zgall_sc]
  by_cases h : zgall (zstep σ w m pl).1 (σ.1 4) = 0
  · rw [if_pos h, if_pos (by rw [h, Nat.mul_zero])]
    split
    · rfl
    · exact hr _ _ _ _ _ _ _ _ _ (fun w hw => by rw [zcp_in hw, zcp_in hw])
  · rw [if_neg h, if_neg (fun h3 => h (by rcases Nat.mul_eq_zero.mp h3 with h4 | h4; omega; exact h4))]
    exact hr _ _ _ _ _ _ _ _ _ (zset_sc hv _)
theorem zloop_sc {σ : MS} {w r f v : Nat} (hv : 0 < v) (hr : r ≠ 3 ∧ r ≠ 4) (hn : 0 < σ.1 4) {m : Nat → Nat} (k mi as go se pl an ca : Nat) : zloop σ w r f k (zsc v m) mi as go se pl an ca = zloop σ w r f k m mi as go se pl an ca := by
  have nw : ∀ m, ¬ zwill σ r f ca m := fun m h => by rcases h.2 with h2 | ⟨h2, -⟩; exact hr.1 h2; exact hr.2 h2
  by_cases hp : pl = σ.2 6 w
  · rw [zloop_there hp, zloop_there hp]
  · cases k with
    | zero => rw [zloop_0n hp (nw _), zloop_0n hp (nw _)]
    | succ k =>
      rw [zloop_sn hp (nw _), zloop_sn hp (nw _)]
      exact zaft_sc hv (zloop_cong hn k)
/-- a walk that never asks looks at no seed and at no coming -/
theorem zloop_na {σ : MS} {w r r' f f' : Nat} (hr : r ≠ 3 ∧ r ≠ 4) (hr' : r' ≠ 3 ∧ r' ≠ 4) : ∀ (k : Nat) (m : Nat → Nat) (mi as go se se' pl an ca ca' : Nat), zloop σ w r f k m mi as go se pl an ca = zloop σ w r' f' k m mi as go se' pl an ca'
  | k, m, mi, as, go, se, se', pl, an, ca, ca' => by
    have nw : ∀ m, ¬ zwill σ r f ca m := fun m h => by rcases h.2 with h2 | ⟨h2, -⟩; exact hr.1 h2; exact hr.2 h2
    have nw' : ∀ m, ¬ zwill σ r' f' ca' m := fun m h => by rcases h.2 with h2 | ⟨h2, -⟩; exact hr'.1 h2; exact hr'.2 h2
    by_cases hp : pl = σ.2 6 w
    · rw [zloop_there hp, zloop_there hp]
    · cases k with
      | zero => rw [zloop_0n hp (nw _), zloop_0n hp (nw' _)]
      | succ k =>
        rw [zloop_sn hp (nw _), zloop_sn hp (nw' _)]
        unfold zaft zthen
        split
        · split
          · rfl
          · exact zloop_na hr hr' k _ _ _ _ _ _ _ _ _ _
        · exact zloop_na hr hr' k _ _ _ _ _ _ _ _ _ _
/-- a mind with one weight -/
theorem zset_e {n t : Nat} (ht : t < n) {g : Nat → Nat} (h1 : 0 < g t) (h0 : ∀ w, w < n → w ≠ t → g w = 0) : zgall g n = g t ∧ ∀ w, w < n → zset n g w = if w = t then 1 else 0 := by
  have hg : ∀ k, k ≤ n → zgall g k = if t < k then g t else 0 := by
    intro k
    induction k with
    | zero => intro _; rfl
    | succ k ih =>
      intro hk
      show Nat.gcd (g k) (zgall g k) = _
      rw [ih (by omega)]
      by_cases e : k = t
      · subst e
        rw [if_neg (Nat.lt_irrefl _), if_pos (by omega), Nat.gcd_zero_right]
      · rw [h0 k (by omega) e, Nat.gcd_zero_left]
        by_cases h : t < k
        · rw [if_pos h, if_pos (by omega)]
        · rw [if_neg h, if_neg (by omega)]
  have e1 : zgall g n = g t := by rw [hg n (Nat.le_refl _), if_pos ht]
  have hb : ∀ w, w < n → zcp (fun w => g w / zgall g n) g n w = if w = t then 1 else 0 := by
    intro w hw
    rw [zcp_in hw, e1]
    by_cases e : w = t
    · rw [e, if_pos rfl, Nat.div_self h1]
    · rw [if_neg e, h0 w hw e, Nat.zero_div]
  refine ⟨e1, fun w hw => ?_⟩
  unfold zset
  rw [zhalves_stop (zany_small fun w hw => by rw [hb w hw]; split <;> omega)]
  exact hb w hw
/-! THE TABLES OF A LAND -/
def zhun0 (τ : MS) (c a w : Nat) : Nat := if a = 4294967295 then 100 - zsum (fun s => τ.2 11 (6 * c + s)) 6 else zsum (fun s => if zsaid τ s c w = a then τ.2 11 (6 * c + s) else 0) (τ.1 8)
def znr (τ : MS) (w c : Nat) : Nat := if τ.2 6 w = c then 4294967295 else if τ.2 27 (8 * w + c) < 99999 ∧ zfirst (znextP τ w c) (τ.1 0) < τ.1 0 then zfirst (znextP τ w c) (τ.1 0) else 4294967295
def tOk (τ : MS) : Prop := mOk τ ∧ zpl τ ∧ (∀ k, k < 240 → τ.2 62 k ≤ 100) ∧ (∀ c a w, c < 8 → (a < 5 ∨ a = 4294967295) → w < τ.1 4 → τ.2 62 (5 * zplc c a + w) = zhun0 τ c a w) ∧ (∀ w c, w < τ.1 4 → c < 8 → τ.2 60 (8 * w + c) = znr τ w c) ∧ (∀ w, w < 5 → τ.2 7 w < 65536) ∧ ∀ w, w < 5 → τ.2 6 w < 8
theorem zhund_0 {τ : MS} {c a w : Nat} (h : c ≠ τ.1 28) : zhund τ c a w = zhun0 τ c a w := by unfold zhund zhun0; rw [if_neg h]
theorem zhund_p {τ : MS} {c a w : Nat} (h : c = τ.1 28) : zhund τ c a w = if a = w then 100 else 0 := by unfold zhund; rw [if_pos h]
/-- heard where nobody is posted -/
theorem khear {τ : MS} (hT : tOk τ) {F : Nat → Nat} (hM : zM (τ.1 4) F) {c a : Nat} (hc : c < 8) (ha : a < 5 ∨ a = 4294967295) (hp : c ≠ τ.1 28) : zM (τ.1 4) (if zgall (zhe5 τ F (zplc c a)) 5 = 0 then F else zset 5 (zhe5 τ F (zplc c a))) ∧ zsame (τ.1 4) (if zgall (zhe5 τ F (zplc c a)) 5 = 0 then F else zset 5 (zhe5 τ F (zplc c a))) (zhowM τ F c a) := by
  have hn : τ.1 4 ≤ 5 := hT.1.2.1
  have hpl := zplc_lt hc ha
  have hz : ∀ w, τ.1 4 ≤ w → w < 5 → zhe5 τ F (zplc c a) w = 0 := fun w h1 h2 => by unfold zhe5; rw [hM.2 w h1 h2, Nat.zero_mul]
  have hs : zsame (τ.1 4) (zhe5 τ F (zplc c a)) (zcp (zhearM τ F c a) F (τ.1 4)) := fun w hw => by
    rw [zcp_in hw]
    show F w * τ.2 62 (5 * zplc c a + w) = F w * zhund τ c a w
    rw [hT.2.2.2.1 c a w hc ha hw, zhund_0 hp]
  have hb : ∀ w, w < 5 → zhe5 τ F (zplc c a) w < 9223372036854775808 := fun w hw => by
    have h1 := Nat.mul_le_mul (hM.1 w hw) (hT.2.2.1 (5 * zplc c a + w) (by omega))
    show F w * τ.2 62 (5 * zplc c a + w) < _
    omega
  have e : zgall (zhe5 τ F (zplc c a)) 5 = zgall (zcp (zhearM τ F c a) F (τ.1 4)) (τ.1 4) := (zgall_ext hn hz).trans (zgall_cong hs)
  unfold zhowM
  rw [← e]
  by_cases h : zgall (zhe5 τ F (zplc c a)) 5 = 0
  · rw [if_pos h, if_pos h]
    exact ⟨hM, fun _ _ => rfl⟩
  · rw [if_neg h, if_neg h]
    exact ⟨zM_set hn hb hz, (zset_ext hn hs hz).1⟩
/-- believed at a post -/
theorem kbel {τ : MS} (hn : τ.1 4 ≤ 5) {F : Nat → Nat} (hM : zM (τ.1 4) F) {c a : Nat} (hp : c = τ.1 28) : zM (τ.1 4) (if zgall (zbelM F a) 5 = 0 then F else zset 5 (zbelM F a)) ∧ zsame (τ.1 4) (if zgall (zbelM F a) 5 = 0 then F else zset 5 (zbelM F a)) (zhowM τ F c a) := by
  have hz : ∀ w, τ.1 4 ≤ w → w < 5 → zbelM F a w = 0 := fun w h1 h2 => by
    show (if w = a then F w else 0) = 0
    rw [hM.2 w h1 h2]
    split <;> rfl
  have hb : ∀ w, w < 5 → zbelM F a w < 9223372036854775808 := fun w hw => by
    have := hM.1 w hw
    show (if w = a then F w else 0) < _
    split <;> omega
  have hs : zsame (τ.1 4) (zcp (zhearM τ F c a) F (τ.1 4)) (zsc 100 (zbelM F a)) := fun w hw => by
    rw [zcp_in hw]
    show F w * zhund τ c a w = 100 * (if w = a then F w else 0)
    rw [zhund_p hp]
    by_cases h : w = a
    · rw [if_pos h, if_pos h.symm, Nat.mul_comm]
    · rw [if_neg h, if_neg (fun e => h e.symm), Nat.mul_zero, Nat.mul_zero]
  have e : zgall (zcp (zhearM τ F c a) F (τ.1 4)) (τ.1 4) = 100 * zgall (zbelM F a) 5 := by rw [zgall_cong hs, zgall_sc, zgall_ext hn hz]
  unfold zhowM
  rw [e]
  by_cases h : zgall (zbelM F a) 5 = 0
  · rw [if_pos h, if_pos (by rw [h])]
    exact ⟨hM, fun _ _ => rfl⟩
  · rw [if_neg h, if_neg (by omega)]
    refine ⟨zM_set hn hb hz, fun w hw => ?_⟩
    rw [(zset_ext hn (fun _ _ => rfl) hz).1 w hw, zset_cong hs w hw]
    exact ((zset_sc (by decide) _) w hw).symm
/-! A WALK BEHIND THE ASKING -/
def zgo (σ : MS) (w rule fig : Nat) (n : Nat) (m : Nat → Nat) (mi as go se pl an : Nat) : ZR := if pl = σ.2 6 w then (0, mi, as, go) else if n = 0 then (1, mi, as, go) else zaft σ w (zloop σ w rule fig (n - 1)) m mi as go se pl an
theorem zgo_y {σ : MS} {w rule fig : Nat} {m : Nat → Nat} {mi as go se pl an ca : Nat} (hp : pl ≠ σ.2 6 w) (hw : zwill σ rule fig ca m) : ∀ n, zloop σ w rule fig n m mi as go se pl an ca = zgo σ w rule fig n (zhowM σ m pl (zans σ (znx se) pl w)) (mi + σ.1 13) (as + 1) go (znx se) pl an
  | 0 => by rw [zloop_0a hp hw]; unfold zgo; rw [if_neg hp, if_pos rfl]
  | n + 1 => by rw [zloop_sa hp hw]; unfold zgo; rw [if_neg hp, if_neg (by omega)]; rfl
theorem zgo_n {σ : MS} {w rule fig : Nat} {m : Nat → Nat} {mi as go se pl an ca : Nat} (h : pl = σ.2 6 w ∨ ¬ zwill σ rule fig ca m) : ∀ n, zloop σ w rule fig n m mi as go se pl an ca = zgo σ w rule fig n m mi as go se pl an := by
    intro n
    by_cases hp : pl = σ.2 6 w
    · rw [zloop_there hp]; unfold zgo; rw [if_pos hp]
    · have hw := h.resolve_left hp
      cases n with
      | zero => rw [zloop_0n hp hw]; unfold zgo; rw [if_neg hp, if_pos rfl]
      | succ n => rw [zloop_sn hp hw]; unfold zgo; rw [if_neg hp, if_neg (by omega)]; rfl
theorem zgo_cong {σ : MS} {w rule fig n : Nat} (hn : 0 < σ.1 4) {m m' : Nat → Nat} (h : zsame (σ.1 4) m m') (mi as go se pl an : Nat) : zgo σ w rule fig n m mi as go se pl an = zgo σ w rule fig n m' mi as go se pl an := by
  unfold zgo
  split
  · rfl
  · split
    · rfl
    · exact zaft_cong (zloop_cong hn _) h
theorem zwk_will {σ : MS} {k f : Nat} {F : Nat → Nat} (hn : σ.1 4 ≤ 5) (hz : ∀ w, σ.1 4 ≤ w → w < 5 → F w = 0) : zwk k f F ↔ zwill σ k f 1 F := by
  unfold zwk zwill zdb
  rw [zbest_ext hn hz, zsum_ext hn hz]
  exact ⟨fun h => ⟨rfl, h⟩, fun h => h.2⟩

def zanew (k re : Nat) : Nat := if zsec k ∧ re = 0 then 1 else 0
/-- behind coming: the mind, what was noted, seed, minutes, asked -/
def kcome (τ : MS) (yw yl k f : Nat) (F : Nat → Nat) (z mn as : Nat) (u : (Nat → Nat) × (Nat → Nat) × Nat × Nat × Nat) : Prop := zM (τ.1 4) u.1 ∧ ∀ n go an, zloop τ yw k f n F mn as go z yl an 1 = zgo τ yw k f n u.1 u.2.2.2.1 u.2.2.2.2 go u.2.2.1 yl an
theorem kcome_n {τ : MS} {yw yl k f : Nat} {F K : Nat → Nat} {z mn as : Nat} (hn : τ.1 4 ≤ 5) (hM : zM (τ.1 4) F) (h : yl = τ.2 6 yw ∨ ¬ zwk k f F) : kcome τ yw yl k f F z mn as (F, K, z, mn, as) := ⟨hM, fun n go an => zgo_n (h.imp_right (fun h2 h3 => h2 ((zwk_will hn hM.2).mpr h3))) n⟩
theorem kcome_y {τ : MS} {yw yl k f : Nat} {F F' K : Nat → Nat} {z mn as : Nat} (hn : τ.1 4 ≤ 5) (h0 : 0 < τ.1 4) (hM : zM (τ.1 4) F) (hp : yl ≠ τ.2 6 yw) (h : zwk k f F) (hM' : zM (τ.1 4) F') (hs : zsame (τ.1 4) F' (zhowM τ F yl (zans τ (znx z) yl yw))) : kcome τ yw yl k f F z mn as (F', K, znx z, mn + τ.1 13, as + 1) := ⟨hM', fun n go an => (zgo_y hp ((zwk_will hn hM.2).mp h) n).trans (zgo_cong h0 (fun w hw => (hs w hw).symm) _ _ _ _ _ _)⟩
/-- behind a step: what was noted, place, minutes, gone -/
def kstep (τ : MS) (yw yl : Nat) (F : Nat → Nat) (mn go : Nat) (u : (Nat → Nat) × Nat × Nat × Nat) : Prop := zM (τ.1 4) u.1 ∧ zsame (τ.1 4) u.1 (zstep τ yw F yl).1 ∧ u.2.1 = (zstep τ yw F yl).2.1 ∧ u.2.2.1 = mn + (zstep τ yw F yl).2.2.1 ∧ u.2.2.2 = go + (zstep τ yw F yl).2.2.2
theorem zM_if {n : Nat} {F : Nat → Nat} (hM : zM n F) (P : Nat → Prop) [DecidablePred P] : zM n (fun w => if P w then 0 else F w) := ⟨fun w hw => by
  show (if P w then 0 else F w) ≤ _
  split
  · omega
  · exact hM.1 w hw, fun w h1 h2 => by
  show (if P w then 0 else F w) = 0
  split
  · rfl
  · exact hM.2 w h1 h2⟩
theorem znr_g {τ : MS} {w c : Nat} (h : τ.2 6 w = c) : znr τ w c = 4294967295 := if_pos h
theorem znr_lt {τ : MS} {w c : Nat} (hok : mOk τ) : znr τ w c < τ.1 0 ∨ znr τ w c = 4294967295 := by
  unfold znr
  split
  · exact Or.inr rfl
  · split
    · exact Or.inl (by rename_i h; exact h.2)
    · exact Or.inr rfl
theorem znr_no {τ : MS} {w c : Nat} (hok : mOk τ) (h : ¬ τ.2 6 w = c) (h2 : ¬ znr τ w c < τ.1 0) : znext τ w c = -4 := by
  unfold znr at h2
  rw [if_neg h] at h2
  unfold znext
  by_cases q : τ.2 27 (8 * w + c) < 99999 ∧ zfirst (znextP τ w c) (τ.1 0) < τ.1 0
  · rw [if_pos q] at h2
    exact absurd q.2 h2
  · rw [if_neg q]
theorem znr_yes {τ : MS} {w c : Nat} (hok : mOk τ) (h : ¬ τ.2 6 w = c) (h2 : znr τ w c < τ.1 0) : ¬ znext τ w c = -4 ∧ znr τ w c = zfirst (znextP τ w c) (τ.1 0) ∧ (τ.2 1 (znr τ w c) = c ∨ τ.2 2 (znr τ w c) = c) := by
  have h16 := hok.1
  unfold znr at h2 ⊢
  rw [if_neg h] at h2 ⊢
  by_cases q : τ.2 27 (8 * w + c) < 99999 ∧ zfirst (znextP τ w c) (τ.1 0) < τ.1 0
  · rw [if_pos q]
    refine ⟨?_, rfl, ?_⟩
    · unfold znext
      rw [if_pos q]
      intro e
      have e2 := congrArg Int32.toInt e
      rw [zi_of (by omega)] at e2
      have e3 : ((-4 : Int32)).toInt = -4 := rfl
      omega
    · have key : ∀ n, zfirst (znextP τ w c) n < n → znextP τ w c (zfirst (znextP τ w c) n) = true := by
        intro n
        induction n with
        | zero => intro h; exact absurd h (Nat.not_lt_zero _)
        | succ n ih =>
          intro h
          rw [zfirst] at h ⊢
          by_cases a : zfirst (znextP τ w c) n < n
          · rw [if_pos a]; exact ih a
          · rw [if_neg a] at h ⊢
            by_cases b : znextP τ w c n = true
            · rw [if_pos b]; exact b
            · rw [if_neg b] at h; omega
      exact (of_decide_eq_true (key _ q.2)).1
  · rw [if_neg q] at h2
    omega
theorem kstep_1 {τ : MS} {yw yl : Nat} {F : Nat → Nat} {mn go : Nat} (hM : zM (τ.1 4) F) {l : Nat} (hl : l = zbest F (τ.1 4)) (h : τ.2 6 l = yl) : kstep τ yw yl F mn go (znog τ F yl, yl, mn, go) := by
  refine ⟨zM_if hM (fun w => τ.2 6 w = yl), ?_⟩
  rw [zstep_goal hl h]
  exact ⟨fun w hw => (zcp_in hw).symm, rfl, rfl, rfl⟩
theorem kstep_2 {τ : MS} {yw yl : Nat} {F : Nat → Nat} {mn go : Nat} (hM : zM (τ.1 4) F) {l : Nat} (hl : l = zbest F (τ.1 4)) (h1 : ¬ τ.2 6 l = yl) (h2 : znext τ l yl = -4) : kstep τ yw yl F mn go (zgiv F l, yl, mn, go) := by
  refine ⟨zM_if hM (fun w => w = l), ?_⟩
  rw [zstep_none hl h1 h2]
  exact ⟨fun w hw => rfl, rfl, rfl, rfl⟩
theorem kstep_3 {τ : MS} {yw yl : Nat} {F : Nat → Nat} {mn go : Nat} (hM : zM (τ.1 4) F) {l r : Nat} (hl : l = zbest F (τ.1 4)) (h1 : ¬ τ.2 6 l = yl) (h2 : ¬ znext τ l yl = -4) (hr : r = zfirst (znextP τ l yl) (τ.1 0)) (h3 : zshut τ yw r) : kstep τ yw yl F mn go (zseeM τ F r 0, yl, mn, go) := by
  refine ⟨zM_if hM (fun w => (if zshut τ w r then 1 else 0) = 0), ?_⟩
  rw [zstep_shut hl h1 h2 hr h3]
  exact ⟨fun w hw => (zcp_in hw).symm, rfl, rfl, rfl⟩
theorem kstep_4 {τ : MS} {yw yl : Nat} {F : Nat → Nat} {mn go : Nat} (hM : zM (τ.1 4) F) {l r : Nat} (hl : l = zbest F (τ.1 4)) (h1 : ¬ τ.2 6 l = yl) (h2 : ¬ znext τ l yl = -4) (hr : r = zfirst (znextP τ l yl) (τ.1 0)) (h3 : ¬ zshut τ yw r) : kstep τ yw yl F mn go (zseeM τ F r 1, (if τ.2 1 r = yl then τ.2 2 r else τ.2 1 r), mn + τ.2 3 r, go + 1) := by
  refine ⟨zM_if hM (fun w => (if zshut τ w r then 1 else 0) = 1), ?_⟩
  by_cases e : τ.2 1 r = yl
  · rw [zstep_goA hl h1 h2 hr h3 e, if_pos e]
    exact ⟨fun w hw => (zcp_in hw).symm, rfl, rfl, rfl⟩
  · rw [zstep_goB hl h1 h2 hr h3 e, if_neg e]
    exact ⟨fun w hw => (zcp_in hw).symm, rfl, rfl, rfl⟩
theorem zstep_ca {τ : MS} {yw yl : Nat} {F : Nat → Nat} : (zstep τ yw F yl).2.2.2 = 0 ∨ (zstep τ yw F yl).2.2.2 = 1 := by
  unfold zstep
  split
  · exact Or.inl rfl
  · split
    · exact Or.inl rfl
    · split
      · exact Or.inl rfl
      · exact Or.inr rfl
theorem zstep_pl {τ : MS} (hok : mOk τ) {yw yl : Nat} {F : Nat → Nat} (hyl : yl < 8) : (zstep τ yw F yl).2.1 < 8 := by
  unfold zstep
  split
  · exact hyl
  · split
    · exact hyl
    · split
      · exact hyl
      · rename_i h2 h3
        have hlt : zfirst (znextP τ (zbest F (τ.1 4)) yl) (τ.1 0) < τ.1 0 := by
          unfold znext at h2
          by_cases q : τ.2 27 (8 * zbest F (τ.1 4) + yl) < 99999 ∧ zfirst (znextP τ (zbest F (τ.1 4)) yl) (τ.1 0) < τ.1 0
          · exact q.2
          · rw [if_neg q] at h2; exact absurd rfl h2
        have := hok.2.2.2.1 _ hlt
        show (if _ then _ else _) < 8
        split
        · exact this.2.1
        · exact this.1
/-- one turn of a walk -/
theorem kturn {τ : MS} {yw k f n : Nat} {F K : Nat → Nat} {mn as go se yl an : Nat} (h0 : 0 < τ.1 4) (hp : yl ≠ τ.2 6 yw) {yl' mn' go' : Nat} (hk : kstep τ yw yl F mn go (K, yl', mn', go')) :
    zgo τ yw k f (n + 1) F mn as go se yl an = if zgall K (τ.1 4) = 0 then (if an = 0 then (1, mn', as, go') else zloop τ yw k f n (τ.2 5) mn' as go' se yl' (an - 1) (zstep τ yw F yl).2.2.2) else zloop τ yw k f n (zset (τ.1 4) K) mn' as go' se yl' an (zstep τ yw F yl).2.2.2 := by
  obtain ⟨-, h1, h2, h3, h4⟩ := hk
  unfold zgo
  rw [if_neg hp, if_neg (by omega), show n + 1 - 1 = n by omega]
  unfold zaft zthen
  rw [← h2, ← h3, ← h4, ← zgall_cong h1]
  split
  · split
    · rfl
    · exact zloop_cong h0 _ _ _ _ _ _ _ _ _ _ (fun w hw => zcp_in hw)
  · exact zloop_cong h0 _ _ _ _ _ _ _ _ _ _ (zset_cong (fun w hw => (h1 w hw).symm))
