/-! SEVEN ROUNDS OF WAYS ARE AS GOOD AS EIGHT -/
theorem zrel_le (g : Nat → Nat) (f t b a : Nat) : zrel g f t b a ≤ g a := by
  unfold zrel
  by_cases h : a = f
  · rw [if_pos h, h]
    split <;> omega
  · rw [if_neg h]
    exact Nat.le_refl _
theorem zrel_f (g : Nat → Nat) {f t b : Nat} (h : g t < 99999) : zrel g f t b f ≤ g t + b := by
  unfold zrel
  rw [if_pos rfl]
  split <;> omega
theorem zrs_le (τ : MS) (w : Nat) (g : Nat → Nat) (a : Nat) : ∀ r, zrs τ w g r a ≤ g a
  | 0 => Nat.le_refl _
  | r + 1 => by
    rw [zrs]
    split
    · exact zrs_le τ w g a r
    · exact Nat.le_trans (zrel_le _ _ _ _ _) (Nat.le_trans (zrel_le _ _ _ _ _) (zrs_le τ w g a r))
theorem zrs_mono (τ : MS) (w : Nat) (g : Nat → Nat) (a : Nat) {r : Nat} : ∀ {n : Nat}, r ≤ n → zrs τ w g n a ≤ zrs τ w g r a
  | 0, h => by rw [Nat.le_zero.mp h]; exact Nat.le_refl _
  | n + 1, h => by
    rcases Nat.lt_or_ge n r with q | q
    · rw [show r = n + 1 by omega]; exact Nat.le_refl _
    · refine Nat.le_trans ?_ (zrs_mono τ w g a q)
      rw [zrs]
      split
      · exact Nat.le_refl _
      · exact Nat.le_trans (zrel_le _ _ _ _ _) (zrel_le _ _ _ _ _)
theorem zts_mono (τ : MS) (w : Nat) (g : Nat → Nat) (a : Nat) {r : Nat} : ∀ {n : Nat}, r ≤ n → zts τ w g n a ≤ zts τ w g r a
  | 0, h => by rw [Nat.le_zero.mp h]; exact Nat.le_refl _
  | n + 1, h => by
    rcases Nat.lt_or_ge n r with q | q
    · rw [show r = n + 1 by omega]; exact Nat.le_refl _
    · exact Nat.le_trans (zrs_le _ _ _ _ _) (zts_mono τ w g a q)
/-- a round looks along every open road, both ways -/
theorem zrs_rel (τ : MS) (w : Nat) (g : Nat → Nat) {r n : Nat} (hr : r < n) (ho : ¬ zshut τ w r) : (g (8 * w + τ.2 2 r) < 99999 → zrs τ w g n (8 * w + τ.2 1 r) ≤ g (8 * w + τ.2 2 r) + τ.2 3 r) ∧ (g (8 * w + τ.2 1 r) < 99999 → zrs τ w g n (8 * w + τ.2 2 r) ≤ g (8 * w + τ.2 1 r) + τ.2 3 r) := by
  have hm := fun a => zrs_mono τ w g a (show r + 1 ≤ n from hr)
  have e : zrs τ w g (r + 1) = zrel (zrel (zrs τ w g r) (8 * w + τ.2 1 r) (8 * w + τ.2 2 r) (τ.2 3 r)) (8 * w + τ.2 2 r) (8 * w + τ.2 1 r) (τ.2 3 r) := by rw [zrs, if_neg ho]
  have hl := fun a => zrs_le τ w g a r
  refine ⟨fun h => ?_, fun h => ?_⟩
  · have h1 := hm (8 * w + τ.2 1 r)
    rw [e] at h1
    have h2 := zrel_le (zrel (zrs τ w g r) (8 * w + τ.2 1 r) (8 * w + τ.2 2 r) (τ.2 3 r)) (8 * w + τ.2 2 r) (8 * w + τ.2 1 r) (τ.2 3 r) (8 * w + τ.2 1 r)
    have h3 := hl (8 * w + τ.2 2 r)
    have h4 := zrel_f (zrs τ w g r) (f := 8 * w + τ.2 1 r) (t := 8 * w + τ.2 2 r) (b := τ.2 3 r) (by omega)
    omega
  · have h1 := hm (8 * w + τ.2 2 r)
    rw [e] at h1
    have h3 := hl (8 * w + τ.2 1 r)
    have h5 := zrel_le (zrs τ w g r) (8 * w + τ.2 1 r) (8 * w + τ.2 2 r) (τ.2 3 r) (8 * w + τ.2 1 r)
    have h4 := zrel_f (zrel (zrs τ w g r) (8 * w + τ.2 1 r) (8 * w + τ.2 2 r) (τ.2 3 r)) (f := 8 * w + τ.2 2 r) (t := 8 * w + τ.2 1 r) (b := τ.2 3 r) (by omega)
    omega
/-- a way that is known comes from a crossing beside it -/
def zsup (τ : MS) (w gl : Nat) (g : Nat → Nat) : Prop := ∀ c, c < 8 → c ≠ gl → g (8 * w + c) < 99999 → ∃ r u, r < τ.1 0 ∧ ¬ zshut τ w r ∧ u < 8 ∧ ((τ.2 1 r = c ∧ τ.2 2 r = u) ∨ (τ.2 2 r = c ∧ τ.2 1 r = u)) ∧ g (8 * w + u) + τ.2 3 r ≤ g (8 * w + c)
theorem zsup_rel {τ : MS} {w gl : Nat} {g : Nat → Nat} (h : zsup τ w gl g) {r x y : Nat} (hr : r < τ.1 0) (ho : ¬ zshut τ w r) (hx : x < 8) (hy : y < 8) (hxy : (τ.2 1 r = x ∧ τ.2 2 r = y) ∨ (τ.2 2 r = x ∧ τ.2 1 r = y)) : zsup τ w gl (zrel g (8 * w + x) (8 * w + y) (τ.2 3 r)) := fun c hc hg hk => by
  by_cases h1 : c = x ∧ g (8 * w + y) < 99999 ∧ g (8 * w + y) + τ.2 3 r < g (8 * w + x)
  · obtain ⟨h1, h2, h3⟩ := h1
    refine ⟨r, y, hr, ho, hy, by rw [h1]; exact hxy, ?_⟩
    have h4 := zrel_le g (8 * w + x) (8 * w + y) (τ.2 3 r) (8 * w + y)
    have h5 : zrel g (8 * w + x) (8 * w + y) (τ.2 3 r) (8 * w + c) = g (8 * w + y) + τ.2 3 r := by
      unfold zrel
      rw [h1, if_pos rfl, if_pos ⟨h2, h3⟩]
    omega
  · have h5 : zrel g (8 * w + x) (8 * w + y) (τ.2 3 r) (8 * w + c) = g (8 * w + c) := by
      unfold zrel
      by_cases h2 : 8 * w + c = 8 * w + x
      · rw [if_pos h2, if_neg (fun q => h1 ⟨by omega, q⟩), h2]
      · rw [if_neg h2]
    rw [h5] at hk ⊢
    obtain ⟨r', u, k1, k2, k3, k4, k5⟩ := h c hc hg hk
    exact ⟨r', u, k1, k2, k3, k4, Nat.le_trans (Nat.add_le_add_right (zrel_le _ _ _ _ _) _) k5⟩
theorem zsup_rs {τ : MS} (hok : mOk τ) {w gl : Nat} {g : Nat → Nat} (h : zsup τ w gl g) : ∀ r, r ≤ τ.1 0 → zsup τ w gl (zrs τ w g r)
  | 0, _ => h
  | r + 1, hr => by
    have h7 := hok.2.2.2.1 r (by omega)
    rw [zrs]
    by_cases ho : zshut τ w r
    · rw [if_pos ho]; exact zsup_rs hok h r (by omega)
    · rw [if_neg ho]
      exact zsup_rel (zsup_rel (zsup_rs hok h r (by omega)) hr ho h7.1 h7.2.1 (Or.inl ⟨rfl, rfl⟩)) hr ho h7.2.1 h7.1 (Or.inr ⟨rfl, rfl⟩)
theorem zsup_ts {τ : MS} (hok : mOk τ) {w gl : Nat} {g : Nat → Nat} (h : zsup τ w gl g) : ∀ n, zsup τ w gl (zts τ w g n)
  | 0 => h
  | n + 1 => zsup_rs hok (zsup_ts hok h n) _ (Nat.le_refl _)
theorem zsum_le2 {f g : Nat → Nat} : ∀ {n : Nat}, (∀ k, k < n → f k ≤ g k) → zsum f n ≤ zsum g n
  | 0, _ => Nat.le_refl _
  | n + 1, h => Nat.add_le_add (zsum_le2 (fun k hk => h k (by omega))) (h n (by omega))
theorem zsum_lt {f g : Nat → Nat} : ∀ {n : Nat}, (∀ k, k < n → f k ≤ g k) → ∀ v, v < n → f v < g v → zsum f n < zsum g n
  | 0, _, v, hv, _ => absurd hv (Nat.not_lt_zero v)
  | n + 1, h, v, hv, h1 => by
    rcases Nat.lt_or_ge v n with q | q
    · exact Nat.add_lt_add_of_lt_of_le (zsum_lt (fun k hk => h k (by omega)) v q h1) (h n (by omega))
    · have e : v = n := by omega
      subst e
      exact Nat.add_lt_add_of_le_of_lt (zsum_le2 (fun k hk => h k (by omega))) h1
theorem zsum_all {f : Nat → Nat} {n : Nat} (h : ∀ k, k < n → f k ≤ 1) (hs : zsum f n = n) : ∀ v, v < n → f v = 1 := fun v hv => by
  have h1 := h v hv
  rcases Nat.lt_or_ge (f v) 1 with q | q
  · have h2 := zsum_lt (f := f) (g := fun _ => 1) h v hv q
    have h3 := zsum_le (f := fun _ => 1) (b := 1) n (fun _ _ => Nat.le_refl 1)
    omega
  · omega
/-- some number of rounds is enough -/
theorem zts_fix {τ : MS} (hok : mOk τ) {w : Nat} {g : Nat → Nat} : ∀ m n, zsum (fun c => zts τ w g n (8 * w + c)) 8 ≤ m → ∃ N, zts τ w g (N + 1) = zts τ w g N
  | m, n, h => by
    by_cases e : ∀ c, c < 8 → zts τ w g (n + 1) (8 * w + c) = zts τ w g n (8 * w + c)
    · refine ⟨n, funext fun a => ?_⟩
      by_cases ha : 8 * w ≤ a ∧ a < 8 * w + 8
      · have q := e (a - 8 * w) (by omega)
        rw [show 8 * w + (a - 8 * w) = a by omega] at q
        exact q
      · exact zrs_row hok (by omega) _ (Nat.le_refl _)
    · have hlt : zsum (fun c => zts τ w g (n + 1) (8 * w + c)) 8 < zsum (fun c => zts τ w g n (8 * w + c)) 8 := by
        have e2 : ∃ c, c < 8 ∧ zts τ w g (n + 1) (8 * w + c) ≠ zts τ w g n (8 * w + c) := Classical.byContradiction fun q => e fun c hc => Classical.byContradiction fun q2 => q ⟨c, hc, q2⟩
        obtain ⟨c, hc, q⟩ := e2
        have hle : ∀ c, c < 8 → zts τ w g (n + 1) (8 * w + c) ≤ zts τ w g n (8 * w + c) := fun c _ => zts_mono τ w g _ (Nat.le_succ n)
        exact zsum_lt hle c hc (Nat.lt_of_le_of_ne (hle c hc) q)
      match m, h with
      | 0, h => omega
      | m + 1, h => exact zts_fix hok m (n + 1) (by omega)
theorem zts_stay {τ : MS} {w : Nat} {g : Nat → Nat} {N : Nat} (h : zts τ w g (N + 1) = zts τ w g N) : ∀ n, N ≤ n → zts τ w g n = zts τ w g N
  | 0, hn => by rw [Nat.le_zero.mp hn]
  | n + 1, hn => by
    rcases Nat.lt_or_ge n N with q | q
    · rw [show N = n + 1 by omega]
    · rw [zts, zts_stay h n q]
      exact h
theorem zmin {P : Nat → Prop} {D : Nat → Nat} : ∀ m, (∃ v, v < 8 ∧ P v ∧ D v ≤ m) → ∃ v, v < 8 ∧ P v ∧ ∀ u, u < 8 → P u → D v ≤ D u
  | 0, ⟨v, h1, h2, h3⟩ => ⟨v, h1, h2, fun u _ _ => by omega⟩
  | m + 1, ⟨v, h1, h2, h3⟩ => by
    by_cases h : ∃ v, v < 8 ∧ P v ∧ D v ≤ m
    · exact zmin m h
    · refine ⟨v, h1, h2, fun u k1 k2 => ?_⟩
      rcases Nat.lt_or_ge m (D u) with q | q
      · omega
      · exact absurd ⟨u, k1, k2, q⟩ h
theorem zts_78 {τ : MS} (hok : mOk τ) {w gl : Nat} {g : Nat → Nat} (hgl : gl < 8) (h0 : g (8 * w + gl) = 0) (hW : zWok g) (hs : zsup τ w gl g) : zts τ w g 8 = zts τ w g 7 := by
  obtain ⟨N, hN⟩ := zts_fix hok (w := w) (g := g) _ 0 (Nat.le_refl _)
  have hD : ∀ n a, zts τ w g N a ≤ zts τ w g n a := fun n a => by
    rcases Nat.lt_or_ge n N with q | q
    · exact zts_mono τ w g a (by omega)
    · rw [zts_stay hN n q]; exact Nat.le_refl _
  have hsN := zsup_ts hok hs N
  have z0 : ∀ n, zts τ w g n (8 * w + gl) = 0 := fun n => by
    have := zts_mono τ w g (8 * w + gl) (Nat.zero_le n)
    have e : zts τ w g 0 (8 * w + gl) = 0 := h0
    omega
  have hf : ∀ n c, (fun c => if zts τ w g n (8 * w + c) = zts τ w g N (8 * w + c) then 1 else 0) c ≤ 1 := fun n c => by
    show (if zts τ w g n (8 * w + c) = zts τ w g N (8 * w + c) then 1 else 0) ≤ 1
    split <;> omega
  have key : ∀ n, n ≤ 7 → n + 1 ≤ zsum (fun c => if zts τ w g n (8 * w + c) = zts τ w g N (8 * w + c) then 1 else 0) 8 := by
    intro n
    induction n with
    | zero =>
      intro _
      have q := zsum_lt (n := 8) (f := fun _ => 0) (g := fun c => if zts τ w g 0 (8 * w + c) = zts τ w g N (8 * w + c) then 1 else 0) (fun _ _ => Nat.zero_le _) gl hgl (by
        show 0 < (if zts τ w g 0 (8 * w + gl) = zts τ w g N (8 * w + gl) then 1 else 0)
        rw [if_pos (by rw [z0, z0])]; decide)
      omega
    | succ n ih =>
      intro hn
      have ih := ih (by omega)
      have hle : ∀ c, c < 8 → (fun c => if zts τ w g n (8 * w + c) = zts τ w g N (8 * w + c) then 1 else 0) c ≤ (fun c => if zts τ w g (n + 1) (8 * w + c) = zts τ w g N (8 * w + c) then 1 else 0) c := fun c _ => by
        show (if zts τ w g n (8 * w + c) = zts τ w g N (8 * w + c) then 1 else 0) ≤ (if zts τ w g (n + 1) (8 * w + c) = zts τ w g N (8 * w + c) then 1 else 0)
        by_cases e : zts τ w g n (8 * w + c) = zts τ w g N (8 * w + c)
        · have e2 : zts τ w g (n + 1) (8 * w + c) = zts τ w g N (8 * w + c) := by
            have k1 := zts_mono τ w g (8 * w + c) (show n ≤ n + 1 by omega)
            have k2 := hD (n + 1) (8 * w + c)
            omega
          rw [if_pos e2, if_pos e]; exact Nat.le_refl _
        · rw [if_neg e]; exact Nat.zero_le _
      by_cases hall : ∃ v, v < 8 ∧ zts τ w g n (8 * w + v) ≠ zts τ w g N (8 * w + v)
      · obtain ⟨v0, hv0, hp0⟩ := hall
        obtain ⟨v, hv, hp, hmin⟩ := zmin (P := fun v => zts τ w g n (8 * w + v) ≠ zts τ w g N (8 * w + v)) (D := fun v => zts τ w g N (8 * w + v)) _ ⟨v0, hv0, hp0, Nat.le_refl _⟩
        have hdv := hD n (8 * w + v)
        have hWn := zWok_ts (σ := τ) (w := w) hW n (8 * w + v)
        have hvg : v ≠ gl := fun q => hp (by rw [q, z0, z0])
        obtain ⟨r, u, k1, k2, k3, k4, k5⟩ := hsN v hv hvg (by omega)
        have h7 := hok.2.2.2.1 r k1
        have hu : zts τ w g n (8 * w + u) = zts τ w g N (8 * w + u) := Classical.byContradiction fun q => by
          have q2 := hmin u k3 q
          have q3 : zts τ w g N (8 * w + v) ≤ zts τ w g N (8 * w + u) := q2
          omega
        have hrel := zrs_rel τ w (zts τ w g n) k1 k2
        have hnew : zts τ w g (n + 1) (8 * w + v) ≤ zts τ w g N (8 * w + v) := by
          rcases k4 with ⟨e1, e2⟩ | ⟨e1, e2⟩
          · have q := hrel.1
            rw [e1, e2] at q
            exact Nat.le_trans (q (by omega)) (by omega)
          · have q := hrel.2
            rw [e1, e2] at q
            exact Nat.le_trans (q (by omega)) (by omega)
        have hd2 := hD (n + 1) (8 * w + v)
        have q := zsum_lt hle v hv (by
          show (if zts τ w g n (8 * w + v) = zts τ w g N (8 * w + v) then 1 else 0) < (if zts τ w g (n + 1) (8 * w + v) = zts τ w g N (8 * w + v) then 1 else 0)
          rw [if_neg hp, if_pos (by omega)]; decide)
        omega
      · have e8 : zsum (fun c => if zts τ w g n (8 * w + c) = zts τ w g N (8 * w + c) then 1 else 0) 8 = 8 := by
          rw [zsum_cong (g := fun _ => 1) 8 (fun c hc => if_pos (Classical.byContradiction fun q => hall ⟨c, hc, q⟩))]
          rfl
        have q := zsum_le2 hle
        omega
  have k7 := key 7 (Nat.le_refl _)
  have l7 := zsum_le (f := fun c => if zts τ w g 7 (8 * w + c) = zts τ w g N (8 * w + c) then 1 else 0) (b := 1) 8 (fun c _ => hf 7 c)
  have a7 := zsum_all (n := 8) (fun c _ => hf 7 c) (by omega)
  funext a
  by_cases ha : 8 * w ≤ a ∧ a < 8 * w + 8
  · have q : (if zts τ w g 7 (8 * w + (a - 8 * w)) = zts τ w g N (8 * w + (a - 8 * w)) then 1 else 0) = 1 := a7 (a - 8 * w) (by omega)
    rw [show 8 * w + (a - 8 * w) = a by omega] at q
    have q2 : zts τ w g 7 a = zts τ w g N a := Classical.byContradiction fun q3 => by rw [if_neg q3] at q; omega
    have q4 := hD 8 a
    have q5 := zts_mono τ w g a (show 7 ≤ 8 by decide)
    omega
  · exact zrs_row hok (by omega) _ (Nat.le_refl _)
theorem zsup_init (τ : MS) (w gl : Nat) (g : Nat → Nat) : zsup τ w gl (zinit g w gl 8) := fun c hc hg h => by
  unfold zinit at h
  rw [if_pos (by omega), if_neg (by omega)] at h
  omega
/-- the class's ways are the model's -/
theorem zwc_ws {τ : MS} (hok : mOk τ) {g : Nat → Nat} (hW : zWok g) : ∀ n, n ≤ τ.1 4 → zwc τ g n = zws τ g n
  | 0, _ => rfl
  | n + 1, hn => by
    have h6 := (hok.2.2.2.2.1 n (by omega)).2.2.1
    rw [zwc, zws, zwc_ws hok hW n (by omega)]
    refine (zts_78 hok h6 ?_ (zWok_init (zWok_ws hW n) _ _ _) (zsup_init τ n _ _)).symm
    unfold zinit
    rw [if_pos (by omega), if_pos (by omega)]
