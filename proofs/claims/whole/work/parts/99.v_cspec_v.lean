/-! WEIGHT, KEEP, ROW -/
theorem zsh_l {ρ : MS} {xd : Int32} (hs : zSh ρ) (h : ¬ (zir xd 8 ∧ ρ.2 41 xd.toInt.toNat = 1)) : shL (ρ.2 41) xd = zshK ρ xd ∧ zshK ρ xd < 0 := by
  unfold zshK
  by_cases hd : zir xd 8
  · have q := shL_ru hs hd h
    rw [if_pos (show 0 ≤ xd.toInt ∧ xd.toInt < 8 from ⟨hd.1, hd.2⟩)]
    exact q
  · rw [if_neg (fun q => hd ⟨q.1, by have := q.2; omega⟩)]
    exact ⟨if_pos hd, by decide⟩
theorem zshK_j {ρ : MS} {j : Nat} (hj : j < 8) (h : ρ.2 41 j = 1) : zshK ρ (nI j) = 0 := by
  unfold zshK
  rw [if_pos (show 0 ≤ (nI j).toInt ∧ (nI j).toInt < 8 by rw [zi_of (by omega)]; omega), nI_N (by omega)]
  unfold zrulK
  rw [if_neg (by omega), if_pos h]
theorem zweig_l {ρ : MS} {xd : Int32} (hs : zSh ρ) (h : ¬ (zir xd 8 ∧ ρ.2 41 xd.toInt.toNat = 1)) : shL (ρ.2 41) xd = zweightS ρ xd := by
  have q := zsh_l hs h
  unfold zweightS
  rw [if_pos q.2]
  exact q.1
theorem zweig_v {ρ : MS} {j : Nat} (hj : j < 8) (h : ρ.2 41 j = 1) : nI (zweigh (ρ.2 42 j) (ρ.2 43 j)) = zweightS ρ (nI j) := by
  unfold zweightS
  rw [zshK_j hj h, if_neg z0_lt, nI_N (by omega)]
abbrev zkpT (ρ : MS) (d w k f : Nat) : MS := sE (sE (sE ρ 41 d w) 42 d k) 43 d f
theorem zkp_41 {ρ : MS} {d w k f j : Nat} : (zkpT ρ d w k f).2 41 j = if j = d then w else ρ.2 41 j := rfl
theorem zkp_42 {ρ : MS} {d w k f j : Nat} : (zkpT ρ d w k f).2 42 j = if j = d then k else ρ.2 42 j := rfl
theorem zkp_43 {ρ : MS} {d w k f j : Nat} : (zkpT ρ d w k f).2 43 j = if j = d then f else ρ.2 43 j := rfl
abbrev zrwT (ρ : MS) (d t n : Nat) : MS := sA (sE (sE (sE ρ 41 d 2) 44 d t) 45 d n) 46 (zrw (ρ.2 46) d 100)
theorem zrw_41 {ρ : MS} {d t n j : Nat} : (zrwT ρ d t n).2 41 j = if j = d then 2 else ρ.2 41 j := rfl
theorem zrw_44 {ρ : MS} {d t n j : Nat} : (zrwT ρ d t n).2 44 j = if j = d then t else ρ.2 44 j := rfl
theorem zrw_45 {ρ : MS} {d t n j : Nat} : (zrwT ρ d t n).2 45 j = if j = d then n else ρ.2 45 j := rfl
theorem zrw_46 {ρ : MS} {d t n a : Nat} : (zrwT ρ d t n).2 46 a = if 100 * d ≤ a ∧ a < 100 * d + 100 then 0 else ρ.2 46 a := rfl
theorem vz_up_at {α : Type} {f : Nat → α} {d : Nat} {v : α} : va_up f d v d = v := if_pos rfl
theorem vz_up_ne {α : Type} {f : Nat → α} {d j : Nat} {v : α} (h : j ≠ d) : va_up f d v j = f j := if_neg h
section KP
variable {Z : Nat → ClassId} {o : Nat × Nat × Nat} {x0 x1 x2 x3 x4 x5 x6 x7 x8 x9 hi d : Nat} {sb sc : Nat → Nat} {ρ : MS} {k f u v t n : Nat}
theorem an_keep0 : anQ Z o x0 x1 x2 x3 x4 x5 x6 x7 x8 x9 hi (va_up (shR sb (ρ.2 41) 1) d none) (va_up (shR sb (ρ.2 41) 2) d none) = anP Z o x0 x1 x2 x3 x4 x5 x6 x7 x8 x9 hi sb ((zkpT ρ d 0 k f).2 41) := by
  have e : (zkpT ρ d 0 k f).2 41 d = 0 := if_pos rfl
  exact anQ_up (fun j hj => ⟨rfl, if_neg hj⟩) (shR_n (by omega)) (shR_n (by omega))
theorem an_keep1 (hd : d < 8) : anQ Z o x0 x1 x2 x3 x4 x5 x6 x7 x8 x9 hi (va_up (shR sb (ρ.2 41) 1) d (some u)) (va_up (shR sb (ρ.2 41) 2) d none) = anP Z o x0 x1 x2 x3 x4 x5 x6 x7 x8 x9 hi (va_up sb d u) ((zkpT ρ d 1 k f).2 41) := by
  have e : (zkpT ρ d 1 k f).2 41 d = 1 := if_pos rfl
  exact anQ_up (fun j hj => ⟨vz_up_ne hj, if_neg hj⟩) (by rw [shR_s hd e, vz_up_at]) (shR_n (by omega))
theorem an_row (hd : d < 8) : anQ Z o x0 x1 x2 x3 x4 x5 x6 x7 x8 x9 hi (va_up (shR sb (ρ.2 41) 1) d none) (va_up (shR sb (ρ.2 41) 2) d (some u)) = anP Z o x0 x1 x2 x3 x4 x5 x6 x7 x8 x9 hi (va_up sb d u) ((zrwT ρ d t n).2 41) := by
  have e : (zrwT ρ d t n).2 41 d = 2 := if_pos rfl
  exact anQ_up (fun j hj => ⟨vz_up_ne hj, if_neg hj⟩) (shR_n (by omega)) (by rw [shR_s hd e, vz_up_at])
theorem shF_at {sb' sc' : Nat → Nat} {ρ' : MS} {i : Nat} (hb : sb' i = sb i) (hc : sc' i = sc i) (h1 : ρ'.2 41 i = ρ.2 41 i) (h2 : ρ'.2 42 i = ρ.2 42 i) (h3 : ρ'.2 43 i = ρ.2 43 i) (h4 : ρ'.2 44 i = ρ.2 44 i) (h5 : ρ'.2 45 i = ρ.2 45 i) (h : ρ.2 41 i = 2 → ∀ k, k < ρ.2 45 i → ρ'.2 46 (100 * i + k) = ρ.2 46 (100 * i + k)) : shF Z sb sc ρ i = shF Z sb' sc' ρ' i := by
  rw [shF_ne h1 h2 h3 h4 h5 h]
  unfold shF
  rw [hb, hc]
theorem shF_keep0 : ∀ i, i < 8 → shUp (shF Z sb sc ρ) d [] i = shF Z sb sc (zkpT ρ d 0 k f) i := by
  intro i hi
  unfold shUp
  by_cases e : i = d
  · subst e
    have e1 : (zkpT ρ i 0 k f).2 41 i = 0 := if_pos rfl
    rw [if_pos rfl, shF_0 e1]
  · rw [if_neg e]
    exact shF_at rfl rfl (if_neg e) (if_neg e) (if_neg e) rfl rfl (fun _ _ _ => rfl)
theorem shF_keep1 : ∀ i, i < 8 → shUp (shF Z sb sc ρ) d (ruP u k f) i = shF Z (va_up sb d u) sc (zkpT ρ d 1 k f) i := by
  intro i hi
  unfold shUp
  by_cases e : i = d
  · subst e
    have e1 : (zkpT ρ i 1 k f).2 41 i = 1 := if_pos rfl
    have e2 : (zkpT ρ i 1 k f).2 42 i = k := if_pos rfl
    have e3 : (zkpT ρ i 1 k f).2 43 i = f := if_pos rfl
    rw [if_pos rfl, shF_1 e1, e2, e3, vz_up_at]
  · rw [if_neg e]
    exact shF_at (vz_up_ne e) rfl (if_neg e) (if_neg e) (if_neg e) rfl rfl (fun _ _ _ => rfl)
theorem shF_row (hs : zSh ρ) (hn : n ≤ 100) : ∀ i, i < 8 → shUp (shF Z sb sc ρ) d (roP Z (u, v) t n (fun _ => 0)) i = shF Z (va_up sb d u) (va_up sc d v) (zrwT ρ d t n) i := by
  intro i hi
  unfold shUp
  by_cases e : i = d
  · subst e
    have e1 : (zrwT ρ i t n).2 41 i = 2 := if_pos rfl
    have e4 : (zrwT ρ i t n).2 44 i = t := if_pos rfl
    have e5 : (zrwT ρ i t n).2 45 i = n := if_pos rfl
    have e6 : sel (zrwT ρ i t n) i = fun _ => 0 := by
      funext k
      unfold sel
      rw [e5]
      by_cases h : k < n
      · rw [if_pos h, zrw_46, if_pos (by omega)]
        rfl
      · rw [if_neg h]
    rw [if_pos rfl, shF_2 e1, e4, e5, e6, vz_up_at, vz_up_at]
  · rw [if_neg e]
    refine shF_at (vz_up_ne e) (vz_up_ne e) (if_neg e) rfl rfl (if_neg e) (if_neg e) (fun e2 k hk => ?_)
    have h9 := (hs.2.2 i hi e2).2
    rw [zrw_46, if_neg (by omega)]
end KP
theorem zkp_n {ρ : MS} {d w k f : Int32} (h : ¬ zkeepV d w k f) : (-1 : Int32) = zkeepSS d w k f ∧ ρ = zkeepTT ρ d w k f := ⟨(if_neg h).symm, (if_neg h).symm⟩
theorem zkp_0 {ρ : MS} {d : Nat} {k f : Int32} (hd : d < 8) : nI 0 = zkeepSS (nI d) (nI 0) k f ∧ zkpT ρ d 0 (iN k) (iN f) = zkeepTT ρ (nI d) (nI 0) k f := by
  have h : zkeepV (nI d) (nI 0) k f := ⟨zir_N hd (by decide), zir_N (by decide) (by decide), fun q => absurd q (by decide)⟩
  unfold zkeepSS zkeepTT
  rw [if_pos h, if_pos h, nI_N (by omega), nI_N (by omega)]
  exact ⟨rfl, rfl⟩
theorem zkp_1 {ρ : MS} {d k f : Nat} (hd : d < 8) (hk : k < 6) (hf : f < 100) : nI 0 = zkeepSS (nI d) (nI 1) (nI k) (nI f) ∧ zkpT ρ d 1 k f = zkeepTT ρ (nI d) (nI 1) (nI k) (nI f) := by
  have h : zkeepV (nI d) (nI 1) (nI k) (nI f) := ⟨zir_N hd (by decide), zir_N (by decide) (by decide), fun q => ⟨zir_N hk (by decide), zir_N hf (by decide)⟩⟩
  unfold zkeepSS zkeepTT
  rw [if_pos h, if_pos h, nI_N (show d < 2147483648 by omega), nI_N (show 1 < 2147483648 by omega), iN_nI (show k < 4294967296 by omega), iN_nI (show f < 4294967296 by omega)]
  exact ⟨rfl, rfl⟩
theorem zrwS_n {ρ : MS} {d t n : Int32} (h : ¬ zrowV d t n) : (-1 : Int32) = zrowS d t n ∧ ρ = zrowT ρ d t n := ⟨(if_pos h).symm, (if_pos h).symm⟩
theorem zrwS_l {ρ : MS} {d t n : Int32} (h : zrowV d t n) (hn : n < 0) : (-14 : Int32) = zrowS d t n ∧ ρ = zrowT ρ d t n := by
  have h' : ¬ ¬ zrowV d t n := fun q => q h
  unfold zrowS zrowT
  rw [if_neg h', if_neg h', if_pos hn, if_pos hn]
  exact ⟨rfl, rfl⟩
theorem zrwS_v {ρ : MS} {d t n : Nat} (hd : d < 8) (ht : t < 3) (hn : n ≤ 100) : nI 0 = zrowS (nI d) (nI t) (nI n) ∧ zrwT ρ d t n = zrowT ρ (nI d) (nI t) (nI n) := by
  have h : zrowV (nI d) (nI t) (nI n) := ⟨zir_N hd (by decide), zir_N ht (by decide), by rw [zn_le (by omega) (by omega)]; exact hn⟩
  have h2 : ¬ nI n < 0 := by rw [zn_lt0 (by omega)]; exact id
  have h' : ¬ ¬ zrowV (nI d) (nI t) (nI n) := fun q => q h
  unfold zrowS zrowT
  rw [if_neg h', if_neg h', if_neg h2, if_neg h2, nI_N (show d < 2147483648 by omega), nI_N (show t < 2147483648 by omega), nI_N (show n < 2147483648 by omega)]
  exact ⟨rfl, rfl⟩
theorem zir2_1 {w : Int32} (h : zir w 2) (h0 : ¬ w = 0) : w = nI 1 := by
  obtain ⟨j, hj, rfl⟩ := zir_of (by decide) h
  rcases (show j = 0 ∨ j = 1 by omega) with rfl | rfl
  · exact absurd rfl h0
  · rfl
/-! BEST, SEEN FROM THE FACE -/
def zbeF (τ ρ : MS) (d f n z : Nat) : Nat → Nat := fun i => zmeans τ (sel ρ d i).toInt.toNat f n z
theorem zbeF_is {τ ρ : MS} {d f n z i kd : Nat} (h : sel ρ d i = nI kd) (hk : kd < 6) : zmeans τ kd f n z = zbeF τ ρ d f n z i := by
  unfold zbeF
  rw [h, nI_N (by omega)]
theorem zbeF_lt {τ ρ : MS} {d f n z i : Nat} (hok : mOk τ) (hf : f < 100) (hn : 1 ≤ n ∧ n ≤ 20) : zbeF τ ρ d f n z i < 2147483648 := zmeans_lt hok hf (by omega)
theorem zhk_of {g : Nat → Int32} {n : Nat} (h : zhkD g n = true) : (1 ≤ n ∧ n ≤ 6) ∧ ∀ i, i < n → zir (g i) 6 := by
  unfold zhkD at h
  rw [Bool.and_eq_true, decide_eq_true_iff, zhkA_all] at h
  exact h
def zbestC (τ ρ : MS) (d f n : Int32) (z : Nat) : Int32 := if ¬ (zir d 8 ∧ zir f 100 ∧ zseeds n) then -1 else if zrowK ρ d < 0 then zrowK ρ d else if ρ.2 44 d.toInt.toNat ≠ 0 then -12 else if ¬ zhkD (sel ρ d.toInt.toNat) (ρ.2 45 d.toInt.toNat) = true then -13 else if ¬ zready τ then -3 else nI (zleast (zbeF τ ρ d.toInt.toNat f.toInt.toNat n.toInt.toNat z) (ρ.2 45 d.toInt.toNat))
theorem zbestC_n {τ ρ : MS} {d f n : Int32} {z : Nat} (h : ¬ (zir d 8 ∧ zir f 100 ∧ zseeds n)) : (-1 : Int32) = zbestC τ ρ d f n z := (if_pos h).symm
theorem zbestC_l {τ ρ : MS} {d f n z : Nat} (hs : zSh ρ) (hd : d < 8) (hf : f < 100) (hn : 1 ≤ n ∧ n ≤ 20) (h : ¬ ρ.2 41 d = 2) : shL (ρ.2 41) (nI d) = zbestC τ ρ (nI d) (nI f) (nI n) z := by
  have q := shL_ro (xd := nI d) (fun q => h (by have := q.2; rw [nI_N (by omega)] at this; exact this)) hs
  unfold zbestC
  rw [if_neg (fun q => q ⟨zir_N hd (by decide), zir_N hf (by decide), zsd_N hn⟩), if_pos q.2]
  exact q.1
theorem zbestC_v {τ ρ : MS} {d f n z : Nat} (hd : d < 8) (hf : f < 100) (hn : 1 ≤ n ∧ n ≤ 20) (h : ρ.2 41 d = 2) : zbestC τ ρ (nI d) (nI f) (nI n) z = if ρ.2 44 d ≠ 0 then -12 else if ¬ zhkD (sel ρ d) (ρ.2 45 d) = true then -13 else if ¬ zready τ then -3 else nI (zleast (zbeF τ ρ d f n z) (ρ.2 45 d)) := by
  unfold zbestC
  rw [if_neg (fun q => q ⟨zir_N hd (by decide), zir_N hf (by decide), zsd_N hn⟩), zrowK_2 hd h, if_neg z0_lt, nI_N (show d < 2147483648 by omega), nI_N (show f < 2147483648 by omega), nI_N (show n < 2147483648 by omega)]
theorem wh_last {s : State} {H : Heap} {locs : List Loc} {D : va_G} {A : Nat → Prop} {qs : List va_W} {x : va_W} (X : wH D vwCl A s.heap H locs (wcat (qs ++ [x]))) : wH D vwCl A s.heap H locs (wcat qs) := by
  rw [wcat_snoc] at X
  exact wh_left X
