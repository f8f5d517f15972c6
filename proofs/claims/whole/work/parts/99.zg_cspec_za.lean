/-! A TEXT READ INTO A LAND: what else the state holds doesn't matter -/
theorem zlike_F {σ τ : MS} {j v : Nat} (h : j = 0 ∨ j = 4 ∨ j = 8 ∨ j = 12 ∨ j = 13) : zlike σ (sF τ j v) = sF (zlike σ τ) j v := by
  refine Prod.ext (funext fun i => ?_) rfl
  show (if i = 0 ∨ i = 4 ∨ i = 8 ∨ i = 12 ∨ i = 13 then (if i = j then v else τ.1 i) else σ.1 i) = if i = j then v else if i = 0 ∨ i = 4 ∨ i = 8 ∨ i = 12 ∨ i = 13 then τ.1 i else σ.1 i
  by_cases e : i = j
  · subst e
    rw [if_pos h, if_pos rfl, if_pos rfl]
  · rw [if_neg e, if_neg e]
theorem zlike_E {σ τ : MS} {J i v : Nat} (h : J = 1 ∨ J = 2 ∨ J = 3 ∨ J = 5 ∨ J = 6 ∨ J = 7 ∨ J = 9 ∨ J = 10 ∨ J = 11) : zlike σ (sE τ J i v) = sE (zlike σ τ) J i v := by
  refine Prod.ext rfl (funext fun I => ?_)
  show (if I = 1 ∨ I = 2 ∨ I = 3 ∨ I = 5 ∨ I = 6 ∨ I = 7 ∨ I = 9 ∨ I = 10 ∨ I = 11 then (if I = J then (fun a => if a = i then v else τ.2 J a) else τ.2 I) else σ.2 I) = if I = J then (fun a => if a = i then v else (if J = 1 ∨ J = 2 ∨ J = 3 ∨ J = 5 ∨ J = 6 ∨ J = 7 ∨ J = 9 ∨ J = 10 ∨ J = 11 then τ.2 J else σ.2 J) a) else if I = 1 ∨ I = 2 ∨ I = 3 ∨ I = 5 ∨ I = 6 ∨ I = 7 ∨ I = 9 ∨ I = 10 ∨ I = 11 then τ.2 I else σ.2 I
  by_cases e : I = J
  · subst e
    rw [if_pos h, if_pos rfl, if_pos rfl, if_pos h]
  · rw [if_neg e, if_neg e]
theorem zit_like {σ τ : MS} {l : Int32} {t : Nat → Nat} : (zitP (zlike σ τ) l t ↔ zitP τ l t) ∧ zitT (zlike σ τ) l t = zlike σ (zitT τ l t) := by
  refine ⟨Iff.rfl, ?_⟩
  have hR : zaRT (zlike σ τ) (t 0) (t 1) (t 2) = zlike σ (zaRT τ (t 0) (t 1) (t 2)) := by
    unfold zaRT
    by_cases q : zaR τ (t 0) (t 1) (t 2)
    · rw [if_pos q, if_pos (show zaR (zlike σ τ) (t 0) (t 1) (t 2) from q), zlike_F (by decide), zlike_E (by decide), zlike_E (by decide), zlike_E (by decide)]
      rfl
    · rw [if_neg q, if_neg (show ¬ zaR (zlike σ τ) (t 0) (t 1) (t 2) from q)]
  have hW : zaWT (zlike σ τ) (t 0) (t 1) (t 2) = zlike σ (zaWT τ (t 0) (t 1) (t 2)) := by
    unfold zaWT
    by_cases q : zaW τ (t 0) (t 1) (t 2)
    · rw [if_pos q, if_pos (show zaW (zlike σ τ) (t 0) (t 1) (t 2) from q), zlike_F (by decide), zlike_E (by decide), zlike_E (by decide), zlike_E (by decide)]
      rfl
    · rw [if_neg q, if_neg (show ¬ zaW (zlike σ τ) (t 0) (t 1) (t 2) from q)]
  have hS : zaST (zlike σ τ) (t 0) (t 1) = zlike σ (zaST τ (t 0) (t 1)) := by
    unfold zaST
    by_cases q : zaS τ (t 0) (t 1)
    · rw [if_pos q, if_pos (show zaS (zlike σ τ) (t 0) (t 1) from q), zlike_F (by decide), zlike_E (by decide), zlike_E (by decide)]
      rfl
    · rw [if_neg q, if_neg (show ¬ zaS (zlike σ τ) (t 0) (t 1) from q)]
  have hM : zaMT (zlike σ τ) (t 0) (t 1) (t 2) = zlike σ (zaMT τ (t 0) (t 1) (t 2)) := by
    unfold zaMT
    by_cases q : zaM τ (t 0) (t 1) (t 2)
    · rw [if_pos q, if_pos (show zaM (zlike σ τ) (t 0) (t 1) (t 2) from q), zlike_E (by decide)]
    · rw [if_neg q, if_neg (show ¬ zaM (zlike σ τ) (t 0) (t 1) (t 2) from q)]
  have hB : zaBT (zlike σ τ) (t 0) = zlike σ (zaBT τ (t 0)) := by
    unfold zaBT
    by_cases q : t 0 < 8
    · rw [if_pos q, if_pos q, zlike_F (by decide)]
    · rw [if_neg q, if_neg q]
  have hA : zaAT (zlike σ τ) (t 0) = zlike σ (zaAT τ (t 0)) := by
    unfold zaAT
    by_cases q : t 0 ≤ 30
    · rw [if_pos q, if_pos q, zlike_F (by decide)]
    · rw [if_neg q, if_neg q]
  unfold zitT
  split
  · exact hR
  · split
    · exact hW
    · split
      · exact hS
      · split
        · exact hM
        · split
          · exact hB
          · split
            · exact hA
            · rfl
theorem zte_like {h : Nat → Int32} {σ : MS} : ∀ (k a : Nat) (t : Nat → Nat) (τ : MS), zte h k a t (zlike σ τ) = ((zte h k a t τ).1, zlike σ (zte h k a t τ).2)
  | 0, _, _, _ => rfl
  | k + 1, a, t, τ => by
    by_cases q : zitP τ (h a) (zpt h a t)
    · rw [zte_go q, zte_go (zit_like.1.mpr q), zit_like.2, zte_like k]
    · rw [zte_bad q, zte_bad (fun w => q (zit_like.1.mp w)), zit_like.2]
theorem zlike_2 {τ σ ρ : MS} : zlike τ (zlike σ ρ) = zlike τ ρ := by
  refine Prod.ext (funext fun i => ?_) (funext fun i => ?_)
  · show (if i = 0 ∨ i = 4 ∨ i = 8 ∨ i = 12 ∨ i = 13 then (if i = 0 ∨ i = 4 ∨ i = 8 ∨ i = 12 ∨ i = 13 then ρ.1 i else σ.1 i) else τ.1 i) = if i = 0 ∨ i = 4 ∨ i = 8 ∨ i = 12 ∨ i = 13 then ρ.1 i else τ.1 i
    split
    · rfl
    · rfl
  · show (if i = 1 ∨ i = 2 ∨ i = 3 ∨ i = 5 ∨ i = 6 ∨ i = 7 ∨ i = 9 ∨ i = 10 ∨ i = 11 then (if i = 1 ∨ i = 2 ∨ i = 3 ∨ i = 5 ∨ i = 6 ∨ i = 7 ∨ i = 9 ∨ i = 10 ∨ i = 11 then ρ.2 i else σ.2 i) else τ.2 i) = if i = 1 ∨ i = 2 ∨ i = 3 ∨ i = 5 ∨ i = 6 ∨ i = 7 ∨ i = 9 ∨ i = 10 ∨ i = 11 then ρ.2 i else τ.2 i
    split
    · rfl
    · rfl
theorem zrd_like {h : Nat → Int32} {n : Nat} {σ τ : MS} {t : Nat → Nat} : zrdR h n (zlike σ τ) t = zrdR h n τ t ∧ zrdT h n (zlike σ τ) t = zlike σ (zrdT h n τ t) := by
  unfold zrdR zrdT
  rw [zte_like]
  split
  · exact ⟨rfl, rfl⟩
  · exact ⟨rfl, rfl⟩
/-- land: the answer, the land and the thought then; t: what the reader was told before -/
def zlanR (ρ τ : MS) (d : Int32) (t : Nat → Nat) : Int32 := if zrowK ρ d < 0 then zrowK ρ d else if ρ.2 44 d.toInt.toNat ≠ 0 then -12 else zrdR (zbA (sel ρ d.toInt.toNat) (ρ.2 45 d.toInt.toNat)) (ρ.2 45 d.toInt.toNat) τ t
def zlanT (ρ τ : MS) (F : Nat → Nat) (d : Int32) (t : Nat → Nat) : MS × (Nat → Nat) := if ¬ 0 < zlanR ρ τ d t then (τ, F) else (zwork (zlike τ (zrdT (zbA (sel ρ d.toInt.toNat) (ρ.2 45 d.toInt.toNat)) (ρ.2 45 d.toInt.toNat) τ t)), zch5 (zwork (zlike τ (zrdT (zbA (sel ρ d.toInt.toNat) (ρ.2 45 d.toInt.toNat)) (ρ.2 45 d.toInt.toNat) τ t))))
theorem zlan_l {ρ τ : MS} {d : Int32} {t : Nat → Nat} (hs : zSh ρ) (h : ¬ (zir d 8 ∧ ρ.2 41 d.toInt.toNat = 2)) : shL (ρ.2 41) d = zlanR ρ τ d t := by
  have q := shL_ro h hs
  unfold zlanR
  rw [if_pos q.2]
  exact q.1
theorem zlan_lT {ρ τ : MS} {F : Nat → Nat} {d : Int32} {t : Nat → Nat} (hs : zSh ρ) (h : ¬ (zir d 8 ∧ ρ.2 41 d.toInt.toNat = 2)) : (τ, F) = zlanT ρ τ F d t := by
  have q := shL_ro h hs
  have e : ¬ 0 < zlanR ρ τ d t := by
    unfold zlanR
    rw [if_pos q.2]
    exact Int32.not_lt.mpr (Int32.le_of_lt q.2)
  unfold zlanT
  rw [if_pos e]
theorem zlan_k {ρ τ : MS} {d : Nat} {t : Nat → Nat} (hd : d < 8) (h : ρ.2 41 d = 2) (h4 : ρ.2 44 d ≠ 0) : (-12 : Int32) = zlanR ρ τ (nI d) t := by
  unfold zlanR
  rw [zrowK_2 hd h, if_neg z0_lt, nI_N (by omega), if_pos h4]
theorem zlan_kT {ρ τ : MS} {F : Nat → Nat} {d : Nat} {t : Nat → Nat} (hd : d < 8) (h : ρ.2 41 d = 2) (h4 : ρ.2 44 d ≠ 0) : (τ, F) = zlanT ρ τ F (nI d) t := by
  unfold zlanT
  rw [← zlan_k hd h h4, if_pos (by decide)]
theorem zlan_is {ρ τ : MS} {d : Nat} {t : Nat → Nat} (hd : d < 8) (h : ρ.2 41 d = 2) (h4 : ρ.2 44 d = 0) : zlanR ρ τ (nI d) t = zrdR (zbA (sel ρ d) (ρ.2 45 d)) (ρ.2 45 d) τ t := by
  unfold zlanR
  rw [zrowK_2 hd h, if_neg z0_lt, nI_N (by omega), if_neg (fun q => q h4)]
theorem zlan_v {ρ τ τt : MS} {d : Nat} {t : Nat → Nat} (hd : d < 8) (h : ρ.2 41 d = 2) (h4 : ρ.2 44 d = 0) : zrdR (zbA (sel ρ d) (ρ.2 45 d)) (ρ.2 45 d) (zlike τt τ) t = zlanR ρ τ (nI d) t := by
  rw [zlan_is hd h h4, zrd_like.1]
theorem zlan_vTn {ρ τ τt : MS} {F : Nat → Nat} {d : Nat} {t : Nat → Nat} (hd : d < 8) (h : ρ.2 41 d = 2) (h4 : ρ.2 44 d = 0) (c : zrdR (zbA (sel ρ d) (ρ.2 45 d)) (ρ.2 45 d) (zlike τt τ) t ≤ 0) : (τ, F) = zlanT ρ τ F (nI d) t := by
  unfold zlanT
  rw [← zlan_v (τt := τt) hd h h4, if_pos (Int32.not_lt.mpr c)]
theorem zlan_vTy {ρ τ τt : MS} {F : Nat → Nat} {d : Nat} {t : Nat → Nat} (hd : d < 8) (h : ρ.2 41 d = 2) (h4 : ρ.2 44 d = 0) (c : ¬ zrdR (zbA (sel ρ d) (ρ.2 45 d)) (ρ.2 45 d) (zlike τt τ) t ≤ 0) : (zwork (zlike τ (zrdT (zbA (sel ρ d) (ρ.2 45 d)) (ρ.2 45 d) (zlike τt τ) t)), zch5 (zwork (zlike τ (zrdT (zbA (sel ρ d) (ρ.2 45 d)) (ρ.2 45 d) (zlike τt τ) t)))) = zlanT ρ τ F (nI d) t := by
  unfold zlanT
  rw [← zlan_v (τt := τt) hd h h4, if_neg (fun q => c (Int32.not_lt.mp q)), zrd_like.2, zlike_2, nI_N (by omega)]
