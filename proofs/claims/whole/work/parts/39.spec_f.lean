theorem zstep_min {σ : MS} (hok : mOk σ) {w pl : Nat} {m : Nat → Nat} : (zstep σ w m pl).2.2.1 ≤ 60 := by
  obtain ⟨kr, kw, ks, kroad, kworld, ksort, kmet, ksum, kst, kco⟩ := id hok
  unfold zstep
  split
  · exact Nat.zero_le _
  · split
    · exact Nat.zero_le _
    · rename_i hn
      split
      · exact Nat.zero_le _
      · exact (kroad _ (znext_r hn).2.1).2.2.2
theorem zaft_min {σ : MS} (hok : mOk σ) {w B : Nat} {rec : (Nat → Nat) → Nat → Nat → Nat → Nat → Nat → Nat → Nat → ZR} (hr : ∀ (m : Nat → Nat) (mi as go se pl an ca : Nat), (rec m mi as go se pl an ca).2.1 ≤ mi + B) {m : Nat → Nat} {mi as go se pl an : Nat} : (zaft σ w rec m mi as go se pl an).2.1 ≤ mi + 60 + B := by
  have h := zstep_min hok (w := w) (pl := pl) (m := m)
  unfold zaft zthen
  split
  · split
    · show mi + (zstep σ w m pl).2.2.1 ≤ _; omega
    · exact Nat.le_trans (hr _ _ _ _ _ _ _ _) (by omega)
  · exact Nat.le_trans (hr _ _ _ _ _ _ _ _) (by omega)
theorem zloop_min {σ : MS} (hok : mOk σ) {w rule fig : Nat} : ∀ (k : Nat) (m : Nat → Nat) (mi as go se pl an ca : Nat), (zloop σ w rule fig k m mi as go se pl an ca).2.1 ≤ mi + (30 + 90 * k)
  | 0, m, mi, as, go, se, pl, an, ca => by
    obtain ⟨kr, kw, ks, kroad, kworld, ksort, kmet, ksum, kst, kco⟩ := id hok
    by_cases hp : pl = σ.2 6 w
    · rw [zloop_there hp]; show mi ≤ _; omega
    · by_cases hw : zwill σ rule fig ca m
      · rw [zloop_0a hp hw]; show mi + σ.1 13 ≤ _; omega
      · rw [zloop_0n hp hw]; show mi ≤ _; omega
  | k + 1, m, mi, as, go, se, pl, an, ca => by
    obtain ⟨kr, kw, ks, kroad, kworld, ksort, kmet, ksum, kst, kco⟩ := id hok
    by_cases hp : pl = σ.2 6 w
    · rw [zloop_there hp]; show mi ≤ _; omega
    · by_cases hw : zwill σ rule fig ca m
      · rw [zloop_sa hp hw]
        exact Nat.le_trans (zaft_min hok (zloop_min hok k)) (by omega)
      · rw [zloop_sn hp hw]
        exact Nat.le_trans (zaft_min hok (zloop_min hok k)) (by omega)
theorem zwalk_min {σ : MS} (hok : mOk σ) {w c rule fig z : Nat} {m : Nat → Nat} (hf : fig < 100) : (zwalk σ w c rule fig m z).2.1 ≤ 21030 := by
  obtain ⟨kr, kw, ks, kroad, kworld, ksort, kmet, ksum, kst, kco⟩ := id hok
  unfold zwalk
  split
  · exact Nat.zero_le _
  · refine Nat.le_trans (zloop_min hok 200 _ _ _ _ _ _ _ _) ?_
    have h1 : zasks rule fig ≤ 99 := by
      unfold zasks
      split
      · omega
      · split <;> omega
    have h2 := Nat.mul_le_mul h1 kco
    omega
theorem zin_le {σ : MS} (hok : mOk σ) {w c rule fig z : Nat} {m : Nat → Nat} (hf : fig < 100) : zin (zwalk σ w c rule fig m z) ≤ 21030 := by
  unfold zin
  split
  · exact zwalk_min hok hf
  · omega
theorem zmeans_lt {σ : MS} (hok : mOk σ) {rule fig n z : Nat} (hf : fig < 100) (hn : n ≤ 20) : zmeans σ rule fig n z < 2147483648 := by
  obtain ⟨kr, kw, ks, kroad, kworld, ksort, kmet, ksum, kst, kco⟩ := id hok
  unfold zmeans
  have h1 : ∀ w, w < σ.1 4 → zmean σ rule fig n z w ≤ 42060000 := fun w hw => by
    unfold zmean
    have h2 := zsum_le (f := fun k => σ.2 5 w * zin (zwalk σ w (σ.1 12) rule fig (σ.2 5) (z + k))) (b := 2103000) n (fun k _ => by
      have h3 := Nat.mul_le_mul (kworld w hw).2.1 (zin_le hok (w := w) (c := σ.1 12) (rule := rule) (z := z + k) (m := σ.2 5) hf)
      exact h3)
    have h4 := Nat.mul_le_mul hn (Nat.le_refl 2103000)
    omega
  have h5 := zsum_le (f := zmean σ rule fig n z) (b := 42060000) (σ.1 4) h1
  omega
def zduskI (σ : MS) (rule fig z mn w : Nat) : Nat → Nat := fun k => if (zwalk σ w (σ.1 12) rule fig (σ.2 5) (z + k)).1 = 0 ∧ (zwalk σ w (σ.1 12) rule fig (σ.2 5) (z + k)).2.1 ≤ mn then σ.2 5 w else 0
def zdusk (σ : MS) (rule fig n z mn : Nat) : Nat → Nat := fun w => zsum (zduskI σ rule fig z mn w) n
def zduskS (σ : MS) (d n : Int32) (z : Nat) (mn : Int32) : Int32 := if ¬ zir mn 10000 then -1 else if zwmean σ d n < 0 then zwmean σ d n else nI (zsum (zdusk (zf σ) (σ.2 42 d.toInt.toNat) (σ.2 43 d.toInt.toNat) n.toInt.toNat z mn.toInt.toNat) (σ.1 4))
