/-! THE ENVIRONMENT AT THE LAW'S ENTRY -/
theorem vk_ex {own tx : String} {k : Nat} {args : Array Value} {s : State} (h1 : (Cond.stringRef own k tx).before args s = true) (h2 : (Cond.exactly (.string own k) "java/lang/String").before args s = true) : ∃ a, vk_R own k tx a s := by
  obtain ⟨a, _, _, _, q1, _⟩ := Cond.exactly_spec (args := args) (first := s) (o := none) (s := s) (idx := []) (t := .string own k) (cls := "java/lang/String") h2
  exact ⟨a, vk_R.of h1 q1⟩
set_option maxHeartbeats 4000000 in
set_option maxRecDepth 100000 in
theorem lE_start {args : Array Value} {s : State} (ht : ∀ w ∈ lw_tbl, w.before args s = true) (hgv : (Jvm.Cond.and given_1 narrow_1).before args s = true) : ∃ ad av : Nat → Nat, lE ad av (fun q => s.heap.size ≤ q) s s.heap := by
  have hs := flat_of_before _ hgv
  have hA : ∀ a : Nat, a < s.heap.size → ¬ (fun q : Nat => s.heap.size ≤ q) a := fun a h => Nat.not_le.mpr h
  obtain ⟨ad, av, hS, hev⟩ := vk_Sof (args := args) (s := s) (N := 6) (tm := fun i => .string "AskNext$Reader" (69 + 2 * i)) (len := fLEN) (byt := fBYT) (A := fun q => s.heap.size ≤ q)
    (fun i hi => by
    rcases (show i = 0 ∨ i = 1 ∨ i = 2 ∨ i = 3 ∨ i = 4 ∨ i = 5 by omega) with rfl | rfl | rfl | rfl | rfl | rfl
    · decide
    · decide
    · decide
    · decide
    · decide
    · decide
)
    (fun i hi => by
    rcases (show i = 0 ∨ i = 1 ∨ i = 2 ∨ i = 3 ∨ i = 4 ∨ i = 5 by omega) with rfl | rfl | rfl | rfl | rfl | rfl
    · exact hs _ (by decide +kernel)
    · exact hs _ (by decide +kernel)
    · exact hs _ (by decide +kernel)
    · exact hs _ (by decide +kernel)
    · exact hs _ (by decide +kernel)
    · exact hs _ (by decide +kernel)
)
    (fun i hi => by
    rcases (show i = 0 ∨ i = 1 ∨ i = 2 ∨ i = 3 ∨ i = 4 ∨ i = 5 by omega) with rfl | rfl | rfl | rfl | rfl | rfl
    · exact hs _ (by decide +kernel)
    · exact hs _ (by decide +kernel)
    · exact hs _ (by decide +kernel)
    · exact hs _ (by decide +kernel)
    · exact hs _ (by decide +kernel)
    · exact hs _ (by decide +kernel)
)
    (fun i hi => by
    rcases (show i = 0 ∨ i = 1 ∨ i = 2 ∨ i = 3 ∨ i = 4 ∨ i = 5 by omega) with rfl | rfl | rfl | rfl | rfl | rfl
    · exact hs _ (by decide +kernel)
    · exact hs _ (by decide +kernel)
    · exact hs _ (by decide +kernel)
    · exact hs _ (by decide +kernel)
    · exact hs _ (by decide +kernel)
    · exact hs _ (by decide +kernel)
)
    (fun i hi => by
    rcases (show i = 0 ∨ i = 1 ∨ i = 2 ∨ i = 3 ∨ i = 4 ∨ i = 5 by omega) with rfl | rfl | rfl | rfl | rfl | rfl
    · exact hs _ (by decide +kernel)
    · exact hs _ (by decide +kernel)
    · exact hs _ (by decide +kernel)
    · exact hs _ (by decide +kernel)
    · exact hs _ (by decide +kernel)
    · exact hs _ (by decide +kernel)
)
    (fun i hi => by
    rcases (show i = 0 ∨ i = 1 ∨ i = 2 ∨ i = 3 ∨ i = 4 ∨ i = 5 by omega) with rfl | rfl | rfl | rfl | rfl | rfl
    · intro j hj; rcases (show j = 0 ∨ j = 1 ∨ j = 2 ∨ j = 3 ∨ j = 4 by have : j < 5 := hj; omega) with rfl | rfl | rfl | rfl | rfl <;> exact hs _ (by decide +kernel)
    · intro j hj; rcases (show j = 0 ∨ j = 1 ∨ j = 2 ∨ j = 3 ∨ j = 4 ∨ j = 5 by have : j < 6 := hj; omega) with rfl | rfl | rfl | rfl | rfl | rfl <;> exact hs _ (by decide +kernel)
    · intro j hj; rcases (show j = 0 ∨ j = 1 ∨ j = 2 ∨ j = 3 by have : j < 4 := hj; omega) with rfl | rfl | rfl | rfl <;> exact hs _ (by decide +kernel)
    · intro j hj; rcases (show j = 0 ∨ j = 1 by have : j < 2 := hj; omega) with rfl | rfl <;> exact hs _ (by decide +kernel)
    · intro j hj; rcases (show j = 0 ∨ j = 1 by have : j < 2 := hj; omega) with rfl | rfl <;> exact hs _ (by decide +kernel)
    · intro j hj; exact absurd hj (Nat.not_lt_zero j)
)
    (by
      intro i j hi hj hij
      rcases (show i = 0 ∨ i = 1 ∨ i = 2 ∨ i = 3 ∨ i = 4 ∨ i = 5 by omega) with rfl | rfl | rfl | rfl | rfl | rfl <;> rcases (show j = 0 ∨ j = 1 ∨ j = 2 ∨ j = 3 ∨ j = 4 ∨ j = 5 by omega) with rfl | rfl | rfl | rfl | rfl | rfl <;> first | exact absurd rfl hij | exact Or.inl (hs _ (by decide +kernel)) | exact Or.inr (hs _ (by decide +kernel)))
    hA
  have n : cNest s := ⟨va_Nw.of rfl (by first | exact ht (.methodLinkNest RX2 79 yX11_isCrossing RX11) (by decide +kernel) | exact hs (.methodLinkNest RX2 79 yX11_isCrossing RX11) (by decide +kernel)), va_Nw.of rfl (by first | exact ht (.methodLinkNest RX2 84 yX11_isFigure RX11) (by decide +kernel) | exact hs (.methodLinkNest RX2 84 yX11_isFigure RX11) (by decide +kernel)), va_Nw.of rfl (by first | exact ht (.methodLinkNest RX10 11 yX2_init RX11) (by decide +kernel) | exact hs (.methodLinkNest RX10 11 yX2_init RX11) (by decide +kernel)), va_Nw.of rfl (by first | exact ht (.methodLinkNest RX10 20 yX8_init RX11) (by decide +kernel) | exact hs (.methodLinkNest RX10 20 yX8_init RX11) (by decide +kernel)), va_Nw.of rfl (by first | exact ht (.methodLinkNest RX11 25 yX2_init RX11) (by decide +kernel) | exact hs (.methodLinkNest RX11 25 yX2_init RX11) (by decide +kernel)), va_Nw.of rfl (by first | exact ht (.methodLinkNest RX11 34 yX8_init RX11) (by decide +kernel) | exact hs (.methodLinkNest RX11 34 yX8_init RX11) (by decide +kernel)), va_Nw.of rfl (by first | exact ht (.methodLinkNest RX11 47 yX4_init RX11) (by decide +kernel) | exact hs (.methodLinkNest RX11 47 yX4_init RX11) (by decide +kernel)), va_Nw.of rfl (by first | exact ht (.methodLinkNest RX11 9 yX10_init RX11) (by decide +kernel) | exact hs (.methodLinkNest RX11 9 yX10_init RX11) (by decide +kernel))⟩
  have c : lCa s := ⟨va_Nw.of rfl (by first | exact ht (.castable RX1 "AskNext$Rule") (by decide +kernel) | exact hs (.castable RX1 "AskNext$Rule") (by decide +kernel)), va_Nw.of rfl (by first | exact ht (.castable RX3 "AskNext$Rule") (by decide +kernel) | exact hs (.castable RX3 "AskNext$Rule") (by decide +kernel)), va_Nw.of rfl (by first | exact ht (.castable RX7 "AskNext$Rule") (by decide +kernel) | exact hs (.castable RX7 "AskNext$Rule") (by decide +kernel)), va_Nw.of rfl (by first | exact ht (.castable RX0 "AskNext$Rule") (by decide +kernel) | exact hs (.castable RX0 "AskNext$Rule") (by decide +kernel)), va_Nw.of rfl (by first | exact ht (.castable RX9 "AskNext$Rule") (by decide +kernel) | exact hs (.castable RX9 "AskNext$Rule") (by decide +kernel))⟩
  have z1 : va_Z "java/lang/String" "COMPACT_STRINGS" "Z" (.int 1) (fun q => s.heap.size ≤ q) s s.heap := va_Zof (by first | exact ht _ (by decide +kernel) | exact hs _ (by decide +kernel)) (by first | exact ht _ (by decide +kernel) | exact hs _ (by decide +kernel)) (va_eqt (hs _ (by decide +kernel))) hA
  have z2 : va_Zq "jdk/internal/util/Preconditions" "SIOOBE_FORMATTER" "Ljava/util/function/BiFunction;" (fun q => s.heap.size ≤ q) s s.heap := va_Zqof (by first | exact ht _ (by decide +kernel) | exact hs _ (by decide +kernel)) (by first | exact ht _ (by decide +kernel) | exact hs _ (by decide +kernel)) (hs _ (by decide +kernel)) hA
  have st : lSt ad av (fun q => s.heap.size ≤ q) s s.heap := ⟨hS, z1, z2, vk_R.of (by first | exact hs _ (by decide +kernel) | exact ht _ (by decide +kernel)) (hev 0 (by decide)), vk_R.of (by first | exact hs _ (by decide +kernel) | exact ht _ (by decide +kernel)) (hev 1 (by decide)), vk_R.of (by first | exact hs _ (by decide +kernel) | exact ht _ (by decide +kernel)) (hev 2 (by decide)), vk_R.of (by first | exact hs _ (by decide +kernel) | exact ht _ (by decide +kernel)) (hev 3 (by decide)), vk_R.of (by first | exact hs _ (by decide +kernel) | exact ht _ (by decide +kernel)) (hev 4 (by decide)), vk_R.of (by first | exact hs _ (by decide +kernel) | exact ht _ (by decide +kernel)) (hev 5 (by decide))⟩
  have t1 : vx_Zq Bundle.tN "UNASSIGNED_STACK" Bundle.steD (fun q => s.heap.size ≤ q) s s.heap := vx_Zqof (by first | exact ht _ (by decide +kernel) | exact hs _ (by decide +kernel)) (by first | exact ht _ (by decide +kernel) | exact hs _ (by decide +kernel)) (by first | exact hs _ (by decide +kernel) | exact ht _ (by decide +kernel)) hA
  have t2 : vx_Zq Bundle.tN "SUPPRESSED_SENTINEL" Bundle.listD (fun q => s.heap.size ≤ q) s s.heap := vx_Zqof (by first | exact ht _ (by decide +kernel) | exact hs _ (by decide +kernel)) (by first | exact ht _ (by decide +kernel) | exact hs _ (by decide +kernel)) (by first | exact hs _ (by decide +kernel) | exact ht _ (by decide +kernel)) hA
  have tt : ∀ L : List Cond, (∀ w ∈ L, w ∈ lw_tbl ∨ w ∈ Jvm.Free.XT.flat (Jvm.Cond.and given_1 narrow_1)) → (∀ w ∈ L, vx_ot w = true) → ∀ w ∈ L, w.before #[] s = true := fun L hL hg w hw => vx_ot_at (State.WarmedH.refl s) rfl (hg w hw) ((hL w hw).elim (fun q => ht w q) (fun q => hs w q))
  have w1 : cThW s := ⟨tt _ (by decide +kernel) (by decide +kernel), tt _ (by decide +kernel) (by decide +kernel), tt _ (by decide +kernel) (by decide +kernel), tt _ (by decide +kernel) (by decide +kernel), tt _ (by decide +kernel) (by decide +kernel)⟩
  have w2 : cThS s := ⟨vk_ex (by first | exact hs _ (by decide +kernel) | exact ht _ (by decide +kernel)) (hs _ (by decide +kernel)), vk_ex (by first | exact hs _ (by decide +kernel) | exact ht _ (by decide +kernel)) (hs _ (by decide +kernel)), vk_ex (by first | exact hs _ (by decide +kernel) | exact ht _ (by decide +kernel)) (hs _ (by decide +kernel)), vk_ex (by first | exact hs _ (by decide +kernel) | exact ht _ (by decide +kernel)) (hs _ (by decide +kernel)), vk_ex (by first | exact hs _ (by decide +kernel) | exact ht _ (by decide +kernel)) (hs _ (by decide +kernel))⟩
  have nw : ∀ w : Cond, w.onTables = true → (w ∈ lw_tbl ∨ w ∈ Jvm.Free.XT.flat (Jvm.Cond.and given_1 narrow_1)) → va_Nw w s := fun w ho hL => va_Nw.of ho (hL.elim (fun q => ht w q) (fun q => hs w q))
  have w3 : cThC s := ⟨nw _ rfl (by decide +kernel), nw _ rfl (by decide +kernel), nw _ rfl (by decide +kernel), va_Nc.of (hs _ (by decide +kernel)), va_Nc.of (hs _ (by decide +kernel)), va_Nc.of (hs _ (by decide +kernel))⟩
  have ar : lAr s := ⟨(show (Cond.arrayOver (.array .int)).before #[] s = true from (show (Cond.arrayOver (.array .int)).before args s = true by first | exact ht _ (by decide +kernel) | exact hs _ (by decide +kernel))), va_AO.of (A := args) (by first | exact ht _ (by decide +kernel) | exact hs _ (by decide +kernel)), va_AO.of (A := args) (by first | exact ht _ (by decide +kernel) | exact hs _ (by decide +kernel))⟩
  have el : lEl s := ⟨nw _ rfl (by decide +kernel), nw _ rfl (by decide +kernel), va_Nc.of (hs _ (by decide +kernel))⟩
  exact ⟨ad, av, n, c, st, ⟨t1, t2, w1, w2, w3⟩, ar, el⟩
