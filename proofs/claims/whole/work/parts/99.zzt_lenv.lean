/-! THE LAW'S ENVIRONMENT: what every state of the run keeps -/
def vx_gc (w : Cond) : Bool := goodWord w || (match w with | .castable _ _ => true | .lays _ _ _ _ => true | .native _ => true | .declares _ => true | _ => false)
theorem vx_gc_moved {s U : State} {w : Cond} (hW : s.WarmedH U.vm) (hg : vx_gc w = true) (h : w.before #[] s = true) : w.before #[] U = true := by
  unfold vx_gc at hg
  by_cases q : goodWord w = true
  · exact word_at hW (good_of_word q) h
  · have q2 : goodWord w = false := by cases e : goodWord w with | true => exact absurd e q | false => rfl
    rw [q2, Bool.false_or] at hg
    cases w <;> first | exact va_Nw.warmC hW h | exact va_Nw.warmD hW h | exact va_tabs rfl (rfl : (s.setVm U.vm).vm = U.vm) (Cond.lays_setVm hW.alike h) | exact va_tabs rfl (rfl : (s.setVm U.vm).vm = U.vm) (by rw [Cond.native_setVm hW.alike]; exact h) | exact absurd (show (false : Bool) = true from hg) Bool.false_ne_true
theorem lAll {L : List Cond} {u U : State} (hg : L.all vx_gc = true) (hW : u.WarmedH U.vm) (h : ∀ w ∈ L, w.before #[] u = true) : ∀ w ∈ L, w.before #[] U = true := fun w hw => vx_gc_moved hW (List.all_eq_true.mp hg w hw) (h w hw)
def lCa (U : State) : Prop := va_Nw (.castable RX1 "AskNext$Rule") U ∧ va_Nw (.castable RX3 "AskNext$Rule") U ∧ va_Nw (.castable RX7 "AskNext$Rule") U ∧ va_Nw (.castable RX0 "AskNext$Rule") U ∧ va_Nw (.castable RX9 "AskNext$Rule") U
def lSt (ad av : Nat → Nat) (A : Nat → Prop) (U : State) (H : Heap) : Prop := vk_S 6 fLEN fBYT ad av A U H ∧ va_Z "java/lang/String" "COMPACT_STRINGS" "Z" (.int 1) A U H ∧ va_Zq "jdk/internal/util/Preconditions" "SIOOBE_FORMATTER" "Ljava/util/function/BiFunction;" A U H ∧ vk_R RX4 69 "dd n;" (ad 0) U ∧ vk_R RX4 71 "n d n;" (ad 1) U ∧ vk_R RX4 73 "d n;" (ad 2) U ∧ vk_R RX4 75 "d;" (ad 3) U ∧ vk_R RX4 77 "n;" (ad 4) U ∧ vk_R RX4 79 "" (ad 5) U
def lTh (A : Nat → Prop) (U : State) (H : Heap) : Prop := vx_Zq Bundle.tN "UNASSIGNED_STACK" Bundle.steD A U H ∧ vx_Zq Bundle.tN "SUPPRESSED_SENTINEL" Bundle.listD A U H ∧ cThW U ∧ cThS U ∧ cThC U
def lAr (U : State) : Prop := zAO2 .int U ∧ va_AO "AskNext$Rule" U ∧ va_AO "AskNext$Row" U
def lEl (U : State) : Prop := va_Nw (.castable "java/lang/IllegalArgumentException" "java/lang/IllegalArgumentException") U ∧ va_Nw (.castable "java/lang/IllegalStateException" "java/lang/IllegalStateException") U ∧ va_Nc "java/lang/IllegalStateException" "java/lang/IllegalArgumentException" U
def lE (ad av : Nat → Nat) (A : Nat → Prop) (U : State) (H : Heap) : Prop := cNest U ∧ lCa U ∧ lSt ad av A U H ∧ lTh A U H ∧ lAr U ∧ lEl U
theorem zAO2_warm {u U : State} (hW : u.WarmedH U.vm) (h : zAO2 .int u) : zAO2 .int U := by
  have q : (Cond.arrayOver (.array .int)).before #[] (u.setVm U.vm) = true := by rw [Cond.arrayOver_setVmC hW.alike]; exact h
  exact q
theorem cThW_moved {u U : State} (hW : u.WarmedH U.vm) (h : cThW u) : cThW U := ⟨lAll (by decide +kernel) hW h.1, lAll (by decide +kernel) hW h.2.1, lAll (by decide +kernel) hW h.2.2.1, lAll (by decide +kernel) hW h.2.2.2.1, lAll (by decide +kernel) hW h.2.2.2.2⟩
theorem cThS_moved {u U : State} (hW : u.WarmedH U.vm) (h : cThS u) : cThS U := by
  obtain ⟨⟨a, h1⟩, ⟨b, h2⟩, ⟨c, h3⟩, ⟨d, h4⟩, ⟨f, h5⟩⟩ := h
  exact ⟨⟨a, vk_R.warm hW h1⟩, ⟨b, vk_R.warm hW h2⟩, ⟨c, vk_R.warm hW h3⟩, ⟨d, vk_R.warm hW h4⟩, ⟨f, vk_R.warm hW h5⟩⟩
theorem lE_moved {ad av : Nat → Nat} {A : Nat → Prop} {u U : State} {H : Heap} (hW : u.WarmedH U.vm) (h : lE ad av A u H) : lE ad av A U H := by
  have hA := hW.alike
  obtain ⟨⟨n1, n2, n3, n4, n5, n6, n7, n8⟩, ⟨c1, c2, c3, c4, c5⟩, ⟨s1, s2, s3, s4, s5, s6, s7, s8, s9⟩, ⟨t1, t2, t3, t4, ⟨t5, t6, t7, t8, t9, t10⟩⟩, ⟨a1, a2, a3⟩, ⟨e1, e2, e3⟩⟩ := h
  exact ⟨⟨va_Nw.warmM hW n1, va_Nw.warmM hW n2, va_Nw.warmM hW n3, va_Nw.warmM hW n4, va_Nw.warmM hW n5, va_Nw.warmM hW n6, va_Nw.warmM hW n7, va_Nw.warmM hW n8⟩, ⟨va_Nw.warmC hW c1, va_Nw.warmC hW c2, va_Nw.warmC hW c3, va_Nw.warmC hW c4, va_Nw.warmC hW c5⟩, ⟨s1.moved hA, s2.moved hA, s3.moved hA, vk_R.warm hW s4, vk_R.warm hW s5, vk_R.warm hW s6, vk_R.warm hW s7, vk_R.warm hW s8, vk_R.warm hW s9⟩, ⟨t1.moved hA, t2.moved hA, cThW_moved hW t3, cThS_moved hW t4, ⟨va_Nw.warmC hW t5, va_Nw.warmC hW t6, va_Nw.warmC hW t7, va_Nc.moved hA t8, va_Nc.moved hA t9, va_Nc.moved hA t10⟩⟩, ⟨zAO2_warm hW a1, va_AO.moved hA a2, va_AO.moved hA a3⟩, ⟨va_Nw.warmC hW e1, va_Nw.warmC hW e2, va_Nc.moved hA e3⟩⟩
theorem lE_kept {ad av : Nat → Nat} {A : Nat → Prop} {U : State} {H H1 : Heap} (h : lE ad av A U H) (hq : ∀ a : Nat, a < H.size → ¬ A a → H1[a]? = H[a]?) : lE ad av A U H1 := by
  obtain ⟨n, c, ⟨s1, s2, s3, s4⟩, ⟨t1, t2, t3⟩, a, e⟩ := h
  exact ⟨n, c, ⟨s1.kept hq, s2.kept hq, s3.kept hq, s4⟩, ⟨t1.kept hq, t2.kept hq, t3⟩, a, e⟩
theorem lE_narrow {ad av : Nat → Nat} {A B : Nat → Prop} {U : State} {H : Heap} (h : lE ad av A U H) (hAB : ∀ q, B q → A q) : lE ad av B U H := by
  obtain ⟨n, c, ⟨s1, s2, s3, s4⟩, ⟨t1, t2, t3⟩, a, e⟩ := h
  exact ⟨n, c, ⟨s1.narrow hAB, s2.narrow hAB, s3.narrow hAB, s4⟩, ⟨t1.narrow hAB, t2.narrow hAB, t3⟩, a, e⟩
theorem lE_ok (ad av : Nat → Nat) : cEok (lE ad av) := ⟨fun _ _ _ _ hW h => lE_moved hW h, fun _ u _ _ hv h => lE_moved (by rw [hv]; exact State.WarmedH.refl u) h, fun _ _ _ _ h hq => lE_kept h hq, fun _ _ _ _ h hAB => lE_narrow h hAB, fun _ _ _ h => h.1⟩
theorem lE_C (ad av : Nat → Nat) : cCast (lE ad av) := fun _ _ _ h => h.2.1
theorem lE_S (ad av : Nat → Nat) : cStr (lE ad av) ad av := fun _ _ _ h => h.2.2.1
theorem lE_T (ad av : Nat → Nat) : cThr (lE ad av) := fun _ _ _ h => h.2.2.2.1
theorem lE_A (ad av : Nat → Nat) : cArr (lE ad av) := fun _ _ _ h => h.2.2.2.2.1
theorem lE_L (ad av : Nat → Nat) : cEle (lE ad av) := fun _ _ _ h => h.2.2.2.2.2
