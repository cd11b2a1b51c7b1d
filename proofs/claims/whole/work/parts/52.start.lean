/-! what holds at the law's entry -/
theorem kx_start {s : State} {b : Nat} (l : Launch) (hts : ∀ w ∈ lw_tbl, w.before #[Value.ref b] s = true) (hgv : (Jvm.Cond.and given_1 narrow_1).before #[Value.ref b] s = true) : ∃ (D : va_G) (wc9 : Nat → ClassId), Kx (l, D, wc9, s.heap.size) s s.heap := by
  have hws : ∀ w ∈ WS, w.before #[Value.ref b] s = true := fun w hw => hts w (List.mem_filter.mp hw).1
  have hs := flat_of_before _ hgv
  obtain ⟨c0, i0, h0⟩ := u_known (T := TF) (N := 4) hws uwF (hws _ k_12)
  obtain ⟨c1, i1, h1⟩ := u_known (T := TS) (N := 6) hws uwS (hws _ k_21)
  obtain ⟨c2, i2, h2⟩ := u_known (T := TR) (N := 11) hws uwR (hws _ k_53)
  obtain ⟨c3, i3, h3⟩ := u_known (T := TM) (N := 19) hws uwM (hws _ k_494)
  obtain ⟨aI, kI, pI, eI1, eI2, eI3⟩ := Cond.arrayClass_spec (hws _ k_101)
  obtain ⟨aZ, kZ, pZ, eZ1, eZ2, eZ3⟩ := Cond.arrayClass_spec (hws _ k_557)
  obtain ⟨aJ, kJ, pJ, eJ1, eJ2, eJ3⟩ := Cond.arrayClass_spec (hws _ k_672)
  have w20 : (Cond.arrayOver (.object "RouteFrame$Section")).before #[Value.ref b] s = true := (hts _ (List.mem_append_right _ (List.mem_of_getElem? (i := 20) (by decide +kernel))))
  have w52 : (Cond.arrayOver (.object "RouteFrame$Route")).before #[Value.ref b] s = true := (hts _ (List.mem_append_right _ (List.mem_of_getElem? (i := 52) (by decide +kernel))))
  obtain ⟨pS, aS, kS, eS1, -, eS2, eS3, eS4⟩ := Cond.arrayOver_spec w20
  obtain ⟨pR, aR, kR, eR1, -, eR2, eR3, eR4⟩ := Cond.arrayOver_spec w52
  refine ⟨(fun c => match c with | 0 => c0 | 1 => c1 | 2 => c2 | _ => c3, fun c => match c with | 0 => i0 | 1 => i1 | 2 => i2 | _ => i3), fun k => match k with | 0 => aI | 1 => aZ | 2 => aJ | 3 => aS | _ => aR, ⟨?_, ?_⟩, ?_, ?_, ?_, ?_, ?_, ?_, ?_, ?_, ?_⟩
  · intro c q hq
    have hc : c < 4 := (List.getElem?_eq_some_iff.mp hq).1
    have hcc : c = 0 ∨ c = 1 ∨ c = 2 ∨ c = 3 := by omega
    rcases hcc with rfl | rfl | rfl | rfl
    · cases hq
      exact h0
    · cases hq
      exact h1
    · cases hq
      exact h2
    · cases hq
      exact h3
  · intro k q hq
    have hk : k < 5 := (List.getElem?_eq_some_iff.mp hq).1
    have hkk : k = 0 ∨ k = 1 ∨ k = 2 ∨ k = 3 ∨ k = 4 := by omega
    rcases hkk with rfl | rfl | rfl | rfl | rfl
    · cases hq
      exact ⟨fun n z => ⟨fun k h => (by cases h), kI, eI2, pI, eI3⟩, eI1⟩
    · cases hq
      exact ⟨fun n z => ⟨fun k h => (by cases h), kZ, eZ2, pZ, eZ3⟩, eZ1⟩
    · cases hq
      exact ⟨fun n z => ⟨fun k h => (by cases h), kJ, eJ2, pJ, eJ3⟩, eJ1⟩
    · cases hq
      exact ⟨fun n z => ⟨fun k h => (by cases h), kS, eS2, pS, eS3⟩, kS, pS, eS2, eS3, eS1, eS4⟩
    · cases hq
      exact ⟨fun n z => ⟨fun k h => (by cases h), kR, eR2, pR, eR3⟩, kR, pR, eR2, eR3, eR1, eR4⟩
  · exact vx_Zqof (args := #[Value.ref b]) (hts _ (List.mem_append_right _ (List.mem_of_getElem? (i := 154) (by decide +kernel)))) (hws _ k_5) (hs _ (by decide +kernel)) (fun a ha h => absurd ha (Nat.not_lt.mpr h))
  · exact vx_Zqof (args := #[Value.ref b]) (hts _ (List.mem_append_right _ (List.mem_of_getElem? (i := 156) (by decide +kernel)))) (hws _ k_5) (hs _ (by decide +kernel)) (fun a ha h => absurd ha (Nat.not_lt.mpr h))
  · have str : ∀ (k : Nat) (tx : String), (Cond.stringRef "RouteFrame" k tx).before #[Value.ref b] s = true → (Cond.exactly (.string "RouteFrame" k) "java/lang/String").before #[Value.ref b] s = true → ∃ sa, vk_R "RouteFrame" k tx sa s := by
      intro k tx a1 a2
      obtain ⟨a, -, -, -, h, -⟩ := Cond.exactly_spec a2
      exact ⟨a, vk_R.of a1 h⟩
    exact List.forall_mem_cons.mpr ⟨str 32 "there are 12 sections" (hts _ (List.mem_append_right _ (List.mem_of_getElem? (i := 168) (by decide +kernel)))) (hs _ (by decide +kernel)), List.forall_mem_cons.mpr ⟨str 47 "no such section" (hts _ (List.mem_append_right _ (List.mem_of_getElem? (i := 221) (by decide +kernel)))) (hs _ (by decide +kernel)), List.forall_mem_cons.mpr ⟨str 55 "signal is not 0 .. 5 or delay not 1 .. 9" (hts _ (List.mem_append_right _ (List.mem_of_getElem? (i := 240) (by decide +kernel)))) (hs _ (by decide +kernel)), List.forall_mem_cons.mpr ⟨str 58 "there are 8 routes" (hts _ (List.mem_append_right _ (List.mem_of_getElem? (i := 247) (by decide +kernel)))) (hs _ (by decide +kernel)), List.forall_mem_cons.mpr ⟨str 195 "no such route" (hts _ (List.mem_append_right _ (List.mem_of_getElem? (i := 267) (by decide +kernel)))) (hs _ (by decide +kernel)), List.forall_mem_cons.mpr ⟨str 79 "how does not fit, or the route uses the section already" (hts _ (List.mem_append_right _ (List.mem_of_getElem? (i := 279) (by decide +kernel)))) (hs _ (by decide +kernel)), List.forall_mem_cons.mpr ⟨str 88 "the route has 6 uses, or a route is not free" (hts _ (List.mem_append_right _ (List.mem_of_getElem? (i := 284) (by decide +kernel)))) (hs _ (by decide +kernel)), List.forall_mem_cons.mpr ⟨str 134 "no points, or position is not 0 or 1" (hts _ (List.mem_append_right _ (List.mem_of_getElem? (i := 420) (by decide +kernel)))) (hs _ (by decide +kernel)), List.forall_mem_cons.mpr ⟨str 142 "no points" (hts _ (List.mem_append_right _ (List.mem_of_getElem? (i := 440) (by decide +kernel)))) (hs _ (by decide +kernel)), List.forall_mem_cons.mpr ⟨str 147 "n is not 1 .. 20" (hts _ (List.mem_append_right _ (List.mem_of_getElem? (i := 448) (by decide +kernel)))) (hs _ (by decide +kernel)), List.forall_mem_cons.mpr ⟨str 152 "signal is not 0 .. 5" (hts _ (List.mem_append_right _ (List.mem_of_getElem? (i := 468) (by decide +kernel)))) (hs _ (by decide +kernel)), List.forall_mem_cons.mpr ⟨str 176 "what is not 0 .. 4" (hts _ (List.mem_append_right _ (List.mem_of_getElem? (i := 484) (by decide +kernel)))) (hs _ (by decide +kernel)), List.forall_mem_cons.mpr ⟨str 193 "what is not 0 .. 6" (hts _ (List.mem_append_right _ (List.mem_of_getElem? (i := 492) (by decide +kernel)))) (hs _ (by decide +kernel)), fun _ h => nomatch h⟩⟩⟩⟩⟩⟩⟩⟩⟩⟩⟩⟩⟩
  · exact List.forall_mem_cons.mpr ⟨va_Nw.of rfl (hts _ (List.mem_append_right _ (List.mem_of_getElem? (i := 129) (by decide +kernel)))), List.forall_mem_cons.mpr ⟨va_Nw.of rfl (hts _ (List.mem_append_right _ (List.mem_of_getElem? (i := 214) (by decide +kernel)))), List.forall_mem_cons.mpr ⟨va_Nw.of rfl (hts _ (List.mem_append_right _ (List.mem_of_getElem? (i := 233) (by decide +kernel)))), fun _ h => nomatch h⟩⟩⟩
  · exact List.forall_mem_cons.mpr ⟨va_Nw.of rfl (hts _ (List.mem_append_right _ (List.mem_of_getElem? (i := 130) (by decide +kernel)))), List.forall_mem_cons.mpr ⟨va_Nw.of rfl (hts _ (List.mem_append_right _ (List.mem_of_getElem? (i := 131) (by decide +kernel)))), List.forall_mem_cons.mpr ⟨va_Nw.of rfl (hts _ (List.mem_append_right _ (List.mem_of_getElem? (i := 132) (by decide +kernel)))), List.forall_mem_cons.mpr ⟨va_Nw.of rfl (hts _ (List.mem_append_right _ (List.mem_of_getElem? (i := 133) (by decide +kernel)))), List.forall_mem_cons.mpr ⟨va_Nw.of rfl (hts _ (List.mem_append_right _ (List.mem_of_getElem? (i := 134) (by decide +kernel)))), List.forall_mem_cons.mpr ⟨va_Nw.of rfl (hts _ (List.mem_append_right _ (List.mem_of_getElem? (i := 135) (by decide +kernel)))), fun _ h => nomatch h⟩⟩⟩⟩⟩⟩
  · exact List.forall_mem_cons.mpr ⟨va_Nw.of rfl (hts _ (List.mem_append_right _ (List.mem_of_getElem? (i := 22) (by decide +kernel)))), List.forall_mem_cons.mpr ⟨va_Nw.of rfl (hts _ (List.mem_append_right _ (List.mem_of_getElem? (i := 54) (by decide +kernel)))), fun _ h => nomatch h⟩⟩
  · intro X hX Y hY hne
    have hX2 : X = "java/lang/IllegalStateException" ∨ X = "java/lang/IndexOutOfBoundsException" ∨ X = "java/lang/IllegalArgumentException" := by simpa [excL] using hX
    have hY2 : Y = "java/lang/IllegalStateException" ∨ Y = "java/lang/IndexOutOfBoundsException" ∨ Y = "java/lang/IllegalArgumentException" := by simpa [excL] using hY
    rcases hX2 with rfl | rfl | rfl <;> rcases hY2 with rfl | rfl | rfl
    · exact absurd rfl hne
    · exact va_Nc.of (hs _ (by decide +kernel))
    · exact va_Nc.of (hs _ (by decide +kernel))
    · exact va_Nc.of (hs _ (by decide +kernel))
    · exact absurd rfl hne
    · exact va_Nc.of (hs _ (by decide +kernel))
    · exact va_Nc.of (hs _ (by decide +kernel))
    · exact va_Nc.of (hs _ (by decide +kernel))
    · exact absurd rfl hne
  · exact va_AO.of w20
  · exact va_AO.of w52
