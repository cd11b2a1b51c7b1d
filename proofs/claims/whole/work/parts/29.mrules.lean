/-! the reference's walks: what its cells show is carried along -/
def Rf (m : wM) (f0 f : wF) : Prop := Rm m f ∧ fr9 f0 f
theorem rmf {m : wM} {f0 f : wF} (h : Rf m f0 f) {a b : Nat} (ha : 40 ≤ a ∧ a ≤ 55 ∧ a ≠ 46) : f a b = nI (m a b) := rm h.1 ha
theorem rmf46 {m : wM} {f0 f : wF} (h : Rf m f0 f) {b : Nat} : f 46 b = apI (m 46 b) := h.1.2.2.1 b
theorem rmf1 {m : wM} {f0 f : wF} (h : Rf m f0 f) : f 39 1 = nI (m 39 1) := h.1.1
theorem rmf7 {m : wM} {f0 f : wF} (h : Rf m f0 f) : f 39 7 = nI (m 39 7) := h.1.2.1
theorem Rf.of {m : wM} {f : wF} (h : Rm m f) : Rf m f f := ⟨h, fr9.rf⟩
theorem rm_p0 {m : wM} {f : wF} {v : Int32} (h : Rm m f) : Rm m (up2 f 39 0 v) := by
  obtain ⟨h1, h2, h3, h4⟩ := h
  refine ⟨?_, ?_, fun y => ?_, fun x y hx => ?_⟩
  · rw [up2_ne (by intro _; decide), h1]
  · rw [up2_ne (by intro _; decide), h2]
  · rw [up2_ne (by intro h; exact absurd h (by decide)), h3]
  · rw [up2_ne (by omega), h4 x y hx]
theorem rm_p1 {m : wM} {f : wF} {v : Nat} (h : Rm m f) : Rm (um m 39 1 v) (up2 f 39 1 (nI v)) := by
  obtain ⟨h1, h2, h3, h4⟩ := h
  refine ⟨?_, ?_, fun y => ?_, fun x y hx => ?_⟩
  · simp [up2_at, um]
  · simp [up2_at, um, h2]
  · simp [up2_at, um, h3]
  · rw [up2_ne (by omega), h4 x y hx, um, if_neg (by omega)]
theorem rm_p7 {m : wM} {f : wF} {v : Nat} (h : Rm m f) : Rm (um m 39 7 v) (up2 f 39 7 (nI v)) := by
  obtain ⟨h1, h2, h3, h4⟩ := h
  refine ⟨?_, ?_, fun y => ?_, fun x y hx => ?_⟩
  · simp [up2_at, um, h1]
  · simp [up2_at, um]
  · simp [up2_at, um, h3]
  · rw [up2_ne (by omega), h4 x y hx, um, if_neg (by omega)]
theorem rm_46 {m : wM} {f : wF} {b v : Nat} (h : Rm m f) : Rm (um m 46 b v) (up2 f 46 b (apI v)) := by
  obtain ⟨h1, h2, h3, h4⟩ := h
  refine ⟨?_, ?_, fun y => ?_, fun x y hx => ?_⟩
  · simp [up2_at, um, h1]
  · simp [up2_at, um, h2]
  · rw [up2_at]
    unfold um
    by_cases e : y = b
    · simp [e]
    · simp [e, h3]
  · rw [up2_ne (by omega), h4 x y hx, um, if_neg (by omega)]
section MR9
variable {E : wE} {J : jI} {cells slots pc : Nat} {lv : List (Nat × Value)} {st : List Value} {f f0 : wF} {w : Int64} {m : wM}
theorem m_ist {k i N v : Nat} {x : Int32} (hd : decode (mb J.1) pc = .ok (.iastore, 1)) (hk : kd k = 5) (hn : k < 57) (hN : ln k = N) (hx : x = nI i) (hi : i < N) (ha : 40 ≤ k ∧ k ≤ 55 ∧ k ≠ 46) (hm : Rf m f0 f) (kk : Rf (um m k i v) f0 (up2 f k i (nI v)) → Ev E J cells slots (pc + 1) lv st (up2 f k i (nI v)) g0 w 57) : Ev E J cells slots pc lv (.int (nI v) :: .int x :: .ref (wB E + k) :: st) f g0 w 57 := s_ist hd hk hn hN hx hi (kk ⟨rm_up hm.1 ha, hm.2.up ⟨ha.1, ha.2.1⟩⟩)
theorem m_ist46 {i v : Nat} {x y : Int32} (hd : decode (mb J.1) pc = .ok (.iastore, 1)) (hx : x = nI i) (hi : i < 8) (hy : y = apI v) (hm : Rf m f0 f) (kk : Rf (um m 46 i v) f0 (up2 f 46 i y) → Ev E J cells slots (pc + 1) lv st (up2 f 46 i y) g0 w 57) : Ev E J cells slots pc lv (.int y :: .int x :: .ref (wB E + 46) :: st) f g0 w 57 := by
  subst hy
  exact s_ist hd rfl (by decide) rfl hx hi (kk ⟨rm_46 hm.1, hm.2.up (by decide)⟩)
theorem m_bst {k i N v : Nat} {x : Int32} (hd : decode (mb J.1) pc = .ok (.bastore, 1)) (hk : kd k = 6) (hn : k < 57) (hN : ln k = N) (hx : x = nI i) (hi : i < N) (ha : 40 ≤ k ∧ k ≤ 55 ∧ k ≠ 46) (hv : v ≤ 1) (hm : Rf m f0 f) (kk : Rf (um m k i v) f0 (up2 f k i (nI v)) → Ev E J cells slots (pc + 1) lv st (up2 f k i (nI v)) g0 w 57) : Ev E J cells slots pc lv (.int (nI v) :: .int x :: .ref (wB E + k) :: st) f g0 w 57 := s_bst hd hk hn hN hx hi (z01 hv) (kk ⟨rm_up hm.1 ha, hm.2.up ⟨ha.1, ha.2.1⟩⟩)
theorem m_p0 {idx : Nat} {v : Int32} (hd : decode (mb J.1) pc = .ok (.putfield idx, 3)) (hlk : Cond.fieldLink (mo J.1) idx "RouteFrameModel" (TM 0).2.1 (TM 0).2.2.1 ∈ WS) (hm : Rf m f0 f) (kk : Rf m (up2 f 39 0 v) (up2 f 39 0 v) → Ev E J cells slots (pc + 3) lv st (up2 f 39 0 v) g0 w 57) : Ev E J cells slots pc lv (.int v :: .ref (wB E + 39) :: st) f g0 w 57 := s_pM hd 0 hlk (by decide) rfl rfl rfl rfl (kk (Rf.of (rm_p0 hm.1)))
theorem m_p1 {idx v : Nat} (hd : decode (mb J.1) pc = .ok (.putfield idx, 3)) (hlk : Cond.fieldLink (mo J.1) idx "RouteFrameModel" (TM 1).2.1 (TM 1).2.2.1 ∈ WS) (hm : Rf m f0 f) (kk : Rf (um m 39 1 v) f0 (up2 f 39 1 (nI v)) → Ev E J cells slots (pc + 3) lv st (up2 f 39 1 (nI v)) g0 w 57) : Ev E J cells slots pc lv (.int (nI v) :: .ref (wB E + 39) :: st) f g0 w 57 := s_pM hd 1 hlk (by decide) rfl rfl rfl rfl (kk ⟨rm_p1 hm.1, hm.2.up1 (by decide)⟩)
theorem m_p7 {idx v : Nat} (hd : decode (mb J.1) pc = .ok (.putfield idx, 3)) (hlk : Cond.fieldLink (mo J.1) idx "RouteFrameModel" (TM 7).2.1 (TM 7).2.2.1 ∈ WS) (hm : Rf m f0 f) (kk : Rf (um m 39 7 v) f0 (up2 f 39 7 (nI v)) → Ev E J cells slots (pc + 3) lv st (up2 f 39 7 (nI v)) g0 w 57) : Ev E J cells slots pc lv (.int (nI v) :: .ref (wB E + 39) :: st) f g0 w 57 := s_pM hd 7 hlk (by decide) rfl rfl rfl rfl (kk ⟨rm_p7 hm.1, hm.2.up1 (by decide)⟩)
end MR9
abbrev meetP (m : wM) (u v : Nat) : Prop := m 52 u = m 52 v ∧ ((m 53 u < 3 ∧ m 53 v < 3) ∨ (m 53 u ≠ 0 ∧ posI (m 53 u) ≠ posI (m 53 v)))
/-- release, the first K uses of the route -/
def relN (m : wM) (r K : Nat) : wM := fun a b => if (48 ≤ a ∧ a ≤ 50 ∧ b = r) ∨ ((a = 54 ∨ a = 55) ∧ 6 * r ≤ b ∧ b < 6 * r + K) then 0 else m a b
theorem relN_0 {m : wM} {r : Nat} : um (um (um m 48 r 0) 49 r 0) 50 r 0 = relN m r 0 := by
  funext a b
  unfold um relN
  by_cases h : 48 ≤ a ∧ a ≤ 50 ∧ b = r
  · rw [if_pos (Or.inl h)]
    repeat' split
    all_goals first | rfl | omega
  · rw [if_neg (by omega), if_neg (by omega), if_neg (by omega), if_neg (by omega)]
theorem relN_s {m : wM} {r k : Nat} : um (um (relN m r k) 54 (6 * r + k) 0) 55 (6 * r + k) 0 = relN m r (k + 1) := by
  funext a b
  unfold um relN
  by_cases h : b = 6 * r + k
  · subst h
    by_cases h4 : a = 54
    · subst h4
      simp
    · by_cases h5 : a = 55
      · subst h5
        simp
      · rw [if_neg (by omega), if_neg (by omega)]
        by_cases h6 : 48 ≤ a ∧ a ≤ 50 ∧ 6 * r + k = r
        · rw [if_pos (Or.inl h6), if_pos (Or.inl h6)]
        · rw [if_neg (by omega), if_neg (by omega)]
  · rw [if_neg (by omega), if_neg (by omega)]
    have e : (b < 6 * r + (k + 1)) ↔ (b < 6 * r + k) := by omega
    simp only [e]
theorem wnt_eq {m : wM} {s p : Nat} (h : m 42 s = p) : m = wnt m s p := by
  funext a b
  unfold wnt
  rw [if_pos h]
theorem wnt_ne {m : wM} {s p : Nat} (h : ¬ m 42 s = p) : um (um m 42 s p) 43 s 3 = wnt m s p := by
  funext a b
  unfold wnt um
  rw [if_neg h]
  by_cases h3 : a = 43 ∧ b = s
  · rw [if_pos h3, if_neg (by omega), if_pos h3]
  · rw [if_neg h3]
    by_cases h2 : a = 42 ∧ b = s
    · rw [if_pos h2, if_pos h2]
    · rw [if_neg h2, if_neg h2, if_neg h3]
