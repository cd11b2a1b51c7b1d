/-! what a call of the reference leaves: its code, its answer, its numbers -/
def fr8 (f f' : wF) : Prop := ∀ a b, a < 39 ∨ 55 < a → f' a b = f a b
theorem fr8.rf {f : wF} : fr8 f f := fun _ _ _ => rfl
theorem fr8.p0 {f f1 : wF} {v : Int32} (h : fr8 f f1) : fr8 f (up2 f1 39 0 v) := by
  intro a b h9
  rw [up2_ne (by omega)]
  exact h a b h9
theorem fr8.p9 {f f1 f2 : wF} (h : fr8 f f1) (h2 : fr9 f1 f2) : fr8 f f2 := fun a b h9 => (h2 a b (by omega)).trans (h a b h9)
def MO (f : wF) (c : Nat) (m m' : wM) (a : Int32) (v9 : Option Value) (f9 : wF) : Prop := f9 39 0 = nI c ∧ fr8 f f9 ∧ (∃ t, v9 = some (.int t) ∧ (c = 0 → t = a)) ∧ (c = 0 → Rm m' f9) ∧ (c ≠ 0 → Rm m f9)
def MV (f : wF) (c : Nat) (m m' : wM) (v9 : Option Value) (f9 : wF) : Prop := f9 39 0 = nI c ∧ fr8 f f9 ∧ v9 = none ∧ (c = 0 → Rm m' f9) ∧ (c ≠ 0 → Rm m f9)
theorem mo_x {f f2 f9 : wF} {c d : Nat} {m m' : wM} {a t : Int32} (h : Rf m f2 f9) (e : f2 39 0 = nI d) (e8 : fr8 f f2) (hc : c = d) (h0 : d ≠ 0) : MO f c m m' a (some (.int t)) f9 := by
  subst hc
  exact ⟨(h.2 39 0 (Or.inr (Or.inr ⟨rfl, rfl⟩))).trans e, e8.p9 h.2, ⟨t, rfl, fun h9 => absurd h9 h0⟩, fun h9 => absurd h9 h0, fun _ => h.1⟩
theorem mo_r {f f2 f9 : wF} {c : Nat} {m m' : wM} {a t : Int32} (h : Rm m' f9) (h2 : fr9 f2 f9) (e : f2 39 0 = nI 0) (e8 : fr8 f f2) (hc : c = 0) (ht : t = a) : MO f c m m' a (some (.int t)) f9 := by
  subst hc
  exact ⟨(h2 39 0 (Or.inr (Or.inr ⟨rfl, rfl⟩))).trans e, e8.p9 h2, ⟨t, rfl, fun _ => ht⟩, fun _ => h, fun h9 => absurd rfl h9⟩
theorem mv_x {f f2 f9 : wF} {c d : Nat} {m m' : wM} (h : Rf m f2 f9) (e : f2 39 0 = nI d) (e8 : fr8 f f2) (hc : c = d) (h0 : d ≠ 0) : MV f c m m' none f9 := by
  subst hc
  exact ⟨(h.2 39 0 (Or.inr (Or.inr ⟨rfl, rfl⟩))).trans e, e8.p9 h.2, rfl, fun h9 => absurd h9 h0, fun _ => h.1⟩
theorem mv_r {f f2 f9 : wF} {c : Nat} {m m' : wM} (h : Rm m' f9) (h2 : fr9 f2 f9) (e : f2 39 0 = nI 0) (e8 : fr8 f f2) (hc : c = 0) : MV f c m m' none f9 := by
  subst hc
  exact ⟨(h2 39 0 (Or.inr (Or.inr ⟨rfl, rfl⟩))).trans e, e8.p9 h2, rfl, fun _ => h, fun h9 => absurd rfl h9⟩
theorem rmf1e {m : wM} {f0 f : wF} {a : Nat} (h : Rf m f0 f) (e : m 39 1 = a) : f 39 1 = nI a := by rw [← e]; exact rmf1 h
theorem rmf7e {m : wM} {f0 f : wF} {a : Nat} (h : Rf m f0 f) (e : m 39 7 = a) : f 39 7 = nI a := by rw [← e]; exact rmf7 h
theorem rmfe {m : wM} {f0 f : wF} {a b c : Nat} (h : Rf m f0 f) (ha : 40 ≤ a ∧ a ≤ 55 ∧ a ≠ 46) (e : m a b = c) : f a b = nI c := by rw [← e]; exact rmf h ha
theorem sec_eq {m : wM} {b : Nat} : um (um (um (um (um (um m 40 (m 39 1) b) 41 (m 39 1) 0) 42 (m 39 1) 0) 43 (m 39 1) 0) 44 (m 39 1) 0) 39 1 (m 39 1 + 1) = secM m b := by
  funext a c
  unfold um secM
  by_cases h1 : a = 39 ∧ c = 1
  · rw [if_pos h1, if_pos h1]
  · rw [if_neg h1, if_neg h1]
    by_cases h2 : 40 ≤ a ∧ a ≤ 44 ∧ c = m 39 1
    · obtain ⟨h3, h4, h5⟩ := h2
      have h6 : a = 40 ∨ a = 41 ∨ a = 42 ∨ a = 43 ∨ a = 44 := by omega
      rcases h6 with rfl | rfl | rfl | rfl | rfl <;> simp [h5]
    · rw [if_neg (by omega), if_neg (by omega), if_neg (by omega), if_neg (by omega), if_neg (by omega), if_neg (by omega), if_neg (by omega)]
theorem rte_eq {m : wM} {sg ap dl : Nat} : um (rel (um (um (um (um m 45 (m 39 7) sg) 46 (m 39 7) ap) 47 (m 39 7) dl) 51 (m 39 7) 0) (m 39 7)) 39 7 (m 39 7 + 1) = rteM m sg ap dl := by
  funext a c
  unfold um rteM rel
  by_cases h1 : a = 39 ∧ c = 7
  · rw [if_pos h1, if_pos h1]
  · rw [if_neg h1, if_neg h1]
    by_cases h2 : (48 ≤ a ∧ a ≤ 50 ∧ c = m 39 7) ∨ ((a = 54 ∨ a = 55) ∧ 6 * m 39 7 ≤ c ∧ c < 6 * m 39 7 + 6)
    · rw [if_pos h2, if_neg (by omega), if_neg (by omega), if_neg (by omega), if_neg (by omega), if_pos h2]
    · rw [if_neg h2, if_neg h2]
      by_cases h3 : c = m 39 7
      · by_cases h4 : a = 45
        · simp [h3, h4]
        · by_cases h5 : a = 46
          · simp [h3, h5]
          · by_cases h6 : a = 47
            · simp [h3, h6]
            · by_cases h7 : a = 51
              · simp [h3, h7]
              · simp [h4, h5, h6, h7]
      · simp [h3]
theorem use_eq {m : wM} {r s h : Nat} : um (um (um (um (um m 52 (6 * r + m 51 r) s) 53 (6 * r + m 51 r) h) 54 (6 * r + m 51 r) 0) 55 (6 * r + m 51 r) 0) 51 r (m 51 r + 1) = useM m r s h := by
  funext a c
  unfold um useM
  by_cases h1 : a = 51 ∧ c = r
  · rw [if_pos h1, if_pos h1]
  · rw [if_neg h1, if_neg h1]
    by_cases h2 : c = 6 * r + m 51 r
    · by_cases h3 : a = 52
      · simp [h2, h3]
      · by_cases h4 : a = 53
        · simp [h2, h4]
        · by_cases h5 : a = 54
          · simp [h2, h5]
          · by_cases h6 : a = 55
            · simp [h2, h6]
            · simp [h3, h4, h5, h6]
    · simp [h2]
theorem clr_eq {m : wM} : um (um m 39 1 0) 39 7 0 = clrM m := by
  funext a c
  unfold um clrM
  by_cases h1 : a = 39
  · by_cases h2 : c = 7
    · simp [h1, h2]
    · by_cases h3 : c = 1
      · simp [h1, h3]
      · simp [h2, h3]
  · simp [h1]
theorem i56 {x : Int32} {a b : Nat} (hb : b = a + 1) (ha : a < 64) : nI a < x ↔ nI b ≤ x := by
  subst hb
  rw [Int32.lt_iff_toInt_lt, Int32.le_iff_toInt_le, nI_toInt (by omega), nI_toInt (by omega)]
  omega
theorem i_div6 : ∀ a, a < 48 → nI a / nI 6 = nI (a / 6) ∧ nI a - nI a / nI 6 * nI 6 = nI (a % 6) := by decide +kernel
section DV9
variable {E : wE} {J : jI} {cells slots pc : Nat} {lv : List (Nat × Value)} {st : List Value} {f : wF} {w : Int64}
theorem n_idiv {a : Nat} (hd : decode (mb J.1) pc = .ok (.idiv, 1)) (ha : a < 48) (kk : Ev E J cells slots (pc + 1) lv (.int (nI (a / 6)) :: st) f g0 w 57) : Ev E J cells slots pc lv (.int (nI 6) :: .int (nI a) :: st) f g0 w 57 := e_idiv hd (by decide) (by rw [(i_div6 a ha).1]; exact kk)
theorem n_irem {a : Nat} (hd : decode (mb J.1) pc = .ok (.irem, 1)) (ha : a < 48) (kk : Ev E J cells slots (pc + 1) lv (.int (nI (a % 6)) :: st) f g0 w 57) : Ev E J cells slots pc lv (.int (nI 6) :: .int (nI a) :: st) f g0 w 57 := e_irem hd (by decide) (by rw [(i_div6 a ha).2]; exact kk)
end DV9
theorem mr_x {f f2 f9 : wF} {c d : Nat} {m : wM} {P : Prop} {a t : Int32} (h : Rf m f2 f9) (e : f2 39 0 = nI d) (e8 : fr8 f f2) (hc : c = d) (h0 : d ≠ 0) : f9 39 0 = nI c ∧ fr8 f f9 ∧ (∃ t9, some (Value.int t) = some (Value.int t9) ∧ (c = 0 → t9 = a)) ∧ (c = 0 → P) ∧ (c ≠ 0 → Rm m f9) := by
  subst hc
  exact ⟨(h.2 39 0 (Or.inr (Or.inr ⟨rfl, rfl⟩))).trans e, e8.p9 h.2, ⟨t, rfl, fun h9 => absurd h9 h0⟩, fun h9 => absurd h9 h0, fun _ => h.1⟩
theorem mr_r {f f2 f9 : wF} {c : Nat} {m : wM} {P : Prop} {a t : Int32} (h2 : fr9 f2 f9) (e : f2 39 0 = nI 0) (e8 : fr8 f f2) (hc : c = 0) (ht : t = a) (hP : P) : f9 39 0 = nI c ∧ fr8 f f9 ∧ (∃ t9, some (Value.int t) = some (Value.int t9) ∧ (c = 0 → t9 = a)) ∧ (c = 0 → P) ∧ (c ≠ 0 → Rm m f9) := by
  subst hc
  exact ⟨(h2 39 0 (Or.inr (Or.inr ⟨rfl, rfl⟩))).trans e, e8.p9 h2, ⟨t, rfl, fun _ => ht⟩, fun _ => hP, fun h9 => absurd rfl h9⟩
def canM2 (m : wM) (r : Nat) : wM := if m 48 r = 1 then (if m 50 r = 0 then look (rel m r) else timM m r) else m
theorem tim_eq {m : wM} {r : Nat} : um (um m 48 r 3) 49 r (m 47 r) = timM m r := by
  funext a c
  unfold um timM
  by_cases h : c = r
  · by_cases h1 : a = 49
    · simp [h, h1]
    · simp [h, h1]
  · simp [h]
