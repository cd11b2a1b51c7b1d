/-! the invariant is kept, further calls -/
theorem wnt_o {m : wM} {s p a b : Nat} (h2 : a ≠ 42) (h3 : a ≠ 43) : wnt m s p a b = m a b := by
  unfold wnt
  split
  · rfl
  · rw [if_neg (fun h => h2 h.1), if_neg (fun h => h3 h.1)]
theorem wnU_o {m : wM} {u a b : Nat} (h2 : a ≠ 42) (h3 : a ≠ 43) : wnU m u a b = m a b := by
  unfold wnU
  split
  · rfl
  · exact wnt_o h2 h3
theorem wnN_o {m : wM} {r a b : Nat} (h2 : a ≠ 42) (h3 : a ≠ 43) : ∀ K, wnN m r K a b = m a b := by
  intro K
  induction K with
  | zero => rfl
  | succ K ih =>
    show wnU (wnN m r K) (6 * r + K) a b = m a b
    rw [wnU_o h2 h3, ih]
theorem wnN_p {m : wM} {r : Nat} (h : Jv m) (hr : r < m 39 7) : ∀ K, K ≤ m 51 r → (∀ b, wnN m r K 42 b ≤ 1) ∧ (∀ b, wnN m r K 43 b ≤ 3) ∧ ∀ b, b < m 39 1 → m 40 b = 0 → wnN m r K 42 b = 0 ∧ wnN m r K 43 b = 0 := by
  intro K
  induction K with
  | zero => exact fun _ => ⟨h.A.2.2.2.2.2.1, h.A.2.2.2.2.2.2.1, h.S⟩
  | succ K ih =>
    intro hK
    obtain ⟨i1, i2, i3⟩ := ih (by omega)
    have hu := h.U r K hr (by omega)
    have e53 : wnN m r K 53 (6 * r + K) = m 53 (6 * r + K) := wnN_o (by decide) (by decide) K
    have e52 : wnN m r K 52 (6 * r + K) = m 52 (6 * r + K) := wnN_o (by decide) (by decide) K
    show (∀ b, wnU (wnN m r K) (6 * r + K) 42 b ≤ 1) ∧ (∀ b, wnU (wnN m r K) (6 * r + K) 43 b ≤ 3) ∧ ∀ b, b < m 39 1 → m 40 b = 0 → wnU (wnN m r K) (6 * r + K) 42 b = 0 ∧ wnU (wnN m r K) (6 * r + K) 43 b = 0
    unfold wnU
    rw [e53, e52]
    by_cases h0 : m 53 (6 * r + K) = 0
    · rw [if_pos h0]
      exact ⟨i1, i2, i3⟩
    · rw [if_neg h0]
      have hp := psn_le (m 53 (6 * r + K))
      refine ⟨fun b => ?_, fun b => ?_, fun b hb h4 => ?_⟩
      · unfold wnt
        have := i1 b
        split
        · exact this
        · simp
          split <;> omega
      · unfold wnt
        have := i2 b
        split
        · exact this
        · simp
          split <;> omega
      · have hne : b ≠ m 52 (6 * r + K) := by
          intro h9
          rw [h9] at h4
          exact h0 (hu.2.2.1.mpr h4)
        unfold wnt
        simp [hne]
        exact i3 b hb h4
theorem jv_rel {m : wM} {r : Nat} (h : Jv m) (hr : r < m 39 7) : Jv (rel m r) := by
  have e39_1 : (rel m r) 39 1 = m 39 1 := by simp [rel]
  have e39_7 : (rel m r) 39 7 = m 39 7 := by simp [rel]
  have e40 : ∀ b, (rel m r) 40 b = m 40 b := by
    intro b
    simp [rel]
  have e41 : ∀ b, (rel m r) 41 b = m 41 b := by
    intro b
    simp [rel]
  have e42 : ∀ b, (rel m r) 42 b = m 42 b := by
    intro b
    simp [rel]
  have e43 : ∀ b, (rel m r) 43 b = m 43 b := by
    intro b
    simp [rel]
  have e44 : ∀ b, (rel m r) 44 b = m 44 b := by
    intro b
    simp [rel]
  have e45 : ∀ b, (rel m r) 45 b = m 45 b := by
    intro b
    simp [rel]
  have e46 : ∀ b, (rel m r) 46 b = m 46 b := by
    intro b
    simp [rel]
  have e47 : ∀ b, (rel m r) 47 b = m 47 b := by
    intro b
    simp [rel]
  have e48 : ∀ b, (rel m r) 48 b = if b = r then 0 else m 48 b := by
    intro b
    simp [rel]
  have e49 : ∀ b, (rel m r) 49 b = if b = r then 0 else m 49 b := by
    intro b
    simp [rel]
  have e50 : ∀ b, (rel m r) 50 b = if b = r then 0 else m 50 b := by
    intro b
    simp [rel]
  have e51 : ∀ b, (rel m r) 51 b = m 51 b := by
    intro b
    simp [rel]
  have e52 : ∀ b, (rel m r) 52 b = m 52 b := by
    intro b
    simp [rel]
  have e53 : ∀ b, (rel m r) 53 b = m 53 b := by
    intro b
    simp [rel]
  have e54 : ∀ b, (rel m r) 54 b = if 6 * r ≤ b ∧ b < 6 * r + 6 then 0 else m 54 b := by
    intro b
    simp [rel]
  have e55 : ∀ b, (rel m r) 55 b = if 6 * r ≤ b ∧ b < 6 * r + 6 then 0 else m 55 b := by
    intro b
    simp [rel]
  obtain ⟨hA, hS, hR, hU, hD, hG, hP⟩ := h
  obtain ⟨a1, a2, a3, a4, a5, a6, a7, a8, a9, a10, a11⟩ := hA
  refine ⟨?_, ?_, ?_, ?_, ?_, ?_, ?_⟩
  · unfold ivA
    simp only [e39_1, e39_7, e40, e41, e42, e43, e44, e45, e46, e47, e48, e49, e50, e51, e52, e53, e54, e55]
    refine ⟨?_, ?_, ?_, ?_, ?_, ?_, ?_, ?_, ?_, ?_, ?_⟩
    · grind
    · grind
    · intro a b
      have := a3 a b
      unfold rel
      repeat' split
      all_goals (first | exact a3 _ _ | omega | (have := a3 43 b; omega) | (have := a3 49 r; omega))
    · grind
    · grind
    · grind
    · grind
    · grind
    · grind
    · grind
    · grind
  · unfold ivS
    simp only [e39_1, e39_7, e40, e41, e42, e43, e44, e45, e46, e47, e48, e49, e50, e51, e52, e53, e54, e55]
    simp only [ivS, ivR, ivU, ivD, ivG, ivP] at hS hR hU hD hG hP
    grind
  · unfold ivR
    simp only [e39_1, e39_7, e40, e41, e42, e43, e44, e45, e46, e47, e48, e49, e50, e51, e52, e53, e54, e55]
    simp only [ivS, ivR, ivU, ivD, ivG, ivP] at hS hR hU hD hG hP
    grind
  · unfold ivU
    simp only [e39_1, e39_7, e40, e41, e42, e43, e44, e45, e46, e47, e48, e49, e50, e51, e52, e53, e54, e55]
    simp only [ivS, ivR, ivU, ivD, ivG, ivP] at hS hR hU hD hG hP
    grind
  · unfold ivD
    simp only [e39_1, e39_7, e40, e41, e42, e43, e44, e45, e46, e47, e48, e49, e50, e51, e52, e53, e54, e55]
    simp only [ivS, ivR, ivU, ivD, ivG, ivP] at hS hR hU hD hG hP
    grind
  · unfold ivG
    simp only [e39_1, e39_7, e40, e41, e42, e43, e44, e45, e46, e47, e48, e49, e50, e51, e52, e53, e54, e55]
    simp only [ivS, ivR, ivU, ivD, ivG, ivP] at hS hR hU hD hG hP
    grind
  · unfold ivP
    simp only [e39_1, e39_7, e40, e41, e42, e43, e44, e45, e46, e47, e48, e49, e50, e51, e52, e53, e54, e55]
    simp only [ivS, ivR, ivU, ivD, ivG, ivP] at hS hR hU hD hG hP
    grind
theorem jv_req {m : wM} {r : Nat} (h : Jv m) (hr : r < m 39 7) (h1 : ∀ q, q < m 39 7 → q ≠ r → m 48 q = 1 → m 45 q ≠ m 45 r)
    (h2 : ∀ q j k, q < m 39 7 → q ≠ r → j < m 51 q → k < m 51 r → m 54 (6 * q + j) = 1 → m 52 (6 * r + k) = m 52 (6 * q + j) → ¬ (m 53 (6 * r + k) < 3 ∧ m 53 (6 * q + j) < 3))
    (h3 : ∀ k, k < m 51 r → m 53 (6 * r + k) < 3 → m 41 (m 52 (6 * r + k)) = 0) : Jv (stN m r (m 51 r)) := by
  obtain ⟨p1, p2, p3⟩ := wnN_p h hr (m 51 r) (Nat.le_refl _)
  have wo : ∀ a b, a ≠ 42 → a ≠ 43 → wnN m r (m 51 r) a b = m a b := fun a b h2 h3 => wnN_o h2 h3 _
  have e39_1 : (stN m r (m 51 r)) 39 1 = m 39 1 := by simp [stN, wo]
  have e39_7 : (stN m r (m 51 r)) 39 7 = m 39 7 := by simp [stN, wo]
  have e40 : ∀ b, (stN m r (m 51 r)) 40 b = m 40 b := by
    intro b
    simp [stN, wo]
  have e41 : ∀ b, (stN m r (m 51 r)) 41 b = m 41 b := by
    intro b
    simp [stN, wo]
  have e42 : ∀ b, (stN m r (m 51 r)) 42 b = wnN m r (m 51 r) 42 b := by
    intro b
    simp [stN, wo]
  have e43 : ∀ b, (stN m r (m 51 r)) 43 b = wnN m r (m 51 r) 43 b := by
    intro b
    simp [stN, wo]
  have e44 : ∀ b, (stN m r (m 51 r)) 44 b = m 44 b := by
    intro b
    simp [stN, wo]
  have e45 : ∀ b, (stN m r (m 51 r)) 45 b = m 45 b := by
    intro b
    simp [stN, wo]
  have e46 : ∀ b, (stN m r (m 51 r)) 46 b = m 46 b := by
    intro b
    simp [stN, wo]
  have e47 : ∀ b, (stN m r (m 51 r)) 47 b = m 47 b := by
    intro b
    simp [stN, wo]
  have e48 : ∀ b, (stN m r (m 51 r)) 48 b = if b = r then 1 else m 48 b := by
    intro b
    simp [stN, wo]
  have e49 : ∀ b, (stN m r (m 51 r)) 49 b = m 49 b := by
    intro b
    simp [stN, wo]
  have e50 : ∀ b, (stN m r (m 51 r)) 50 b = m 50 b := by
    intro b
    simp [stN, wo]
  have e51 : ∀ b, (stN m r (m 51 r)) 51 b = m 51 b := by
    intro b
    simp [stN, wo]
  have e52 : ∀ b, (stN m r (m 51 r)) 52 b = m 52 b := by
    intro b
    simp [stN, wo]
  have e53 : ∀ b, (stN m r (m 51 r)) 53 b = m 53 b := by
    intro b
    simp [stN, wo]
  have e54 : ∀ b, (stN m r (m 51 r)) 54 b = if 6 * r ≤ b ∧ b < 6 * r + m 51 r then 1 else m 54 b := by
    intro b
    simp [stN, wo]
  have e55 : ∀ b, (stN m r (m 51 r)) 55 b = if 6 * r ≤ b ∧ b < 6 * r + m 51 r then 0 else m 55 b := by
    intro b
    simp [stN, wo]
  obtain ⟨hA, hS, hR, hU, hD, hG, hP⟩ := h
  obtain ⟨a1, a2, a3, a4, a5, a6, a7, a8, a9, a10, a11⟩ := hA
  refine ⟨?_, ?_, ?_, ?_, ?_, ?_, ?_⟩
  · unfold ivA
    simp only [e39_1, e39_7, e40, e41, e42, e43, e44, e45, e46, e47, e48, e49, e50, e51, e52, e53, e54, e55]
    refine ⟨?_, ?_, ?_, ?_, ?_, ?_, ?_, ?_, ?_, ?_, ?_⟩
    · grind
    · grind
    · intro a b
      have := a3 a b
      by_cases h42 : a = 42
      · subst h42
        rw [e42]
        have := p1 b
        omega
      · by_cases h43 : a = 43
        · subst h43
          rw [e43]
          have := p2 b
          omega
        · unfold stN
          rw [wo a b h42 h43]
          repeat' split
          all_goals omega
    · grind
    · grind
    · grind
    · grind
    · grind
    · grind
    · grind
    · grind
  · unfold ivS
    simp only [e39_1, e39_7, e40, e41, e42, e43, e44, e45, e46, e47, e48, e49, e50, e51, e52, e53, e54, e55]
    simp only [ivS, ivR, ivU, ivD, ivG, ivP] at hS hR hU hD hG hP
    grind
  · unfold ivR
    simp only [e39_1, e39_7, e40, e41, e42, e43, e44, e45, e46, e47, e48, e49, e50, e51, e52, e53, e54, e55]
    simp only [ivS, ivR, ivU, ivD, ivG, ivP] at hS hR hU hD hG hP
    grind
  · unfold ivU
    simp only [e39_1, e39_7, e40, e41, e42, e43, e44, e45, e46, e47, e48, e49, e50, e51, e52, e53, e54, e55]
    simp only [ivS, ivR, ivU, ivD, ivG, ivP] at hS hR hU hD hG hP
    grind
  · unfold ivD
    simp only [e39_1, e39_7, e40, e41, e42, e43, e44, e45, e46, e47, e48, e49, e50, e51, e52, e53, e54, e55]
    simp only [ivS, ivR, ivU, ivD, ivG, ivP] at hS hR hU hD hG hP
    grind
  · unfold ivG
    simp only [e39_1, e39_7, e40, e41, e42, e43, e44, e45, e46, e47, e48, e49, e50, e51, e52, e53, e54, e55]
    simp only [ivS, ivR, ivU, ivD, ivG, ivP] at hS hR hU hD hG hP
    grind
  · unfold ivP
    simp only [e39_1, e39_7, e40, e41, e42, e43, e44, e45, e46, e47, e48, e49, e50, e51, e52, e53, e54, e55]
    intro a b k j ha hb hk hj h5 h6 h7 h8 h9
    have ka := (hR a ha).2.2.2.2.2.2.1
    have kb := (hR b hb).2.2.2.2.2.2.1
    have n1 : ∀ x i, x ≠ r → i < 6 → ¬ (6 * r ≤ 6 * x + i ∧ 6 * x + i < 6 * r + m 51 r) := by
      intro x i h h9
      have := (hR r hr).2.2.2.2.2.2.1
      omega
    by_cases ea : a = r
    · by_cases eb : b = r
      · rw [ea, eb]
      · exfalso
        rw [if_neg (n1 b j eb (by omega))] at h6
        rw [ea] at hk h7 h9
        exact h2 b j k hb eb hj hk h6 h9 ⟨h7, h8⟩
    · rw [if_neg (n1 a k ea (by omega))] at h5
      by_cases eb : b = r
      · exfalso
        rw [eb] at hj h8 h9
        exact h2 a k j ha ea hk hj h5 h9.symm ⟨h8, h7⟩
      · rw [if_neg (n1 b j eb (by omega))] at h6
        exact hP a b k j ha hb hk hj h5 h6 h7 h8 h9
theorem hitR_of {m : wM} {s r : Nat} (h6 : m 51 r ≤ 6) (hr : r < m 39 7) : hitR m s (6 * m 39 7) r ↔ ∃ k, k < m 51 r ∧ m 54 (6 * r + k) = 1 ∧ m 53 (6 * r + k) < 3 ∧ m 52 (6 * r + k) = s := by
  constructor
  · intro h
    refine Classical.byContradiction (fun h2 => h (fun v hv h3 => h2 ?_))
    obtain ⟨h4, h5, h7⟩ := h3
    have e : v = 6 * r + v % 6 := by omega
    rw [h4] at h5
    refine ⟨v % 6, h5, ?_⟩
    rw [← e]
    exact h7
  · rintro ⟨k, hk, h2⟩ h
    have e1 : (6 * r + k) / 6 = r := by omega
    have e2 : (6 * r + k) % 6 = k := by omega
    exact h (6 * r + k) (by omega) ⟨e1, by rw [e1, e2]; exact hk, h2⟩
theorem jv_occ {m : wM} {s : Nat} (h : Jv m) : Jv (occU m s (6 * m 39 7)) := by
  have e39_1 : (occU m s (6 * m 39 7)) 39 1 = m 39 1 := by simp [occU]
  have e39_7 : (occU m s (6 * m 39 7)) 39 7 = m 39 7 := by simp [occU]
  have e40 : ∀ b, (occU m s (6 * m 39 7)) 40 b = m 40 b := by
    intro b
    simp [occU]
  have e41 : ∀ b, (occU m s (6 * m 39 7)) 41 b = if b = s then 1 else m 41 b := by
    intro b
    simp [occU]
  have e42 : ∀ b, (occU m s (6 * m 39 7)) 42 b = m 42 b := by
    intro b
    simp [occU]
  have e43 : ∀ b, (occU m s (6 * m 39 7)) 43 b = m 43 b := by
    intro b
    simp [occU]
  have e44 : ∀ b, (occU m s (6 * m 39 7)) 44 b = m 44 b := by
    intro b
    simp [occU]
  have e45 : ∀ b, (occU m s (6 * m 39 7)) 45 b = m 45 b := by
    intro b
    simp [occU]
  have e46 : ∀ b, (occU m s (6 * m 39 7)) 46 b = m 46 b := by
    intro b
    simp [occU]
  have e47 : ∀ b, (occU m s (6 * m 39 7)) 47 b = m 47 b := by
    intro b
    simp [occU]
  have e48 : ∀ b, (occU m s (6 * m 39 7)) 48 b = if hitR m s (6 * m 39 7) b then 2 else m 48 b := by
    intro b
    simp [occU]
  have e49 : ∀ b, (occU m s (6 * m 39 7)) 49 b = if hitR m s (6 * m 39 7) b then 0 else m 49 b := by
    intro b
    simp [occU]
  have e50 : ∀ b, (occU m s (6 * m 39 7)) 50 b = m 50 b := by
    intro b
    simp [occU]
  have e51 : ∀ b, (occU m s (6 * m 39 7)) 51 b = m 51 b := by
    intro b
    simp [occU]
  have e52 : ∀ b, (occU m s (6 * m 39 7)) 52 b = m 52 b := by
    intro b
    simp [occU]
  have e53 : ∀ b, (occU m s (6 * m 39 7)) 53 b = m 53 b := by
    intro b
    simp [occU]
  have e54 : ∀ b, (occU m s (6 * m 39 7)) 54 b = m 54 b := by
    intro b
    simp [occU]
  have e55 : ∀ b, (occU m s (6 * m 39 7)) 55 b = if b < 6 * m 39 7 ∧ hitU m s b then 1 else m 55 b := by
    intro b
    simp [occU]
  obtain ⟨hA, hS, hR, hU, hD, hG, hP⟩ := h
  obtain ⟨a1, a2, a3, a4, a5, a6, a7, a8, a9, a10, a11⟩ := hA
  have hh : ∀ r, r < m 39 7 → (hitR m s (6 * m 39 7) r ↔ ∃ k, k < m 51 r ∧ m 54 (6 * r + k) = 1 ∧ m 53 (6 * r + k) < 3 ∧ m 52 (6 * r + k) = s) := fun r hr => hitR_of (hR r hr).2.2.2.2.2.2.1 hr
  refine ⟨?_, ?_, ?_, ?_, ?_, ?_, ?_⟩
  · unfold ivA
    simp only [e39_1, e39_7, e40, e41, e42, e43, e44, e45, e46, e47, e48, e49, e50, e51, e52, e53, e54, e55]
    refine ⟨?_, ?_, ?_, ?_, ?_, ?_, ?_, ?_, ?_, ?_, ?_⟩
    · grind
    · grind
    · intro a b
      have := a3 a b
      unfold occU
      repeat' split
      all_goals (first | exact a3 _ _ | omega | (have := a3 43 b; omega) | (have := a3 49 r; omega))
    · grind
    · grind
    · grind
    · grind
    · grind
    · grind
    · grind
    · grind
  · unfold ivS
    simp only [e39_1, e39_7, e40, e41, e42, e43, e44, e45, e46, e47, e48, e49, e50, e51, e52, e53, e54, e55]
    simp only [ivS, ivR, ivU, ivD, ivG, ivP] at hS hR hU hD hG hP
    grind
  · unfold ivR
    simp only [e39_1, e39_7, e40, e41, e42, e43, e44, e45, e46, e47, e48, e49, e50, e51, e52, e53, e54, e55]
    simp only [ivS, ivR, ivU, ivD, ivG, ivP] at hS hR hU hD hG hP
    grind
  · unfold ivU
    simp only [e39_1, e39_7, e40, e41, e42, e43, e44, e45, e46, e47, e48, e49, e50, e51, e52, e53, e54, e55]
    simp only [ivS, ivR, ivU, ivD, ivG, ivP] at hS hR hU hD hG hP
    grind
  · unfold ivD
    simp only [e39_1, e39_7, e40, e41, e42, e43, e44, e45, e46, e47, e48, e49, e50, e51, e52, e53, e54, e55]
    simp only [ivS, ivR, ivU, ivD, ivG, ivP] at hS hR hU hD hG hP
    grind
  · unfold ivG
    simp only [e39_1, e39_7, e40, e41, e42, e43, e44, e45, e46, e47, e48, e49, e50, e51, e52, e53, e54, e55]
    simp only [ivS, ivR, ivU, ivD, ivG, ivP] at hS hR hU hD hG hP
    grind
  · unfold ivP
    simp only [e39_1, e39_7, e40, e41, e42, e43, e44, e45, e46, e47, e48, e49, e50, e51, e52, e53, e54, e55]
    simp only [ivS, ivR, ivU, ivD, ivG, ivP] at hS hR hU hD hG hP
    grind
theorem iv_vac0 {m : wM} {s : Nat} (h : Iv m)  : Iv (um m 41 s 0) := by
  have e39_1 : (um m 41 s 0) 39 1 = m 39 1 := by simp [um]
  have e39_7 : (um m 41 s 0) 39 7 = m 39 7 := by simp [um]
  have e40 : ∀ b, (um m 41 s 0) 40 b = m 40 b := by
    intro b
    simp [um]
  have e41 : ∀ b, (um m 41 s 0) 41 b = if b = s then 0 else m 41 b := by
    intro b
    simp [um]
  have e42 : ∀ b, (um m 41 s 0) 42 b = m 42 b := by
    intro b
    simp [um]
  have e43 : ∀ b, (um m 41 s 0) 43 b = m 43 b := by
    intro b
    simp [um]
  have e44 : ∀ b, (um m 41 s 0) 44 b = m 44 b := by
    intro b
    simp [um]
  have e45 : ∀ b, (um m 41 s 0) 45 b = m 45 b := by
    intro b
    simp [um]
  have e46 : ∀ b, (um m 41 s 0) 46 b = m 46 b := by
    intro b
    simp [um]
  have e47 : ∀ b, (um m 41 s 0) 47 b = m 47 b := by
    intro b
    simp [um]
  have e48 : ∀ b, (um m 41 s 0) 48 b = m 48 b := by
    intro b
    simp [um]
  have e49 : ∀ b, (um m 41 s 0) 49 b = m 49 b := by
    intro b
    simp [um]
  have e50 : ∀ b, (um m 41 s 0) 50 b = m 50 b := by
    intro b
    simp [um]
  have e51 : ∀ b, (um m 41 s 0) 51 b = m 51 b := by
    intro b
    simp [um]
  have e52 : ∀ b, (um m 41 s 0) 52 b = m 52 b := by
    intro b
    simp [um]
  have e53 : ∀ b, (um m 41 s 0) 53 b = m 53 b := by
    intro b
    simp [um]
  have e54 : ∀ b, (um m 41 s 0) 54 b = m 54 b := by
    intro b
    simp [um]
  have e55 : ∀ b, (um m 41 s 0) 55 b = m 55 b := by
    intro b
    simp [um]
  obtain ⟨⟨hA, hS, hR, hU, hD, hG, hP⟩, hL⟩ := h
  obtain ⟨a1, a2, a3, a4, a5, a6, a7, a8, a9, a10, a11⟩ := hA
  refine ⟨⟨?_, ?_, ?_, ?_, ?_, ?_, ?_⟩, ?_⟩
  · unfold ivA
    simp only [e39_1, e39_7, e40, e41, e42, e43, e44, e45, e46, e47, e48, e49, e50, e51, e52, e53, e54, e55]
    refine ⟨?_, ?_, ?_, ?_, ?_, ?_, ?_, ?_, ?_, ?_, ?_⟩
    · grind
    · grind
    · intro a b
      have := a3 a b
      unfold um
      repeat' split
      all_goals (first | exact a3 _ _ | omega | (have := a3 43 b; omega) | (have := a3 49 r; omega))
    · grind
    · grind
    · grind
    · grind
    · grind
    · grind
    · grind
    · grind
  · unfold ivS
    simp only [e39_1, e39_7, e40, e41, e42, e43, e44, e45, e46, e47, e48, e49, e50, e51, e52, e53, e54, e55, safe, rgt, nrA]
    simp only [ivS, ivR, ivU, ivD, ivG, ivP, ivL, safe, rgt, nrA] at hS hR hU hD hG hP hL
    grind
  · unfold ivR
    simp only [e39_1, e39_7, e40, e41, e42, e43, e44, e45, e46, e47, e48, e49, e50, e51, e52, e53, e54, e55, safe, rgt, nrA]
    simp only [ivS, ivR, ivU, ivD, ivG, ivP, ivL, safe, rgt, nrA] at hS hR hU hD hG hP hL
    grind
  · unfold ivU
    simp only [e39_1, e39_7, e40, e41, e42, e43, e44, e45, e46, e47, e48, e49, e50, e51, e52, e53, e54, e55, safe, rgt, nrA]
    simp only [ivS, ivR, ivU, ivD, ivG, ivP, ivL, safe, rgt, nrA] at hS hR hU hD hG hP hL
    grind
  · unfold ivD
    simp only [e39_1, e39_7, e40, e41, e42, e43, e44, e45, e46, e47, e48, e49, e50, e51, e52, e53, e54, e55, safe, rgt, nrA]
    simp only [ivS, ivR, ivU, ivD, ivG, ivP, ivL, safe, rgt, nrA] at hS hR hU hD hG hP hL
    grind
  · unfold ivG
    simp only [e39_1, e39_7, e40, e41, e42, e43, e44, e45, e46, e47, e48, e49, e50, e51, e52, e53, e54, e55, safe, rgt, nrA]
    simp only [ivS, ivR, ivU, ivD, ivG, ivP, ivL, safe, rgt, nrA] at hS hR hU hD hG hP hL
    grind
  · unfold ivP
    simp only [e39_1, e39_7, e40, e41, e42, e43, e44, e45, e46, e47, e48, e49, e50, e51, e52, e53, e54, e55, safe, rgt, nrA]
    simp only [ivS, ivR, ivU, ivD, ivG, ivP, ivL, safe, rgt, nrA] at hS hR hU hD hG hP hL
    grind
  · unfold ivL
    simp only [e39_1, e39_7, e40, e41, e42, e43, e44, e45, e46, e47, e48, e49, e50, e51, e52, e53, e54, e55, safe, rgt, nrA]
    simp only [ivS, ivR, ivU, ivD, ivG, ivP, ivL, safe, rgt, nrA] at hS hR hU hD hG hP hL
    grind
theorem iv_lvN {m : wM} {r : Nat} (h : Iv m) (hr : r < m 39 7) (h2 : m 48 r = 2) (h6 : m 51 r ≤ 6) : Iv (lvN m r (m 51 r)) := by
  have hx : ∀ b, lvN m r (m 51 r) 54 b = m 54 b ∨ (lvN m r (m 51 r) 54 b = 0 ∧ 6 * r ≤ b ∧ b < 6 * r + m 51 r) := by
    intro b
    unfold lvN
    split
    · rename_i h9
      exact Or.inr ⟨rfl, h9.2.1, h9.2.2.1⟩
    · exact Or.inl rfl
  have ho : ∀ a b, a ≠ 54 → lvN m r (m 51 r) a b = m a b := fun a b h9 => if_neg (fun h8 => h9 h8.1)
  generalize lvN m r (m 51 r) = m' at hx ho ⊢
  have e39 : ∀ b, m' 39 b = m 39 b := fun b => ho 39 b (by decide)
  have e40 : ∀ b, m' 40 b = m 40 b := fun b => ho 40 b (by decide)
  have e41 : ∀ b, m' 41 b = m 41 b := fun b => ho 41 b (by decide)
  have e42 : ∀ b, m' 42 b = m 42 b := fun b => ho 42 b (by decide)
  have e43 : ∀ b, m' 43 b = m 43 b := fun b => ho 43 b (by decide)
  have e44 : ∀ b, m' 44 b = m 44 b := fun b => ho 44 b (by decide)
  have e45 : ∀ b, m' 45 b = m 45 b := fun b => ho 45 b (by decide)
  have e46 : ∀ b, m' 46 b = m 46 b := fun b => ho 46 b (by decide)
  have e47 : ∀ b, m' 47 b = m 47 b := fun b => ho 47 b (by decide)
  have e48 : ∀ b, m' 48 b = m 48 b := fun b => ho 48 b (by decide)
  have e49 : ∀ b, m' 49 b = m 49 b := fun b => ho 49 b (by decide)
  have e50 : ∀ b, m' 50 b = m 50 b := fun b => ho 50 b (by decide)
  have e51 : ∀ b, m' 51 b = m 51 b := fun b => ho 51 b (by decide)
  have e52 : ∀ b, m' 52 b = m 52 b := fun b => ho 52 b (by decide)
  have e53 : ∀ b, m' 53 b = m 53 b := fun b => ho 53 b (by decide)
  have e55 : ∀ b, m' 55 b = m 55 b := fun b => ho 55 b (by decide)
  obtain ⟨⟨hA, hS, hR, hU, hD, hG, hP⟩, hL⟩ := h
  obtain ⟨a1, a2, a3, a4, a5, a6, a7, a8, a9, a10, a11⟩ := hA
  refine ⟨⟨?_, ?_, ?_, ?_, ?_, ?_, ?_⟩, ?_⟩
  · unfold ivA
    simp only [e39, e40, e41, e42, e43, e44, e45, e46, e47, e48, e49, e50, e51, e52, e53, e55]
    refine ⟨?_, ?_, ?_, ?_, ?_, ?_, ?_, ?_, ?_, ?_, ?_⟩
    · grind
    · grind
    · intro a b
      have := a3 a b
      by_cases h54 : a = 54
      · subst h54
        have := hx b
        have := a10 b
        omega
      · rw [ho a b h54]
        exact this
    · grind
    · grind
    · grind
    · grind
    · grind
    · grind
    · grind
    · grind
  · unfold ivS
    simp only [e39, e40, e41, e42, e43, e44, e45, e46, e47, e48, e49, e50, e51, e52, e53, e55, safe, rgt, nrA]
    simp only [ivS, ivR, ivU, ivD, ivG, ivP, ivL, safe, rgt, nrA] at hS hR hU hD hG hP hL
    grind
  · unfold ivR
    simp only [e39, e40, e41, e42, e43, e44, e45, e46, e47, e48, e49, e50, e51, e52, e53, e55, safe, rgt, nrA]
    simp only [ivS, ivR, ivU, ivD, ivG, ivP, ivL, safe, rgt, nrA] at hS hR hU hD hG hP hL
    grind
  · unfold ivU
    simp only [e39, e40, e41, e42, e43, e44, e45, e46, e47, e48, e49, e50, e51, e52, e53, e55, safe, rgt, nrA]
    simp only [ivS, ivR, ivU, ivD, ivG, ivP, ivL, safe, rgt, nrA] at hS hR hU hD hG hP hL
    grind
  · unfold ivD
    simp only [e39, e40, e41, e42, e43, e44, e45, e46, e47, e48, e49, e50, e51, e52, e53, e55, safe, rgt, nrA]
    simp only [ivS, ivR, ivU, ivD, ivG, ivP, ivL, safe, rgt, nrA] at hS hR hU hD hG hP hL
    grind
  · unfold ivG
    simp only [e39, e40, e41, e42, e43, e44, e45, e46, e47, e48, e49, e50, e51, e52, e53, e55, safe, rgt, nrA]
    simp only [ivS, ivR, ivU, ivD, ivG, ivP, ivL, safe, rgt, nrA] at hS hR hU hD hG hP hL
    grind
  · unfold ivP
    simp only [e39, e40, e41, e42, e43, e44, e45, e46, e47, e48, e49, e50, e51, e52, e53, e55, safe, rgt, nrA]
    simp only [ivS, ivR, ivU, ivD, ivG, ivP, ivL, safe, rgt, nrA] at hS hR hU hD hG hP hL
    grind
  · unfold ivL
    simp only [e39, e40, e41, e42, e43, e44, e45, e46, e47, e48, e49, e50, e51, e52, e53, e55, safe, rgt, nrA]
    simp only [ivS, ivR, ivU, ivD, ivG, ivP, ivL, safe, rgt, nrA] at hS hR hU hD hG hP hL
    grind
theorem iv_lvA {m : wM} (h : Iv m) : ∀ R, R ≤ m 39 7 → Iv (lvA m R) ∧ lvA m R 39 7 = m 39 7 := by
  intro R
  induction R with
  | zero => exact fun _ => ⟨h, rfl⟩
  | succ R ih =>
    intro hR
    obtain ⟨i1, i2⟩ := ih (by omega)
    show Iv (if lvA m R 48 R = 2 then lvR (lvA m R) R else lvA m R) ∧ (if lvA m R 48 R = 2 then lvR (lvA m R) R else lvA m R) 39 7 = m 39 7
    split
    · rename_i h2
      have hr : R < lvA m R 39 7 := by omega
      unfold lvR
      split
      · refine ⟨iv_rel i1 hr, ?_⟩
        unfold rel
        rw [if_neg (by omega)]
        exact i2
      · refine ⟨iv_lvN i1 hr h2 (i1.1.R R hr).2.2.2.2.2.2.1, ?_⟩
        unfold lvN
        rw [if_neg (fun h9 => absurd h9.1 (by decide))]
        exact i2
    · exact ⟨i1, i2⟩
theorem iv_mov {m : wM} {s p : Nat} (h : Iv m) (hs : s < m 39 1) (hp : p ≤ 1) (h4 : m 40 s ≠ 0) (hh : ∀ r k, r < m 39 7 → k < m 51 r → m 52 (6 * r + k) = s → m 54 (6 * r + k) ≠ 1) : Iv (wnt m s p) := by
  have e39_1 : (wnt m s p) 39 1 = m 39 1 := by simp [wnt]
  have e39_7 : (wnt m s p) 39 7 = m 39 7 := by simp [wnt]
  have e40 : ∀ b, (wnt m s p) 40 b = m 40 b := by
    intro b
    simp [wnt]
  have e41 : ∀ b, (wnt m s p) 41 b = m 41 b := by
    intro b
    simp [wnt]
  have e42 : ∀ b, (wnt m s p) 42 b = if m 42 s = p then m 42 b else if b = s then p else m 42 b := by
    intro b
    simp [wnt]
  have e43 : ∀ b, (wnt m s p) 43 b = if m 42 s = p then m 43 b else if b = s then 3 else m 43 b := by
    intro b
    simp [wnt]
  have e44 : ∀ b, (wnt m s p) 44 b = m 44 b := by
    intro b
    simp [wnt]
  have e45 : ∀ b, (wnt m s p) 45 b = m 45 b := by
    intro b
    simp [wnt]
  have e46 : ∀ b, (wnt m s p) 46 b = m 46 b := by
    intro b
    simp [wnt]
  have e47 : ∀ b, (wnt m s p) 47 b = m 47 b := by
    intro b
    simp [wnt]
  have e48 : ∀ b, (wnt m s p) 48 b = m 48 b := by
    intro b
    simp [wnt]
  have e49 : ∀ b, (wnt m s p) 49 b = m 49 b := by
    intro b
    simp [wnt]
  have e50 : ∀ b, (wnt m s p) 50 b = m 50 b := by
    intro b
    simp [wnt]
  have e51 : ∀ b, (wnt m s p) 51 b = m 51 b := by
    intro b
    simp [wnt]
  have e52 : ∀ b, (wnt m s p) 52 b = m 52 b := by
    intro b
    simp [wnt]
  have e53 : ∀ b, (wnt m s p) 53 b = m 53 b := by
    intro b
    simp [wnt]
  have e54 : ∀ b, (wnt m s p) 54 b = m 54 b := by
    intro b
    simp [wnt]
  have e55 : ∀ b, (wnt m s p) 55 b = m 55 b := by
    intro b
    simp [wnt]
  obtain ⟨⟨hA, hS, hR, hU, hD, hG, hP⟩, hL⟩ := h
  obtain ⟨a1, a2, a3, a4, a5, a6, a7, a8, a9, a10, a11⟩ := hA
  refine ⟨⟨?_, ?_, ?_, ?_, ?_, ?_, ?_⟩, ?_⟩
  · unfold ivA
    simp only [e39_1, e39_7, e40, e41, e42, e43, e44, e45, e46, e47, e48, e49, e50, e51, e52, e53, e54, e55]
    refine ⟨?_, ?_, ?_, ?_, ?_, ?_, ?_, ?_, ?_, ?_, ?_⟩
    · grind
    · grind
    · intro a b
      have := a3 a b
      unfold wnt
      repeat' split
      all_goals (first | exact a3 _ _ | omega | (have := a3 43 b; omega) | (have := a3 49 r; omega))
    · grind
    · grind
    · grind
    · grind
    · grind
    · grind
    · grind
    · grind
  · unfold ivS
    simp only [e39_1, e39_7, e40, e41, e42, e43, e44, e45, e46, e47, e48, e49, e50, e51, e52, e53, e54, e55, safe, rgt, nrA]
    simp only [ivS, ivR, ivU, ivD, ivG, ivP, ivL, safe, rgt, nrA] at hS hR hU hD hG hP hL
    grind
  · unfold ivR
    simp only [e39_1, e39_7, e40, e41, e42, e43, e44, e45, e46, e47, e48, e49, e50, e51, e52, e53, e54, e55, safe, rgt, nrA]
    simp only [ivS, ivR, ivU, ivD, ivG, ivP, ivL, safe, rgt, nrA] at hS hR hU hD hG hP hL
    grind
  · unfold ivU
    simp only [e39_1, e39_7, e40, e41, e42, e43, e44, e45, e46, e47, e48, e49, e50, e51, e52, e53, e54, e55, safe, rgt, nrA]
    simp only [ivS, ivR, ivU, ivD, ivG, ivP, ivL, safe, rgt, nrA] at hS hR hU hD hG hP hL
    grind
  · unfold ivD
    simp only [e39_1, e39_7, e40, e41, e42, e43, e44, e45, e46, e47, e48, e49, e50, e51, e52, e53, e54, e55, safe, rgt, nrA]
    simp only [ivS, ivR, ivU, ivD, ivG, ivP, ivL, safe, rgt, nrA] at hS hR hU hD hG hP hL
    grind
  · unfold ivG
    simp only [e39_1, e39_7, e40, e41, e42, e43, e44, e45, e46, e47, e48, e49, e50, e51, e52, e53, e54, e55, safe, rgt, nrA]
    simp only [ivS, ivR, ivU, ivD, ivG, ivP, ivL, safe, rgt, nrA] at hS hR hU hD hG hP hL
    grind
  · unfold ivP
    simp only [e39_1, e39_7, e40, e41, e42, e43, e44, e45, e46, e47, e48, e49, e50, e51, e52, e53, e54, e55, safe, rgt, nrA]
    simp only [ivS, ivR, ivU, ivD, ivG, ivP, ivL, safe, rgt, nrA] at hS hR hU hD hG hP hL
    grind
  · unfold ivL
    simp only [e39_1, e39_7, e40, e41, e42, e43, e44, e45, e46, e47, e48, e49, e50, e51, e52, e53, e54, e55, safe, rgt, nrA]
    simp only [ivS, ivR, ivU, ivD, ivG, ivP, ivL, safe, rgt, nrA] at hS hR hU hD hG hP hL
    grind
theorem jv_tkN {m : wM}  (h : Jv m)  : Jv (tkN m (m 39 1)) := by
  have e39_1 : (tkN m (m 39 1)) 39 1 = m 39 1 := by simp [tkN]
  have e39_7 : (tkN m (m 39 1)) 39 7 = m 39 7 := by simp [tkN]
  have e40 : ∀ b, (tkN m (m 39 1)) 40 b = m 40 b := by
    intro b
    simp [tkN]
  have e41 : ∀ b, (tkN m (m 39 1)) 41 b = m 41 b := by
    intro b
    simp [tkN]
  have e42 : ∀ b, (tkN m (m 39 1)) 42 b = m 42 b := by
    intro b
    simp [tkN]
  have e43 : ∀ b, (tkN m (m 39 1)) 43 b = if b < m 39 1 then m 43 b - 1 else m 43 b := by
    intro b
    simp [tkN]
  have e44 : ∀ b, (tkN m (m 39 1)) 44 b = m 44 b := by
    intro b
    simp [tkN]
  have e45 : ∀ b, (tkN m (m 39 1)) 45 b = m 45 b := by
    intro b
    simp [tkN]
  have e46 : ∀ b, (tkN m (m 39 1)) 46 b = m 46 b := by
    intro b
    simp [tkN]
  have e47 : ∀ b, (tkN m (m 39 1)) 47 b = m 47 b := by
    intro b
    simp [tkN]
  have e48 : ∀ b, (tkN m (m 39 1)) 48 b = m 48 b := by
    intro b
    simp [tkN]
  have e49 : ∀ b, (tkN m (m 39 1)) 49 b = m 49 b := by
    intro b
    simp [tkN]
  have e50 : ∀ b, (tkN m (m 39 1)) 50 b = m 50 b := by
    intro b
    simp [tkN]
  have e51 : ∀ b, (tkN m (m 39 1)) 51 b = m 51 b := by
    intro b
    simp [tkN]
  have e52 : ∀ b, (tkN m (m 39 1)) 52 b = m 52 b := by
    intro b
    simp [tkN]
  have e53 : ∀ b, (tkN m (m 39 1)) 53 b = m 53 b := by
    intro b
    simp [tkN]
  have e54 : ∀ b, (tkN m (m 39 1)) 54 b = m 54 b := by
    intro b
    simp [tkN]
  have e55 : ∀ b, (tkN m (m 39 1)) 55 b = m 55 b := by
    intro b
    simp [tkN]
  obtain ⟨hA, hS, hR, hU, hD, hG, hP⟩ := h
  obtain ⟨a1, a2, a3, a4, a5, a6, a7, a8, a9, a10, a11⟩ := hA
  refine ⟨?_, ?_, ?_, ?_, ?_, ?_, ?_⟩
  · unfold ivA
    simp only [e39_1, e39_7, e40, e41, e42, e43, e44, e45, e46, e47, e48, e49, e50, e51, e52, e53, e54, e55]
    refine ⟨?_, ?_, ?_, ?_, ?_, ?_, ?_, ?_, ?_, ?_, ?_⟩
    · grind
    · grind
    · intro a b
      have := a3 a b
      unfold tkN
      repeat' split
      all_goals (first | exact a3 _ _ | omega | (have := a3 43 b; omega) | (have := a3 49 r; omega))
    · grind
    · grind
    · grind
    · grind
    · grind
    · grind
    · grind
    · grind
  · unfold ivS
    simp only [e39_1, e39_7, e40, e41, e42, e43, e44, e45, e46, e47, e48, e49, e50, e51, e52, e53, e54, e55]
    simp only [ivS, ivR, ivU, ivD, ivG, ivP] at hS hR hU hD hG hP
    grind
  · unfold ivR
    simp only [e39_1, e39_7, e40, e41, e42, e43, e44, e45, e46, e47, e48, e49, e50, e51, e52, e53, e54, e55]
    simp only [ivS, ivR, ivU, ivD, ivG, ivP] at hS hR hU hD hG hP
    grind
  · unfold ivU
    simp only [e39_1, e39_7, e40, e41, e42, e43, e44, e45, e46, e47, e48, e49, e50, e51, e52, e53, e54, e55]
    simp only [ivS, ivR, ivU, ivD, ivG, ivP] at hS hR hU hD hG hP
    grind
  · unfold ivD
    simp only [e39_1, e39_7, e40, e41, e42, e43, e44, e45, e46, e47, e48, e49, e50, e51, e52, e53, e54, e55]
    simp only [ivS, ivR, ivU, ivD, ivG, ivP] at hS hR hU hD hG hP
    grind
  · unfold ivG
    simp only [e39_1, e39_7, e40, e41, e42, e43, e44, e45, e46, e47, e48, e49, e50, e51, e52, e53, e54, e55]
    simp only [ivS, ivR, ivU, ivD, ivG, ivP] at hS hR hU hD hG hP
    grind
  · unfold ivP
    simp only [e39_1, e39_7, e40, e41, e42, e43, e44, e45, e46, e47, e48, e49, e50, e51, e52, e53, e54, e55]
    simp only [ivS, ivR, ivU, ivD, ivG, ivP] at hS hR hU hD hG hP
    grind
theorem jv_dec {m : wM} {r : Nat} (h : Jv m) (hr : r < m 39 7) (h1 : m 49 r ≠ 1) (h3 : m 48 r = 3) : Jv (um m 49 r (m 49 r - 1)) := by
  have e39_1 : (um m 49 r (m 49 r - 1)) 39 1 = m 39 1 := by simp [um]
  have e39_7 : (um m 49 r (m 49 r - 1)) 39 7 = m 39 7 := by simp [um]
  have e40 : ∀ b, (um m 49 r (m 49 r - 1)) 40 b = m 40 b := by
    intro b
    simp [um]
  have e41 : ∀ b, (um m 49 r (m 49 r - 1)) 41 b = m 41 b := by
    intro b
    simp [um]
  have e42 : ∀ b, (um m 49 r (m 49 r - 1)) 42 b = m 42 b := by
    intro b
    simp [um]
  have e43 : ∀ b, (um m 49 r (m 49 r - 1)) 43 b = m 43 b := by
    intro b
    simp [um]
  have e44 : ∀ b, (um m 49 r (m 49 r - 1)) 44 b = m 44 b := by
    intro b
    simp [um]
  have e45 : ∀ b, (um m 49 r (m 49 r - 1)) 45 b = m 45 b := by
    intro b
    simp [um]
  have e46 : ∀ b, (um m 49 r (m 49 r - 1)) 46 b = m 46 b := by
    intro b
    simp [um]
  have e47 : ∀ b, (um m 49 r (m 49 r - 1)) 47 b = m 47 b := by
    intro b
    simp [um]
  have e48 : ∀ b, (um m 49 r (m 49 r - 1)) 48 b = m 48 b := by
    intro b
    simp [um]
  have e49 : ∀ b, (um m 49 r (m 49 r - 1)) 49 b = if b = r then m 49 r - 1 else m 49 b := by
    intro b
    simp [um]
  have e50 : ∀ b, (um m 49 r (m 49 r - 1)) 50 b = m 50 b := by
    intro b
    simp [um]
  have e51 : ∀ b, (um m 49 r (m 49 r - 1)) 51 b = m 51 b := by
    intro b
    simp [um]
  have e52 : ∀ b, (um m 49 r (m 49 r - 1)) 52 b = m 52 b := by
    intro b
    simp [um]
  have e53 : ∀ b, (um m 49 r (m 49 r - 1)) 53 b = m 53 b := by
    intro b
    simp [um]
  have e54 : ∀ b, (um m 49 r (m 49 r - 1)) 54 b = m 54 b := by
    intro b
    simp [um]
  have e55 : ∀ b, (um m 49 r (m 49 r - 1)) 55 b = m 55 b := by
    intro b
    simp [um]
  obtain ⟨hA, hS, hR, hU, hD, hG, hP⟩ := h
  obtain ⟨a1, a2, a3, a4, a5, a6, a7, a8, a9, a10, a11⟩ := hA
  refine ⟨?_, ?_, ?_, ?_, ?_, ?_, ?_⟩
  · unfold ivA
    simp only [e39_1, e39_7, e40, e41, e42, e43, e44, e45, e46, e47, e48, e49, e50, e51, e52, e53, e54, e55]
    refine ⟨?_, ?_, ?_, ?_, ?_, ?_, ?_, ?_, ?_, ?_, ?_⟩
    · grind
    · grind
    · intro a b
      have := a3 a b
      unfold um
      repeat' split
      all_goals (first | exact a3 _ _ | omega | (have := a3 43 b; omega) | (have := a3 49 r; omega))
    · grind
    · grind
    · grind
    · grind
    · grind
    · grind
    · grind
    · grind
  · unfold ivS
    simp only [e39_1, e39_7, e40, e41, e42, e43, e44, e45, e46, e47, e48, e49, e50, e51, e52, e53, e54, e55]
    simp only [ivS, ivR, ivU, ivD, ivG, ivP] at hS hR hU hD hG hP
    grind
  · unfold ivR
    simp only [e39_1, e39_7, e40, e41, e42, e43, e44, e45, e46, e47, e48, e49, e50, e51, e52, e53, e54, e55]
    simp only [ivS, ivR, ivU, ivD, ivG, ivP] at hS hR hU hD hG hP
    grind
  · unfold ivU
    simp only [e39_1, e39_7, e40, e41, e42, e43, e44, e45, e46, e47, e48, e49, e50, e51, e52, e53, e54, e55]
    simp only [ivS, ivR, ivU, ivD, ivG, ivP] at hS hR hU hD hG hP
    grind
  · unfold ivD
    simp only [e39_1, e39_7, e40, e41, e42, e43, e44, e45, e46, e47, e48, e49, e50, e51, e52, e53, e54, e55]
    simp only [ivS, ivR, ivU, ivD, ivG, ivP] at hS hR hU hD hG hP
    grind
  · unfold ivG
    simp only [e39_1, e39_7, e40, e41, e42, e43, e44, e45, e46, e47, e48, e49, e50, e51, e52, e53, e54, e55]
    simp only [ivS, ivR, ivU, ivD, ivG, ivP] at hS hR hU hD hG hP
    grind
  · unfold ivP
    simp only [e39_1, e39_7, e40, e41, e42, e43, e44, e45, e46, e47, e48, e49, e50, e51, e52, e53, e54, e55]
    simp only [ivS, ivR, ivU, ivD, ivG, ivP] at hS hR hU hD hG hP
    grind
theorem jv_cdN {m : wM} (h : Jv m) : ∀ R, R ≤ m 39 7 → Jv (cdN m R) ∧ cdN m R 39 7 = m 39 7 := by
  intro R
  induction R with
  | zero => exact fun _ => ⟨h, rfl⟩
  | succ R ih =>
    intro hR
    obtain ⟨i1, i2⟩ := ih (by omega)
    have hr : R < cdN m R 39 7 := by omega
    show Jv (cdR (cdN m R) R) ∧ cdR (cdN m R) R 39 7 = m 39 7
    unfold cdR
    split
    · split
      · refine ⟨jv_rel i1 hr, ?_⟩
        unfold rel
        rw [if_neg (by omega)]
        exact i2
      · rename_i h3 h1
        refine ⟨jv_dec i1 hr h1 h3, ?_⟩
        unfold um
        rw [if_neg (by omega)]
        exact i2
    · exact ⟨i1, i2⟩
theorem jv_tk1 {m : wM} (h : Jv m) : Jv (tk1 m) := by
  have h1 := jv_tkN h
  have e : tkN m (m 39 1) 39 7 = m 39 7 := by simp [tkN]
  unfold tk1
  rw [← e]
  exact (jv_cdN h1 _ (Nat.le_refl _)).1
theorem jv_tks {m : wM} (h : Jv m) : ∀ k, Jv (tks m k) := by
  intro k
  induction k with
  | zero => exact h
  | succ k ih => exact jv_tk1 ih
