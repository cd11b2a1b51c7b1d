/-! the invariant is kept -/
theorem iv_0 : Iv (fun _ _ => 0) := by
  refine ⟨⟨?_, ?_, ?_, ?_, ?_, ?_, ?_⟩, ?_⟩
  · unfold ivA
    simp
  · intro i hi
    exact absurd hi (Nat.not_lt_zero _)
  · intro i hi
    exact absurd hi (Nat.not_lt_zero _)
  · intro i k hi
    exact absurd hi (Nat.not_lt_zero _)
  · intro i k j hi
    exact absurd hi (Nat.not_lt_zero _)
  · intro i k hi
    exact absurd hi (Nat.not_lt_zero _)
  · intro i q k j hi
    exact absurd hi (Nat.not_lt_zero _)
  · intro i hi
    exact absurd hi (Nat.not_lt_zero _)
theorem iv_clr {m : wM} (h : Iv m) : Iv (clrM m) := by
  have e1 : clrM m 39 1 = 0 := by simp [clrM]
  have e7 : clrM m 39 7 = 0 := by simp [clrM]
  have eo : ∀ a b, a ≠ 39 → clrM m a b = m a b := fun a b h9 => if_neg (fun h8 => h9 h8.1)
  obtain ⟨⟨⟨a1, a2, a3, a4, a5, a6, a7, a8, a9, a10, a11⟩, -⟩, -⟩ := h
  refine ⟨⟨?_, ?_, ?_, ?_, ?_, ?_, ?_⟩, ?_⟩
  · unfold ivA
    simp only [e1, e7, eo 40 _ (by decide), eo 41 _ (by decide), eo 42 _ (by decide), eo 43 _ (by decide), eo 44 _ (by decide), eo 50 _ (by decide), eo 54 _ (by decide), eo 55 _ (by decide)]
    refine ⟨by decide, by decide, fun a b => ?_, a4, a5, a6, a7, a8, a9, a10, a11⟩
    unfold clrM
    split
    · decide
    · exact a3 a b
  · intro i hi
    rw [e1] at hi
    exact absurd hi (Nat.not_lt_zero _)
  · intro i hi
    rw [e7] at hi
    exact absurd hi (Nat.not_lt_zero _)
  · intro i k hi
    rw [e7] at hi
    exact absurd hi (Nat.not_lt_zero _)
  · intro i k j hi
    rw [e7] at hi
    exact absurd hi (Nat.not_lt_zero _)
  · intro i k hi
    rw [e7] at hi
    exact absurd hi (Nat.not_lt_zero _)
  · intro i q k j hi
    rw [e7] at hi
    exact absurd hi (Nat.not_lt_zero _)
  · intro i hi
    rw [e7] at hi
    exact absurd hi (Nat.not_lt_zero _)
theorem iv_sec {m : wM} {p : Nat} (h : Iv m) (h1 : m 39 1 < 12) (hp : p ≤ 1) : Iv (secM m p) := by
  have e39_1 : (secM m p) 39 1 = m 39 1 + 1 := by simp [secM]
  have e39_7 : (secM m p) 39 7 = m 39 7 := by simp [secM]
  have e40 : ∀ b, (secM m p) 40 b = if b = m 39 1 then p else m 40 b := by
    intro b
    simp [secM]
  have e41 : ∀ b, (secM m p) 41 b = if b = m 39 1 then 0 else m 41 b := by
    intro b
    simp [secM]
  have e42 : ∀ b, (secM m p) 42 b = if b = m 39 1 then 0 else m 42 b := by
    intro b
    simp [secM]
  have e43 : ∀ b, (secM m p) 43 b = if b = m 39 1 then 0 else m 43 b := by
    intro b
    simp [secM]
  have e44 : ∀ b, (secM m p) 44 b = if b = m 39 1 then 0 else m 44 b := by
    intro b
    simp [secM]
  have e45 : ∀ b, (secM m p) 45 b = m 45 b := by
    intro b
    simp [secM]
  have e46 : ∀ b, (secM m p) 46 b = m 46 b := by
    intro b
    simp [secM]
  have e47 : ∀ b, (secM m p) 47 b = m 47 b := by
    intro b
    simp [secM]
  have e48 : ∀ b, (secM m p) 48 b = m 48 b := by
    intro b
    simp [secM]
  have e49 : ∀ b, (secM m p) 49 b = m 49 b := by
    intro b
    simp [secM]
  have e50 : ∀ b, (secM m p) 50 b = m 50 b := by
    intro b
    simp [secM]
  have e51 : ∀ b, (secM m p) 51 b = m 51 b := by
    intro b
    simp [secM]
  have e52 : ∀ b, (secM m p) 52 b = m 52 b := by
    intro b
    simp [secM]
  have e53 : ∀ b, (secM m p) 53 b = m 53 b := by
    intro b
    simp [secM]
  have e54 : ∀ b, (secM m p) 54 b = m 54 b := by
    intro b
    simp [secM]
  have e55 : ∀ b, (secM m p) 55 b = m 55 b := by
    intro b
    simp [secM]
  obtain ⟨⟨hA, hS, hR, hU, hD, hG, hP⟩, hL⟩ := h
  obtain ⟨a1, a2, a3, a4, a5, a6, a7, a8, a9, a10, a11⟩ := hA
  refine ⟨⟨?_, ?_, ?_, ?_, ?_, ?_, ?_⟩, ?_⟩
  · unfold ivA
    simp only [e39_1, e39_7, e40, e41, e42, e43, e44, e45, e46, e47, e48, e49, e50, e51, e52, e53, e54, e55]
    refine ⟨?_, ?_, ?_, ?_, ?_, ?_, ?_, ?_, ?_, ?_, ?_⟩
    · grind
    · grind
    · intro a b
      have := a3 a b
      unfold secM
      repeat' split
      all_goals (first | exact a3 _ _ | omega | (have := a3 43 b; omega) | (have := a3 49 r; omega))
    · grind
    · grind
    · grind
    · grind
    · grind
    · grind
    · grind
    · grind
  · unfold ivS
    simp only [e39_1, e39_7, e40, e41, e42, e43, e44, e45, e46, e47, e48, e49, e50, e51, e52, e53, e54, e55, safe, rgt, nrA]
    simp only [ivS, ivR, ivU, ivD, ivG, ivP, ivL, safe, rgt, nrA] at hS hR hU hD hG hP hL
    grind
  · unfold ivR
    simp only [e39_1, e39_7, e40, e41, e42, e43, e44, e45, e46, e47, e48, e49, e50, e51, e52, e53, e54, e55, safe, rgt, nrA]
    simp only [ivS, ivR, ivU, ivD, ivG, ivP, ivL, safe, rgt, nrA] at hS hR hU hD hG hP hL
    grind
  · unfold ivU
    simp only [e39_1, e39_7, e40, e41, e42, e43, e44, e45, e46, e47, e48, e49, e50, e51, e52, e53, e54, e55, safe, rgt, nrA]
    simp only [ivS, ivR, ivU, ivD, ivG, ivP, ivL, safe, rgt, nrA] at hS hR hU hD hG hP hL
    grind
  · unfold ivD
    simp only [e39_1, e39_7, e40, e41, e42, e43, e44, e45, e46, e47, e48, e49, e50, e51, e52, e53, e54, e55, safe, rgt, nrA]
    simp only [ivS, ivR, ivU, ivD, ivG, ivP, ivL, safe, rgt, nrA] at hS hR hU hD hG hP hL
    grind
  · unfold ivG
    simp only [e39_1, e39_7, e40, e41, e42, e43, e44, e45, e46, e47, e48, e49, e50, e51, e52, e53, e54, e55, safe, rgt, nrA]
    simp only [ivS, ivR, ivU, ivD, ivG, ivP, ivL, safe, rgt, nrA] at hS hR hU hD hG hP hL
    grind
  · unfold ivP
    simp only [e39_1, e39_7, e40, e41, e42, e43, e44, e45, e46, e47, e48, e49, e50, e51, e52, e53, e54, e55, safe, rgt, nrA]
    simp only [ivS, ivR, ivU, ivD, ivG, ivP, ivL, safe, rgt, nrA] at hS hR hU hD hG hP hL
    grind
  · unfold ivL
    simp only [e39_1, e39_7, e40, e41, e42, e43, e44, e45, e46, e47, e48, e49, e50, e51, e52, e53, e54, e55, safe, rgt, nrA]
    simp only [ivS, ivR, ivU, ivD, ivG, ivP, ivL, safe, rgt, nrA] at hS hR hU hD hG hP hL
    grind
theorem iv_rel {m : wM} {r : Nat} (h : Iv m) (hr : r < m 39 7) : Iv (rel m r) := by
  have e39_1 : (rel m r) 39 1 = m 39 1 := by simp [rel]
  have e39_7 : (rel m r) 39 7 = m 39 7 := by simp [rel]
  have e40 : ∀ b, (rel m r) 40 b = m 40 b := by
    intro b
    simp [rel]
  have e41 : ∀ b, (rel m r) 41 b = m 41 b := by
    intro b
    simp [rel]
  have e42 : ∀ b, (rel m r) 42 b = m 42 b := by
    intro b
    simp [rel]
  have e43 : ∀ b, (rel m r) 43 b = m 43 b := by
    intro b
    simp [rel]
  have e44 : ∀ b, (rel m r) 44 b = m 44 b := by
    intro b
    simp [rel]
  have e45 : ∀ b, (rel m r) 45 b = m 45 b := by
    intro b
    simp [rel]
  have e46 : ∀ b, (rel m r) 46 b = m 46 b := by
    intro b
    simp [rel]
  have e47 : ∀ b, (rel m r) 47 b = m 47 b := by
    intro b
    simp [rel]
  have e48 : ∀ b, (rel m r) 48 b = if b = r then 0 else m 48 b := by
    intro b
    simp [rel]
  have e49 : ∀ b, (rel m r) 49 b = if b = r then 0 else m 49 b := by
    intro b
    simp [rel]
  have e50 : ∀ b, (rel m r) 50 b = if b = r then 0 else m 50 b := by
    intro b
    simp [rel]
  have e51 : ∀ b, (rel m r) 51 b = m 51 b := by
    intro b
    simp [rel]
  have e52 : ∀ b, (rel m r) 52 b = m 52 b := by
    intro b
    simp [rel]
  have e53 : ∀ b, (rel m r) 53 b = m 53 b := by
    intro b
    simp [rel]
  have e54 : ∀ b, (rel m r) 54 b = if 6 * r ≤ b ∧ b < 6 * r + 6 then 0 else m 54 b := by
    intro b
    simp [rel]
  have e55 : ∀ b, (rel m r) 55 b = if 6 * r ≤ b ∧ b < 6 * r + 6 then 0 else m 55 b := by
    intro b
    simp [rel]
  obtain ⟨⟨hA, hS, hR, hU, hD, hG, hP⟩, hL⟩ := h
  obtain ⟨a1, a2, a3, a4, a5, a6, a7, a8, a9, a10, a11⟩ := hA
  refine ⟨⟨?_, ?_, ?_, ?_, ?_, ?_, ?_⟩, ?_⟩
  · unfold ivA
    simp only [e39_1, e39_7, e40, e41, e42, e43, e44, e45, e46, e47, e48, e49, e50, e51, e52, e53, e54, e55]
    refine ⟨?_, ?_, ?_, ?_, ?_, ?_, ?_, ?_, ?_, ?_, ?_⟩
    · grind
    · grind
    · intro a b
      have := a3 a b
      unfold rel
      repeat' split
      all_goals (first | exact a3 _ _ | omega | (have := a3 43 b; omega) | (have := a3 49 r; omega))
    · grind
    · grind
    · grind
    · grind
    · grind
    · grind
    · grind
    · grind
  · unfold ivS
    simp only [e39_1, e39_7, e40, e41, e42, e43, e44, e45, e46, e47, e48, e49, e50, e51, e52, e53, e54, e55, safe, rgt, nrA]
    simp only [ivS, ivR, ivU, ivD, ivG, ivP, ivL, safe, rgt, nrA] at hS hR hU hD hG hP hL
    grind
  · unfold ivR
    simp only [e39_1, e39_7, e40, e41, e42, e43, e44, e45, e46, e47, e48, e49, e50, e51, e52, e53, e54, e55, safe, rgt, nrA]
    simp only [ivS, ivR, ivU, ivD, ivG, ivP, ivL, safe, rgt, nrA] at hS hR hU hD hG hP hL
    grind
  · unfold ivU
    simp only [e39_1, e39_7, e40, e41, e42, e43, e44, e45, e46, e47, e48, e49, e50, e51, e52, e53, e54, e55, safe, rgt, nrA]
    simp only [ivS, ivR, ivU, ivD, ivG, ivP, ivL, safe, rgt, nrA] at hS hR hU hD hG hP hL
    grind
  · unfold ivD
    simp only [e39_1, e39_7, e40, e41, e42, e43, e44, e45, e46, e47, e48, e49, e50, e51, e52, e53, e54, e55, safe, rgt, nrA]
    simp only [ivS, ivR, ivU, ivD, ivG, ivP, ivL, safe, rgt, nrA] at hS hR hU hD hG hP hL
    grind
  · unfold ivG
    simp only [e39_1, e39_7, e40, e41, e42, e43, e44, e45, e46, e47, e48, e49, e50, e51, e52, e53, e54, e55, safe, rgt, nrA]
    simp only [ivS, ivR, ivU, ivD, ivG, ivP, ivL, safe, rgt, nrA] at hS hR hU hD hG hP hL
    grind
  · unfold ivP
    simp only [e39_1, e39_7, e40, e41, e42, e43, e44, e45, e46, e47, e48, e49, e50, e51, e52, e53, e54, e55, safe, rgt, nrA]
    simp only [ivS, ivR, ivU, ivD, ivG, ivP, ivL, safe, rgt, nrA] at hS hR hU hD hG hP hL
    grind
  · unfold ivL
    simp only [e39_1, e39_7, e40, e41, e42, e43, e44, e45, e46, e47, e48, e49, e50, e51, e52, e53, e54, e55, safe, rgt, nrA]
    simp only [ivS, ivR, ivU, ivD, ivG, ivP, ivL, safe, rgt, nrA] at hS hR hU hD hG hP hL
    grind
theorem iv_rte {m : wM} {sg ap dl : Nat} (h : Iv m) (h1 : m 39 7 < 8) (h2 : sg ≤ 5) (h3 : ap ≤ m 39 1) (h4 : 1 ≤ dl) (h5 : dl ≤ 9) : Iv (rteM m sg ap dl) := by
  have e39_1 : (rteM m sg ap dl) 39 1 = m 39 1 := by simp [rteM, rel]
  have e39_7 : (rteM m sg ap dl) 39 7 = m 39 7 + 1 := by simp [rteM, rel]
  have e40 : ∀ b, (rteM m sg ap dl) 40 b = m 40 b := by
    intro b
    simp [rteM, rel]
  have e41 : ∀ b, (rteM m sg ap dl) 41 b = m 41 b := by
    intro b
    simp [rteM, rel]
  have e42 : ∀ b, (rteM m sg ap dl) 42 b = m 42 b := by
    intro b
    simp [rteM, rel]
  have e43 : ∀ b, (rteM m sg ap dl) 43 b = m 43 b := by
    intro b
    simp [rteM, rel]
  have e44 : ∀ b, (rteM m sg ap dl) 44 b = m 44 b := by
    intro b
    simp [rteM, rel]
  have e45 : ∀ b, (rteM m sg ap dl) 45 b = if b = m 39 7 then sg else m 45 b := by
    intro b
    simp [rteM, rel]
  have e46 : ∀ b, (rteM m sg ap dl) 46 b = if b = m 39 7 then ap else m 46 b := by
    intro b
    simp [rteM, rel]
  have e47 : ∀ b, (rteM m sg ap dl) 47 b = if b = m 39 7 then dl else m 47 b := by
    intro b
    simp [rteM, rel]
  have e48 : ∀ b, (rteM m sg ap dl) 48 b = if b = m 39 7 then 0 else m 48 b := by
    intro b
    simp [rteM, rel]
  have e49 : ∀ b, (rteM m sg ap dl) 49 b = if b = m 39 7 then 0 else m 49 b := by
    intro b
    simp [rteM, rel]
  have e50 : ∀ b, (rteM m sg ap dl) 50 b = if b = m 39 7 then 0 else m 50 b := by
    intro b
    simp [rteM, rel]
  have e51 : ∀ b, (rteM m sg ap dl) 51 b = if b = m 39 7 then 0 else m 51 b := by
    intro b
    simp [rteM, rel]
  have e52 : ∀ b, (rteM m sg ap dl) 52 b = m 52 b := by
    intro b
    simp [rteM, rel]
  have e53 : ∀ b, (rteM m sg ap dl) 53 b = m 53 b := by
    intro b
    simp [rteM, rel]
  have e54 : ∀ b, (rteM m sg ap dl) 54 b = if 6 * m 39 7 ≤ b ∧ b < 6 * m 39 7 + 6 then 0 else m 54 b := by
    intro b
    simp [rteM, rel]
  have e55 : ∀ b, (rteM m sg ap dl) 55 b = if 6 * m 39 7 ≤ b ∧ b < 6 * m 39 7 + 6 then 0 else m 55 b := by
    intro b
    simp [rteM, rel]
  obtain ⟨⟨hA, hS, hR, hU, hD, hG, hP⟩, hL⟩ := h
  obtain ⟨a1, a2, a3, a4, a5, a6, a7, a8, a9, a10, a11⟩ := hA
  refine ⟨⟨?_, ?_, ?_, ?_, ?_, ?_, ?_⟩, ?_⟩
  · unfold ivA
    simp only [e39_1, e39_7, e40, e41, e42, e43, e44, e45, e46, e47, e48, e49, e50, e51, e52, e53, e54, e55]
    refine ⟨?_, ?_, ?_, ?_, ?_, ?_, ?_, ?_, ?_, ?_, ?_⟩
    · grind
    · grind
    · intro a b
      have := a3 a b
      unfold rteM rel
      repeat' split
      all_goals (first | exact a3 _ _ | omega | (have := a3 43 b; omega) | (have := a3 49 r; omega))
    · grind
    · grind
    · grind
    · grind
    · grind
    · grind
    · grind
    · grind
  · unfold ivS
    simp only [e39_1, e39_7, e40, e41, e42, e43, e44, e45, e46, e47, e48, e49, e50, e51, e52, e53, e54, e55, safe, rgt, nrA]
    simp only [ivS, ivR, ivU, ivD, ivG, ivP, ivL, safe, rgt, nrA] at hS hR hU hD hG hP hL
    grind
  · unfold ivR
    simp only [e39_1, e39_7, e40, e41, e42, e43, e44, e45, e46, e47, e48, e49, e50, e51, e52, e53, e54, e55, safe, rgt, nrA]
    simp only [ivS, ivR, ivU, ivD, ivG, ivP, ivL, safe, rgt, nrA] at hS hR hU hD hG hP hL
    grind
  · unfold ivU
    simp only [e39_1, e39_7, e40, e41, e42, e43, e44, e45, e46, e47, e48, e49, e50, e51, e52, e53, e54, e55, safe, rgt, nrA]
    simp only [ivS, ivR, ivU, ivD, ivG, ivP, ivL, safe, rgt, nrA] at hS hR hU hD hG hP hL
    grind
  · unfold ivD
    simp only [e39_1, e39_7, e40, e41, e42, e43, e44, e45, e46, e47, e48, e49, e50, e51, e52, e53, e54, e55, safe, rgt, nrA]
    simp only [ivS, ivR, ivU, ivD, ivG, ivP, ivL, safe, rgt, nrA] at hS hR hU hD hG hP hL
    grind
  · unfold ivG
    simp only [e39_1, e39_7, e40, e41, e42, e43, e44, e45, e46, e47, e48, e49, e50, e51, e52, e53, e54, e55, safe, rgt, nrA]
    simp only [ivS, ivR, ivU, ivD, ivG, ivP, ivL, safe, rgt, nrA] at hS hR hU hD hG hP hL
    grind
  · unfold ivP
    simp only [e39_1, e39_7, e40, e41, e42, e43, e44, e45, e46, e47, e48, e49, e50, e51, e52, e53, e54, e55, safe, rgt, nrA]
    simp only [ivS, ivR, ivU, ivD, ivG, ivP, ivL, safe, rgt, nrA] at hS hR hU hD hG hP hL
    grind
  · unfold ivL
    simp only [e39_1, e39_7, e40, e41, e42, e43, e44, e45, e46, e47, e48, e49, e50, e51, e52, e53, e54, e55, safe, rgt, nrA]
    simp only [ivS, ivR, ivU, ivD, ivG, ivP, ivL, safe, rgt, nrA] at hS hR hU hD hG hP hL
    grind
theorem iv_use {m : wM} {r s k : Nat} (h : Iv m) (hr : r < m 39 7) (hs : s < m 39 1) (hk : k ≤ 4) (hp : k = 0 ↔ m 40 s = 0) (hn : ∀ j, j < m 51 r → m 52 (6 * r + j) ≠ s) (h6 : m 51 r < 6) (hf : ∀ q, q < m 39 7 → m 48 q = 0) : Iv (useM m r s k) := by
  have e39_1 : (useM m r s k) 39 1 = m 39 1 := by simp [useM]
  have e39_7 : (useM m r s k) 39 7 = m 39 7 := by simp [useM]
  have e40 : ∀ b, (useM m r s k) 40 b = m 40 b := by
    intro b
    simp [useM]
  have e41 : ∀ b, (useM m r s k) 41 b = m 41 b := by
    intro b
    simp [useM]
  have e42 : ∀ b, (useM m r s k) 42 b = m 42 b := by
    intro b
    simp [useM]
  have e43 : ∀ b, (useM m r s k) 43 b = m 43 b := by
    intro b
    simp [useM]
  have e44 : ∀ b, (useM m r s k) 44 b = m 44 b := by
    intro b
    simp [useM]
  have e45 : ∀ b, (useM m r s k) 45 b = m 45 b := by
    intro b
    simp [useM]
  have e46 : ∀ b, (useM m r s k) 46 b = m 46 b := by
    intro b
    simp [useM]
  have e47 : ∀ b, (useM m r s k) 47 b = m 47 b := by
    intro b
    simp [useM]
  have e48 : ∀ b, (useM m r s k) 48 b = m 48 b := by
    intro b
    simp [useM]
  have e49 : ∀ b, (useM m r s k) 49 b = m 49 b := by
    intro b
    simp [useM]
  have e50 : ∀ b, (useM m r s k) 50 b = m 50 b := by
    intro b
    simp [useM]
  have e51 : ∀ b, (useM m r s k) 51 b = if b = r then m 51 r + 1 else m 51 b := by
    intro b
    simp [useM]
  have e52 : ∀ b, (useM m r s k) 52 b = if b = 6 * r + m 51 r then s else m 52 b := by
    intro b
    simp [useM]
  have e53 : ∀ b, (useM m r s k) 53 b = if b = 6 * r + m 51 r then k else m 53 b := by
    intro b
    simp [useM]
  have e54 : ∀ b, (useM m r s k) 54 b = if b = 6 * r + m 51 r then 0 else m 54 b := by
    intro b
    simp [useM]
  have e55 : ∀ b, (useM m r s k) 55 b = if b = 6 * r + m 51 r then 0 else m 55 b := by
    intro b
    simp [useM]
  obtain ⟨⟨hA, hS, hR, hU, hD, hG, hP⟩, hL⟩ := h
  obtain ⟨a1, a2, a3, a4, a5, a6, a7, a8, a9, a10, a11⟩ := hA
  refine ⟨⟨?_, ?_, ?_, ?_, ?_, ?_, ?_⟩, ?_⟩
  · unfold ivA
    simp only [e39_1, e39_7, e40, e41, e42, e43, e44, e45, e46, e47, e48, e49, e50, e51, e52, e53, e54, e55]
    refine ⟨?_, ?_, ?_, ?_, ?_, ?_, ?_, ?_, ?_, ?_, ?_⟩
    · grind
    · grind
    · intro a b
      have := a3 a b
      unfold useM
      repeat' split
      all_goals (first | exact a3 _ _ | omega | (have := a3 43 b; omega) | (have := a3 49 r; omega))
    · grind
    · grind
    · grind
    · grind
    · grind
    · grind
    · grind
    · grind
  · unfold ivS
    simp only [e39_1, e39_7, e40, e41, e42, e43, e44, e45, e46, e47, e48, e49, e50, e51, e52, e53, e54, e55, safe, rgt, nrA]
    simp only [ivS, ivR, ivU, ivD, ivG, ivP, ivL, safe, rgt, nrA] at hS hR hU hD hG hP hL
    grind
  · unfold ivR
    simp only [e39_1, e39_7, e40, e41, e42, e43, e44, e45, e46, e47, e48, e49, e50, e51, e52, e53, e54, e55, safe, rgt, nrA]
    simp only [ivS, ivR, ivU, ivD, ivG, ivP, ivL, safe, rgt, nrA] at hS hR hU hD hG hP hL
    grind
  · unfold ivU
    simp only [e39_1, e39_7, e40, e41, e42, e43, e44, e45, e46, e47, e48, e49, e50, e51, e52, e53, e54, e55, safe, rgt, nrA]
    simp only [ivS, ivR, ivU, ivD, ivG, ivP, ivL, safe, rgt, nrA] at hS hR hU hD hG hP hL
    grind
  · unfold ivD
    simp only [e39_1, e39_7, e40, e41, e42, e43, e44, e45, e46, e47, e48, e49, e50, e51, e52, e53, e54, e55, safe, rgt, nrA]
    simp only [ivS, ivR, ivU, ivD, ivG, ivP, ivL, safe, rgt, nrA] at hS hR hU hD hG hP hL
    grind
  · unfold ivG
    simp only [e39_1, e39_7, e40, e41, e42, e43, e44, e45, e46, e47, e48, e49, e50, e51, e52, e53, e54, e55, safe, rgt, nrA]
    simp only [ivS, ivR, ivU, ivD, ivG, ivP, ivL, safe, rgt, nrA] at hS hR hU hD hG hP hL
    grind
  · unfold ivP
    simp only [e39_1, e39_7, e40, e41, e42, e43, e44, e45, e46, e47, e48, e49, e50, e51, e52, e53, e54, e55, safe, rgt, nrA]
    simp only [ivS, ivR, ivU, ivD, ivG, ivP, ivL, safe, rgt, nrA] at hS hR hU hD hG hP hL
    grind
  · unfold ivL
    simp only [e39_1, e39_7, e40, e41, e42, e43, e44, e45, e46, e47, e48, e49, e50, e51, e52, e53, e54, e55, safe, rgt, nrA]
    simp only [ivS, ivR, ivU, ivD, ivG, ivP, ivL, safe, rgt, nrA] at hS hR hU hD hG hP hL
    grind
theorem iv_tim {m : wM} {r : Nat} (h : Iv m) (hr : r < m 39 7) (h1 : m 48 r = 1) : Iv (timM m r) := by
  have e39_1 : (timM m r) 39 1 = m 39 1 := by simp [timM]
  have e39_7 : (timM m r) 39 7 = m 39 7 := by simp [timM]
  have e40 : ∀ b, (timM m r) 40 b = m 40 b := by
    intro b
    simp [timM]
  have e41 : ∀ b, (timM m r) 41 b = m 41 b := by
    intro b
    simp [timM]
  have e42 : ∀ b, (timM m r) 42 b = m 42 b := by
    intro b
    simp [timM]
  have e43 : ∀ b, (timM m r) 43 b = m 43 b := by
    intro b
    simp [timM]
  have e44 : ∀ b, (timM m r) 44 b = m 44 b := by
    intro b
    simp [timM]
  have e45 : ∀ b, (timM m r) 45 b = m 45 b := by
    intro b
    simp [timM]
  have e46 : ∀ b, (timM m r) 46 b = m 46 b := by
    intro b
    simp [timM]
  have e47 : ∀ b, (timM m r) 47 b = m 47 b := by
    intro b
    simp [timM]
  have e48 : ∀ b, (timM m r) 48 b = if b = r then 3 else m 48 b := by
    intro b
    simp [timM]
  have e49 : ∀ b, (timM m r) 49 b = if b = r then m 47 r else m 49 b := by
    intro b
    simp [timM]
  have e50 : ∀ b, (timM m r) 50 b = m 50 b := by
    intro b
    simp [timM]
  have e51 : ∀ b, (timM m r) 51 b = m 51 b := by
    intro b
    simp [timM]
  have e52 : ∀ b, (timM m r) 52 b = m 52 b := by
    intro b
    simp [timM]
  have e53 : ∀ b, (timM m r) 53 b = m 53 b := by
    intro b
    simp [timM]
  have e54 : ∀ b, (timM m r) 54 b = m 54 b := by
    intro b
    simp [timM]
  have e55 : ∀ b, (timM m r) 55 b = m 55 b := by
    intro b
    simp [timM]
  obtain ⟨⟨hA, hS, hR, hU, hD, hG, hP⟩, hL⟩ := h
  obtain ⟨a1, a2, a3, a4, a5, a6, a7, a8, a9, a10, a11⟩ := hA
  refine ⟨⟨?_, ?_, ?_, ?_, ?_, ?_, ?_⟩, ?_⟩
  · unfold ivA
    simp only [e39_1, e39_7, e40, e41, e42, e43, e44, e45, e46, e47, e48, e49, e50, e51, e52, e53, e54, e55]
    refine ⟨?_, ?_, ?_, ?_, ?_, ?_, ?_, ?_, ?_, ?_, ?_⟩
    · grind
    · grind
    · intro a b
      have := a3 a b
      unfold timM
      repeat' split
      all_goals (first | exact a3 _ _ | omega | (have := a3 43 b; omega) | (have := a3 49 r; omega))
    · grind
    · grind
    · grind
    · grind
    · grind
    · grind
    · grind
    · grind
  · unfold ivS
    simp only [e39_1, e39_7, e40, e41, e42, e43, e44, e45, e46, e47, e48, e49, e50, e51, e52, e53, e54, e55, safe, rgt, nrA]
    simp only [ivS, ivR, ivU, ivD, ivG, ivP, ivL, safe, rgt, nrA] at hS hR hU hD hG hP hL
    grind
  · unfold ivR
    simp only [e39_1, e39_7, e40, e41, e42, e43, e44, e45, e46, e47, e48, e49, e50, e51, e52, e53, e54, e55, safe, rgt, nrA]
    simp only [ivS, ivR, ivU, ivD, ivG, ivP, ivL, safe, rgt, nrA] at hS hR hU hD hG hP hL
    grind
  · unfold ivU
    simp only [e39_1, e39_7, e40, e41, e42, e43, e44, e45, e46, e47, e48, e49, e50, e51, e52, e53, e54, e55, safe, rgt, nrA]
    simp only [ivS, ivR, ivU, ivD, ivG, ivP, ivL, safe, rgt, nrA] at hS hR hU hD hG hP hL
    grind
  · unfold ivD
    simp only [e39_1, e39_7, e40, e41, e42, e43, e44, e45, e46, e47, e48, e49, e50, e51, e52, e53, e54, e55, safe, rgt, nrA]
    simp only [ivS, ivR, ivU, ivD, ivG, ivP, ivL, safe, rgt, nrA] at hS hR hU hD hG hP hL
    grind
  · unfold ivG
    simp only [e39_1, e39_7, e40, e41, e42, e43, e44, e45, e46, e47, e48, e49, e50, e51, e52, e53, e54, e55, safe, rgt, nrA]
    simp only [ivS, ivR, ivU, ivD, ivG, ivP, ivL, safe, rgt, nrA] at hS hR hU hD hG hP hL
    grind
  · unfold ivP
    simp only [e39_1, e39_7, e40, e41, e42, e43, e44, e45, e46, e47, e48, e49, e50, e51, e52, e53, e54, e55, safe, rgt, nrA]
    simp only [ivS, ivR, ivU, ivD, ivG, ivP, ivL, safe, rgt, nrA] at hS hR hU hD hG hP hL
    grind
  · unfold ivL
    simp only [e39_1, e39_7, e40, e41, e42, e43, e44, e45, e46, e47, e48, e49, e50, e51, e52, e53, e54, e55, safe, rgt, nrA]
    simp only [ivS, ivR, ivU, ivD, ivG, ivP, ivL, safe, rgt, nrA] at hS hR hU hD hG hP hL
    grind
theorem iv_brk {m : wM} {s v : Nat} (h : Jv m) (hv : v ≤ 1) : Jv (um m 44 s v) := by
  have e39_1 : (um m 44 s v) 39 1 = m 39 1 := by simp [um]
  have e39_7 : (um m 44 s v) 39 7 = m 39 7 := by simp [um]
  have e40 : ∀ b, (um m 44 s v) 40 b = m 40 b := by
    intro b
    simp [um]
  have e41 : ∀ b, (um m 44 s v) 41 b = m 41 b := by
    intro b
    simp [um]
  have e42 : ∀ b, (um m 44 s v) 42 b = m 42 b := by
    intro b
    simp [um]
  have e43 : ∀ b, (um m 44 s v) 43 b = m 43 b := by
    intro b
    simp [um]
  have e44 : ∀ b, (um m 44 s v) 44 b = if b = s then v else m 44 b := by
    intro b
    simp [um]
  have e45 : ∀ b, (um m 44 s v) 45 b = m 45 b := by
    intro b
    simp [um]
  have e46 : ∀ b, (um m 44 s v) 46 b = m 46 b := by
    intro b
    simp [um]
  have e47 : ∀ b, (um m 44 s v) 47 b = m 47 b := by
    intro b
    simp [um]
  have e48 : ∀ b, (um m 44 s v) 48 b = m 48 b := by
    intro b
    simp [um]
  have e49 : ∀ b, (um m 44 s v) 49 b = m 49 b := by
    intro b
    simp [um]
  have e50 : ∀ b, (um m 44 s v) 50 b = m 50 b := by
    intro b
    simp [um]
  have e51 : ∀ b, (um m 44 s v) 51 b = m 51 b := by
    intro b
    simp [um]
  have e52 : ∀ b, (um m 44 s v) 52 b = m 52 b := by
    intro b
    simp [um]
  have e53 : ∀ b, (um m 44 s v) 53 b = m 53 b := by
    intro b
    simp [um]
  have e54 : ∀ b, (um m 44 s v) 54 b = m 54 b := by
    intro b
    simp [um]
  have e55 : ∀ b, (um m 44 s v) 55 b = m 55 b := by
    intro b
    simp [um]
  obtain ⟨hA, hS, hR, hU, hD, hG, hP⟩ := h
  obtain ⟨a1, a2, a3, a4, a5, a6, a7, a8, a9, a10, a11⟩ := hA
  refine ⟨?_, ?_, ?_, ?_, ?_, ?_, ?_⟩
  · unfold ivA
    simp only [e39_1, e39_7, e40, e41, e42, e43, e44, e45, e46, e47, e48, e49, e50, e51, e52, e53, e54, e55]
    refine ⟨?_, ?_, ?_, ?_, ?_, ?_, ?_, ?_, ?_, ?_, ?_⟩
    · grind
    · grind
    · intro a b
      have := a3 a b
      unfold um
      repeat' split
      all_goals (first | exact a3 _ _ | omega | (have := a3 43 b; omega) | (have := a3 49 r; omega))
    · grind
    · grind
    · grind
    · grind
    · grind
    · grind
    · grind
    · grind
  · unfold ivS
    simp only [e39_1, e39_7, e40, e41, e42, e43, e44, e45, e46, e47, e48, e49, e50, e51, e52, e53, e54, e55]
    simp only [ivS, ivR, ivU, ivD, ivG, ivP] at hS hR hU hD hG hP
    grind
  · unfold ivR
    simp only [e39_1, e39_7, e40, e41, e42, e43, e44, e45, e46, e47, e48, e49, e50, e51, e52, e53, e54, e55]
    simp only [ivS, ivR, ivU, ivD, ivG, ivP] at hS hR hU hD hG hP
    grind
  · unfold ivU
    simp only [e39_1, e39_7, e40, e41, e42, e43, e44, e45, e46, e47, e48, e49, e50, e51, e52, e53, e54, e55]
    simp only [ivS, ivR, ivU, ivD, ivG, ivP] at hS hR hU hD hG hP
    grind
  · unfold ivD
    simp only [e39_1, e39_7, e40, e41, e42, e43, e44, e45, e46, e47, e48, e49, e50, e51, e52, e53, e54, e55]
    simp only [ivS, ivR, ivU, ivD, ivG, ivP] at hS hR hU hD hG hP
    grind
  · unfold ivG
    simp only [e39_1, e39_7, e40, e41, e42, e43, e44, e45, e46, e47, e48, e49, e50, e51, e52, e53, e54, e55]
    simp only [ivS, ivR, ivU, ivD, ivG, ivP] at hS hR hU hD hG hP
    grind
  · unfold ivP
    simp only [e39_1, e39_7, e40, e41, e42, e43, e44, e45, e46, e47, e48, e49, e50, e51, e52, e53, e54, e55]
    simp only [ivS, ivR, ivU, ivD, ivG, ivP] at hS hR hU hD hG hP
    grind
