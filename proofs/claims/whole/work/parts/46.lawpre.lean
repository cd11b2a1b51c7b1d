theorem kRte_3 (m : wM) (x y z : Int32) : kRte m x y z ≤ 3 := by
  unfold kRte
  repeat' split
  all_goals decide
theorem kR1_3 (m : wM) (x : Int32) : kR1 m x ≤ 3 := by
  unfold kR1
  repeat' split
  all_goals decide
theorem kS1_3 (m : wM) (x : Int32) : kS1 m x ≤ 3 := by
  unfold kS1
  repeat' split
  all_goals decide
theorem kMov_3 (m : wM) (x y : Int32) : kMov m x y ≤ 3 := by
  unfold kMov
  repeat' split
  all_goals decide
theorem kOff_3 (x : Int32) : kOff x ≤ 3 := by
  unfold kOff
  repeat' split
  all_goals decide
theorem kCla_3 (m : wM) (x y : Int32) : kCla m x y ≤ 3 := by
  unfold kCla
  repeat' split
  all_goals decide
theorem kAbt_3 (m : wM) (x y : Int32) : kAbt m x y ≤ 3 := by
  unfold kAbt
  repeat' split
  all_goals decide
theorem kTrk_3 (m : wM) (x y : Int32) : kTrk m x y ≤ 3 := by
  unfold kTrk
  repeat' split
  all_goals decide
theorem it0 {P : Prop} {a b : Nat} (h : @ite Nat P (Classical.propDecidable _) a b = 0) (ha : a ≠ 0) : ¬ P := fun hp => by
  rw [if_pos hp] at h
  exact ha h
theorem it1 {P : Prop} {a b : Nat} (h : @ite Nat P (Classical.propDecidable _) a b = 0) (ha : a ≠ 0) : b = 0 := by
  rw [if_neg (it0 h ha)] at h
  exact h
theorem kR1_0 {m : wM} {x : Int32} (h : kR1 m x = 0) : ¬ noR m x := it0 h (by decide)
theorem kS1_0 {m : wM} {x : Int32} (h : kS1 m x = 0) : ¬ noS m x := it0 h (by decide)
theorem ixr {x : Int32} {N : Nat} (hN : N < 64) (h : ¬ (x < 0 ∨ nI N ≤ x)) : ix x < N := by
  obtain ⟨i, hi, e⟩ := ix_of hN h
  rw [e, ix_nI (by omega)]
  exact hi
theorem kMov_0 {m : wM} {x y : Int32} (hW : Wv m) (h : kMov m x y = 0) : ix x < m 39 1 ∧ m 40 (ix x) ≠ 0 ∧ ix y ≤ 1 := by
  have h1 := it0 h (by decide)
  have h2 := it0 (it1 h (by decide)) (by decide)
  have hs := hW.S
  refine ⟨ixr (by omega) h1, fun h3 => h2 (Or.inl h3), ?_⟩
  have h3 : y = 0 ∨ y = nI 1 := Classical.byContradiction (fun h4 => h2 (Or.inr ⟨fun h5 => h4 (Or.inl h5), fun h5 => h4 (Or.inr h5)⟩))
  rcases h3 with rfl | rfl
  · decide
  · decide
theorem kCla_0 {m : wM} {x y : Int32} (hW : Wv m) (h : kCla m x y = 0) : ix x < m 39 7 ∧ ix y < m 39 7 := by
  have h1 := it0 h (by decide)
  have hs := hW.R
  exact ⟨ixr (by omega) (fun h2 => h1 (Or.inl h2)), ixr (by omega) (fun h2 => h1 (Or.inr h2))⟩
theorem kTrk_0 {m : wM} {x y : Int32} (hW : Wv m) (h : kTrk m x y = 0) : ix x < m 39 1 ∧ ix y ≤ 6 := by
  have h1 := it0 h (by decide)
  have h2 := it0 (it1 h (by decide)) (by decide)
  have hs := hW.S
  refine ⟨ixr (by omega) h1, ?_⟩
  rcases tab_cs (N := 6) (by decide) y with ⟨c, hc, rfl⟩ | h3
  · rw [ix_nI (by omega)]
    exact hc
  · exact absurd h3 h2
theorem bl_0 {t : Int32} {b : Nat} (h : t = nI b) (hb : b ≤ 1) (h0 : t = 0) : (0 : Int64) = (nI b).toInt64 := (l01 hb).1 (nI_z (by omega) (h.symm.trans h0))
theorem bl_1 {t : Int32} {b : Nat} (h : t = nI b) (hb : b ≤ 1) (h0 : ¬ t = 0) : (1 : Int64) = (nI b).toInt64 := (l01 hb).2 (fun e => h0 (by rw [h, e]; rfl))
theorem kRte_0 {m : wM} {x y z : Int32} (hW : Wv m) (h : kRte m x y z = 0) : ¬ (x < 0 ∨ nI 6 ≤ x) ∧ ¬ (y ≠ -1 ∧ noS m y) ∧ ¬ (z < nI 1 ∨ ¬ z ≤ nI 9) ∧ m 39 7 ≠ 8 ∧ True := by
  have h1 := it0 h (by decide)
  have h2 := it0 (it1 h (by decide)) (by decide)
  have h3 := it0 (it1 (it1 h (by decide)) (by decide)) (by decide)
  exact ⟨fun h4 => h2 (Or.inl h4), h1, fun h4 => h2 (Or.inr h4), h3, trivial⟩
theorem rte_iv {m : wM} {x y z : Int32} {sg ap dl : Nat} (hI : Iv m) (h1 : sg < 64) (h2 : ap < 64) (h3 : dl < 64) (e1 : x = nI sg) (e2 : y = apI ap) (e3 : z = nI dl) (h : kRte m x y z = 0) : Iv (rteM m sg ap dl) := by
  have hW := hI.1.W
  have h12 := hW.S
  have h8 := hW.R
  obtain ⟨q1, q2, q3, q4, -⟩ := kRte_0 hW h
  refine iv_rte hI (by omega) ?_ ?_ ?_ ?_
  · obtain ⟨i, hi, e⟩ := ix_of (N := 6) (by decide) q1
    rw [e1] at e
    have := (nI_eq (by omega) (by omega)).mp e
    omega
  · by_cases e : ap = 0
    · omega
    · have e4 : y = nI (ap - 1) := by rw [e2, apI, if_neg e]
      have h5 : ¬ noS m y := fun h6 => q2 ⟨by rw [e4]; exact nI_m1 (by omega), h6⟩
      obtain ⟨i, hi, e5⟩ := ix_of (N := m 39 1) (by omega) h5
      rw [e4] at e5
      have := (nI_eq (by omega) (by omega)).mp e5
      omega
  · obtain ⟨d, d1, d2, e⟩ := dl_of (N := 9) (by decide) (fun h4 => q3 (Or.inl h4)) (Classical.byContradiction (fun h4 => q3 (Or.inr h4)))
    rw [e3] at e
    have := (nI_eq (by omega) (by omega)).mp e
    omega
  · obtain ⟨d, d1, d2, e⟩ := dl_of (N := 9) (by decide) (fun h4 => q3 (Or.inl h4)) (Classical.byContradiction (fun h4 => q3 (Or.inr h4)))
    rw [e3] at e
    have := (nI_eq (by omega) (by omega)).mp e
    omega
theorem use_iv {m : wM} {x y z : Int32} (hI : Iv m) (h : kUse m x y z = 0) : Iv (useM m (ix x) (ix y) (ix z)) := by
  have hW := hI.1.W
  have h12 := hW.S
  have h8 := hW.R
  have h1 := it0 h (by decide)
  have h2 := it0 (it1 h (by decide)) (by decide)
  have h3 := it0 (it1 (it1 h (by decide)) (by decide)) (by decide)
  have hr : ix x < m 39 7 := ixr (by omega) (fun h4 => h1 (Or.inl h4))
  have hs : ix y < m 39 1 := ixr (by omega) (fun h4 => h1 (Or.inr h4))
  have hf : fitP m z (ix y) := Classical.byContradiction (fun h4 => h2 (Or.inl h4))
  have hn : ∀ k, k < m 51 (ix x) → m 52 (6 * ix x + k) ≠ ix y := Classical.byContradiction (fun h4 => h2 (Or.inr h4))
  have ha : ∀ q, q < m 39 7 → m 48 q = 0 := Classical.byContradiction (fun h4 => h3 (Or.inr h4))
  have h6 := hW.N hr
  obtain ⟨c, hc, e⟩ := nI_of2 (M := nI 4) (n := 4) (by decide) hf.1 hf.2.1
  have ez : ix z = c := by rw [e]; exact ix_nI (by omega)
  refine iv_use hI hr hs (by omega) ?_ hn (by have : ¬ m 51 (ix x) = 6 := fun h4 => h3 (Or.inl h4); omega) ha
  rw [ez]
  have h7 := hf.2.2
  rw [e] at h7
  exact ⟨fun h9 => h7.mpr (by rw [h9]; rfl), fun h9 => nI_z (by omega) (h7.mp h9)⟩
