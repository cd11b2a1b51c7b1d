theorem t_F_isSection {E : wE} {m : wM} {f : wF} {w : Int64} {x : Int32} (hW : Wv m) (hC : Rc m f) : Cr E i_F_isSection 0 [.ref (wB E + 0), .int x] f w (some (.int (nI (if noS m x then 0 else 1)))) f := by
  have h12 := hW.S
  have h8 := hW.R
  refine cr_of rfl rfl rfl (show 2 ≤ 2 by decide) ?_
  refine e_iload_n (dat d_F_isSection 0 rfl) 1 rfl rfl ?_
  refine e_if_lt (dat d_F_isSection 1 rfl) (tgt := 16) (by decide) (fun h1 => ?_) (fun h1 => ?_)
  · refine n_iconst (dat d_F_isSection 8 rfl) 0 rfl ?_
    exact q_zret (dat d_F_isSection 9 rfl) rfl (z01 (by decide)) (show 0 ≤ 0 by decide) (show 0 ≤ 0 by decide) ⟨by first | rw [if_pos (Or.inl (by assumption))] | rw [if_pos (Or.inr (by assumption))] | rw [if_neg (fun h => h.elim (by assumption) (by assumption))], rfl⟩
  · refine e_iload_n (dat d_F_isSection 2 rfl) 1 rfl rfl ?_
    refine e_aload_n (dat d_F_isSection 3 rfl) 0 rfl rfl ?_
    refine s_gF (dat d_F_isSection 4 rfl) 2 k_104 (by decide) rfl rfl (cF2 hC) ?_
    refine e_icmp_ge (dat d_F_isSection 5 rfl) (tgt := 16) (by decide) (fun h9 => ?_) (fun h9 => ?_)
    · refine n_iconst (dat d_F_isSection 8 rfl) 0 rfl ?_
      exact q_zret (dat d_F_isSection 9 rfl) rfl (z01 (by decide)) (show 0 ≤ 0 by decide) (show 0 ≤ 0 by decide) ⟨by first | rw [if_pos (Or.inl (by assumption))] | rw [if_pos (Or.inr (by assumption))] | rw [if_neg (fun h => h.elim (by assumption) (by assumption))], rfl⟩
    · refine n_iconst (dat d_F_isSection 6 rfl) 1 rfl ?_
      refine e_goto (dat d_F_isSection 7 rfl) (tgt := 17) (by decide) ?_
      exact q_zret (dat d_F_isSection 9 rfl) rfl (z01 (by decide)) (show 0 ≤ 0 by decide) (show 0 ≤ 0 by decide) ⟨by first | rw [if_pos (Or.inl (by assumption))] | rw [if_pos (Or.inr (by assumption))] | rw [if_neg (fun h => h.elim (by assumption) (by assumption))], rfl⟩
theorem t_F_isSignal {E : wE} {f : wF} {w : Int64} {x : Int32} : Cr E i_F_isSignal 0 [.int x] f w (some (.int (nI (if x < 0 ∨ nI 6 ≤ x then 0 else 1)))) f := by
  refine cr_of rfl rfl rfl (show 1 ≤ 1 by decide) ?_
  refine e_iload_n (dat d_F_isSignal 0 rfl) 0 rfl rfl ?_
  refine e_if_lt (dat d_F_isSignal 1 rfl) (tgt := 14) (by decide) (fun h1 => ?_) (fun h1 => ?_)
  · refine n_iconst (dat d_F_isSignal 7 rfl) 0 rfl ?_
    exact q_zret (dat d_F_isSignal 8 rfl) rfl (z01 (by decide)) (show 0 ≤ 0 by decide) (show 0 ≤ 0 by decide) ⟨by first | rw [if_pos (Or.inl (by assumption))] | rw [if_pos (Or.inr (by assumption))] | rw [if_neg (fun h => h.elim (by assumption) (by assumption))], rfl⟩
  · refine e_iload_n (dat d_F_isSignal 2 rfl) 0 rfl rfl ?_
    refine n_bipush (dat d_F_isSignal 3 rfl) 6 rfl ?_
    refine e_icmp_ge (dat d_F_isSignal 4 rfl) (tgt := 14) (by decide) (fun h7 => ?_) (fun h7 => ?_)
    · refine n_iconst (dat d_F_isSignal 7 rfl) 0 rfl ?_
      exact q_zret (dat d_F_isSignal 8 rfl) rfl (z01 (by decide)) (show 0 ≤ 0 by decide) (show 0 ≤ 0 by decide) ⟨by first | rw [if_pos (Or.inl (by assumption))] | rw [if_pos (Or.inr (by assumption))] | rw [if_neg (fun h => h.elim (by assumption) (by assumption))], rfl⟩
    · refine n_iconst (dat d_F_isSignal 5 rfl) 1 rfl ?_
      refine e_goto (dat d_F_isSignal 6 rfl) (tgt := 15) (by decide) ?_
      exact q_zret (dat d_F_isSignal 8 rfl) rfl (z01 (by decide)) (show 0 ≤ 0 by decide) (show 0 ≤ 0 by decide) ⟨by first | rw [if_pos (Or.inl (by assumption))] | rw [if_pos (Or.inr (by assumption))] | rw [if_neg (fun h => h.elim (by assumption) (by assumption))], rfl⟩
theorem t_F_existingSection {E : wE} {m : wM} {f : wF} {w : Int64} {x : Int32} (hW : Wv m) (hC : Rc m f) (hE : (wl E).stackTraces = false) : Cq E i_F_existingSection 6 1 6 [.ref (wB E + 0), .int x] f w (fun v9 f9 => f9 = f ∧ ∃ i, i < m 39 1 ∧ x = nI i ∧ v9 = some (.ref (wB E + (2 + i)))) (fun X9 => X9 = "java/lang/IndexOutOfBoundsException" ∧ noS m x) := by
  have h12 := hW.S
  have h8 := hW.R
  refine cq_of rfl rfl rfl (show 2 ≤ 2 by decide) ?_
  refine e_aload_n (dat d_F_existingSection 0 rfl) 0 rfl rfl ?_
  refine e_iload_n (dat d_F_existingSection 1 rfl) 1 rfl rfl ?_
  refine r_call (t_F_isSection hW hC) c_F_isSection (dat d_F_existingSection 2 rfl) rfl k_208 rfl rfl (by decide) (by omega) rfl (show 0 ≤ 8 by decide) ⟨show 1 ≤ 6 by decide, show 21 ≤ 180 by decide⟩ ⟨show 0 ≤ 1 by decide, show 0 ≤ 6 by decide⟩ ?_
  refine n_if_ne (dat d_F_existingSection 3 rfl) (tgt := 18) (by decide) (by split <;> decide) (fun h5 => ?_) (fun h5 => ?_)
  · have hn : ¬ noS m x := fun h => h5 (if_pos h)
    obtain ⟨i, hi, rfl⟩ := ix_of (by omega) hn
    refine e_aload_n (dat d_F_existingSection 9 rfl) 0 rfl rfl ?_
    refine s_qF (dat d_F_existingSection 10 rfl) 0 k_102 (by decide) rfl rfl rfl ?_
    refine e_iload_n (dat d_F_existingSection 11 rfl) 1 rfl rfl ?_
    refine s_aS (dat d_F_existingSection 12 rfl) rfl (by omega) ?_
    exact q_aret (dat d_F_existingSection 13 rfl) rfl (show 0 ≤ 1 by decide) (show 0 ≤ 6 by decide) ⟨rfl, i, hi, rfl, rfl⟩
  · have hn : noS m x := Classical.byContradiction (fun h => by rw [if_neg h] at h5; exact absurd h5 (by decide))
    exact q_throw th_45 hE (is := 47) (text := "no such section") (by decide +kernel) rfl (dat d_F_existingSection 4 rfl) (dat d_F_existingSection 5 rfl) (dat d_F_existingSection 6 rfl) (dat d_F_existingSection 7 rfl) (dat d_F_existingSection 8 rfl) rfl (show 5 < 6 by decide) (show 0 + 82 ≤ 180 by decide) (show 1 ≤ 1 by decide) (show 6 ≤ 6 by decide) ⟨rfl, hn⟩
theorem t_F_existingRoute {E : wE} {m : wM} {f : wF} {w : Int64} {x : Int32} (hW : Wv m) (hC : Rc m f) (hE : (wl E).stackTraces = false) : Cq E i_F_existingRoute 6 1 6 [.ref (wB E + 0), .int x] f w (fun v9 f9 => f9 = f ∧ ∃ i, i < m 39 7 ∧ x = nI i ∧ v9 = some (.ref (wB E + (15 + 3 * i)))) (fun X9 => X9 = "java/lang/IndexOutOfBoundsException" ∧ noR m x) := by
  have h12 := hW.S
  have h8 := hW.R
  refine cq_of rfl rfl rfl (show 2 ≤ 2 by decide) ?_
  refine e_iload_n (dat d_F_existingRoute 0 rfl) 1 rfl rfl ?_
  refine e_if_lt (dat d_F_existingRoute 1 rfl) (tgt := 12) (by decide) (fun h1 => ?_) (fun h1 => ?_)
  · exact q_throw th_45 hE (is := 195) (text := "no such route") (by decide +kernel) rfl (dat d_F_existingRoute 6 rfl) (dat d_F_existingRoute 7 rfl) (dat d_F_existingRoute 8 rfl) (dat d_F_existingRoute 9 rfl) (dat d_F_existingRoute 10 rfl) rfl (show 5 < 6 by decide) (show 0 + 82 ≤ 180 by decide) (show 1 ≤ 1 by decide) (show 6 ≤ 6 by decide) ⟨rfl, by first | exact Or.inl (by assumption) | exact Or.inr (by assumption)⟩
  · refine e_iload_n (dat d_F_existingRoute 2 rfl) 1 rfl rfl ?_
    refine e_aload_n (dat d_F_existingRoute 3 rfl) 0 rfl rfl ?_
    refine s_gF (dat d_F_existingRoute 4 rfl) 3 k_105 (by decide) rfl rfl (cF3 hC) ?_
    refine e_icmp_lt (dat d_F_existingRoute 5 rfl) (tgt := 22) (by decide) (fun h9 => ?_) (fun h9 => ?_)
    · obtain ⟨i, hi, rfl⟩ := ix_of (N := m 39 7) (by omega) (fun h => h.elim h1 (Int32.not_le.mpr h9))
      refine e_aload_n (dat d_F_existingRoute 11 rfl) 0 rfl rfl ?_
      refine s_qF (dat d_F_existingRoute 12 rfl) 1 k_103 (by decide) rfl rfl rfl ?_
      refine e_iload_n (dat d_F_existingRoute 13 rfl) 1 rfl rfl ?_
      refine s_aR (dat d_F_existingRoute 14 rfl) rfl (by omega) ?_
      exact q_aret (dat d_F_existingRoute 15 rfl) rfl (show 0 ≤ 1 by decide) (show 0 ≤ 6 by decide) ⟨rfl, i, hi, rfl, rfl⟩
    · have h9 := Int32.not_lt.mp h9
      exact q_throw th_45 hE (is := 195) (text := "no such route") (by decide +kernel) rfl (dat d_F_existingRoute 6 rfl) (dat d_F_existingRoute 7 rfl) (dat d_F_existingRoute 8 rfl) (dat d_F_existingRoute 9 rfl) (dat d_F_existingRoute 10 rfl) rfl (show 5 < 6 by decide) (show 0 + 82 ≤ 180 by decide) (show 1 ≤ 1 by decide) (show 6 ≤ 6 by decide) ⟨rfl, by first | exact Or.inl (by assumption) | exact Or.inr (by assumption)⟩
theorem t_F_allRoutesFree {E : wE} {m : wM} {f : wF} {w : Int64} (hW : Wv m) (hC : Rc m f) : Cr E i_F_allRoutesFree 0 [.ref (wB E + 0)] f w (some (.int (nI (if ∀ r, r < m 39 7 → m 48 r = 0 then 1 else 0)))) f := by
  have h12 := hW.S
  have h8 := hW.R
  refine cr_of rfl rfl rfl (show 1 ≤ 2 by decide) ?_
  have L : ∀ k, k ≤ m 39 7 → (∀ j, j < k → m 48 j = 0) → Ev E (jr E i_F_allRoutesFree 0 f w (some (.int (nI (if ∀ r, r < m 39 7 → m 48 r = 0 then 1 else 0)))) f) 0 0 2 [(1, .int (nI k)), (0, .ref (wB E + 0))] [] f g0 w 57 := by
    apply lp_ind
    intro k hk ih hI
    refine e_iload_n (dat d_F_allRoutesFree 2 rfl) 0 rfl rfl ?_
    refine e_aload_n (dat d_F_allRoutesFree 3 rfl) 1 rfl rfl ?_
    refine s_gF (dat d_F_allRoutesFree 4 rfl) 3 k_105 (by decide) rfl rfl (cF3 hC) ?_
    refine n_icmp_ge (dat d_F_allRoutesFree 5 rfl) (tgt := 30) (by decide) (by omega) (by omega) (fun h7 => ?_) (fun h7 => ?_)
    · refine n_iconst (dat d_F_allRoutesFree 16 rfl) 1 rfl ?_
      exact q_zret (dat d_F_allRoutesFree 17 rfl) rfl (z01 (by decide)) (show 0 ≤ 0 by decide) (show 0 ≤ 0 by decide) ⟨by first | rw [if_pos (fun j hj => hI j (by omega))] | rw [if_neg (fun h => absurd (h k h7) (by assumption))], rfl⟩
    · refine e_aload_n (dat d_F_allRoutesFree 6 rfl) 1 rfl rfl ?_
      refine s_qF (dat d_F_allRoutesFree 7 rfl) 1 k_103 (by decide) rfl rfl rfl ?_
      refine e_iload_n (dat d_F_allRoutesFree 8 rfl) 0 rfl rfl ?_
      refine s_aR (dat d_F_allRoutesFree 9 rfl) rfl (by omega) ?_
      refine s_gR (dat d_F_allRoutesFree 10 rfl) 6 k_68 (by decide) rfl rfl (by omega) (cR6 hC (by omega)) ?_
      refine n_if_eq (dat d_F_allRoutesFree 11 rfl) (tgt := 24) (by decide) (lt64 (hW.b _ _)) (fun h19 => ?_) (fun h19 => ?_)
      · refine n_iinc (q := 0) (dat d_F_allRoutesFree 14 rfl) rfl (show 1 < 2 by decide) (lv2 := [(1, _), (0, _)]) rfl ?_
        refine e_goto (dat d_F_allRoutesFree 15 rfl) (tgt := 2) (by decide) ?_
        refine ih h7 (fun j hj => ?_)
        by_cases e : j = k
        · rw [e]
          assumption
        · exact hI j (by omega)
      · refine n_iconst (dat d_F_allRoutesFree 12 rfl) 0 rfl ?_
        exact q_zret (dat d_F_allRoutesFree 13 rfl) rfl (z01 (by decide)) (show 0 ≤ 0 by decide) (show 0 ≤ 0 by decide) ⟨by first | rw [if_pos (fun j hj => hI j (by omega))] | rw [if_neg (fun h => absurd (h k h7) (by assumption))], rfl⟩
  refine n_iconst (dat d_F_allRoutesFree 0 rfl) 0 rfl ?_
  refine e_istore_n (dat d_F_allRoutesFree 1 rfl) rfl (show 1 < 2 by decide) (lv2 := [(1, _), (0, _)]) rfl ?_
  exact L 0 (Nat.zero_le _) (fun j hj => absurd hj (Nat.not_lt_zero _))
theorem t_F_passesClear {E : wE} {m : wM} {f : wF} {w : Int64} {r : Nat} (hW : Wv m) (hC : Rc m f) (hr : r < m 39 7) : Cr E i_F_passesClear 1 [.ref (wB E + 0), .ref (wB E + (15 + 3 * r))] f w (some (.int (nI (if clrP m r then 1 else 0)))) f := by
  have h12 := hW.S
  have h8 := hW.R
  have h6 := hW.N hr
  refine cr_of rfl rfl rfl (show 2 ≤ 3 by decide) ?_
  have L : ∀ k, k ≤ m 51 r → (∀ j, j < k → ¬ (m 53 (6 * r + j) < 3 ∧ m 41 (m 52 (6 * r + j)) ≠ 0)) → Ev E (jr E i_F_passesClear 1 f w (some (.int (nI (if clrP m r then 1 else 0)))) f) 0 0 2 [(2, .int (nI k)), (0, .ref (wB E + 0)), (1, .ref (wB E + (15 + 3 * r)))] [] f g0 w 57 := by
    apply lp_ind
    intro k hk ih hI
    refine e_iload_n (dat d_F_passesClear 2 rfl) 0 rfl rfl ?_
    refine e_aload_n (dat d_F_passesClear 3 rfl) 2 rfl rfl ?_
    refine s_gR (dat d_F_passesClear 4 rfl) 2 k_62 (by decide) rfl rfl (by omega) (cR2 hC (by omega)) ?_
    refine n_icmp_ge (dat d_F_passesClear 5 rfl) (tgt := 43) (by decide) (by omega) (by omega) (fun h7 => ?_) (fun h7 => ?_)
    · refine n_iconst (dat d_F_passesClear 23 rfl) 1 rfl ?_
      exact q_zret (dat d_F_passesClear 24 rfl) rfl (z01 (by decide)) (show 0 ≤ 0 by decide) (show 0 ≤ 0 by decide) ⟨by first | rw [if_pos (fun j hj => hI j (by omega))] | rw [if_neg (fun h => h k h7 ⟨Classical.byContradiction (fun h9 => by rw [if_neg h9] at h15; exact h15 rfl), by assumption⟩)], rfl⟩
    · have hw := hW.w hr h7
      refine e_aload_n (dat d_F_passesClear 6 rfl) 2 rfl rfl ?_
      refine e_iload_n (dat d_F_passesClear 7 rfl) 0 rfl rfl ?_
      refine r_call (t_R_isPass hW hC hr h7) c_R_isPass (dat d_F_passesClear 8 rfl) rfl k_325 rfl (kd_R _ (by omega)) (by decide) (by omega) rfl (show 0 ≤ 8 by decide) ⟨show 1 ≤ 1 by decide, show 21 ≤ 30 by decide⟩ ⟨show 0 ≤ 0 by decide, show 0 ≤ 0 by decide⟩ ?_
      refine n_if_eq (dat d_F_passesClear 9 rfl) (tgt := 37) (by decide) (by split <;> decide) (fun h15 => ?_) (fun h15 => ?_)
      · refine n_iinc (q := 0) (dat d_F_passesClear 21 rfl) rfl (show 2 < 3 by decide) (lv2 := [(2, _), (0, _), (1, _)]) rfl ?_
        refine e_goto (dat d_F_passesClear 22 rfl) (tgt := 2) (by decide) ?_
        refine ih h7 (fun j hj => ?_)
        by_cases e : j = k
        · rw [e]
          rintro ⟨e1, e2⟩
          first
            | (rw [if_pos e1] at h15; exact absurd h15 (by decide))
            | exact e2 (by assumption)
        · exact hI j (by omega)
      · refine e_aload_n (dat d_F_passesClear 10 rfl) 1 rfl rfl ?_
        refine s_qF (dat d_F_passesClear 11 rfl) 0 k_102 (by decide) rfl rfl rfl ?_
        refine e_aload_n (dat d_F_passesClear 12 rfl) 2 rfl rfl ?_
        refine s_qU (dat d_F_passesClear 13 rfl) k_59 (by omega) ?_
        refine e_iload_n (dat d_F_passesClear 14 rfl) 0 rfl rfl ?_
        refine s_iU (dat d_F_passesClear 15 rfl) (by omega) rfl (by omega) (cU hC (by omega) (by omega)) ?_
        refine s_aS (dat d_F_passesClear 16 rfl) rfl (by omega) ?_
        refine s_gS (dat d_F_passesClear 17 rfl) 1 k_29 (by decide) rfl rfl (by omega) (cS1 hC (by omega)) ?_
        refine n_if_eq (dat d_F_passesClear 18 rfl) (tgt := 37) (by decide) (lt64 (hW.b _ _)) (fun h32 => ?_) (fun h32 => ?_)
        · refine n_iinc (q := 0) (dat d_F_passesClear 21 rfl) rfl (show 2 < 3 by decide) (lv2 := [(2, _), (0, _), (1, _)]) rfl ?_
          refine e_goto (dat d_F_passesClear 22 rfl) (tgt := 2) (by decide) ?_
          refine ih h7 (fun j hj => ?_)
          by_cases e : j = k
          · rw [e]
            rintro ⟨e1, e2⟩
            first
              | (rw [if_pos e1] at h15; exact absurd h15 (by decide))
              | exact e2 (by assumption)
          · exact hI j (by omega)
        · refine n_iconst (dat d_F_passesClear 19 rfl) 0 rfl ?_
          exact q_zret (dat d_F_passesClear 20 rfl) rfl (z01 (by decide)) (show 0 ≤ 0 by decide) (show 0 ≤ 0 by decide) ⟨by first | rw [if_pos (fun j hj => hI j (by omega))] | rw [if_neg (fun h => h k h7 ⟨Classical.byContradiction (fun h9 => by rw [if_neg h9] at h15; exact h15 rfl), by assumption⟩)], rfl⟩
  refine n_iconst (dat d_F_passesClear 0 rfl) 0 rfl ?_
  refine e_istore_n (dat d_F_passesClear 1 rfl) rfl (show 2 < 3 by decide) (lv2 := [(2, _), (0, _), (1, _)]) rfl ?_
  exact L 0 (Nat.zero_le _) (fun j hj => absurd hj (Nat.not_lt_zero _))
