theorem if_p {P : Prop} {d : Decidable P} (h : ¬ (@ite Nat P d 1 0) = 0) : P := Classical.byContradiction (fun h2 => h (if_neg h2))
theorem if_n {P : Prop} {d : Decidable P} (h : (@ite Nat P d 1 0) = 0) : ¬ P := fun h2 => by
  rw [if_pos h2] at h
  exact absurd h (by decide)
theorem if_p0 {P : Prop} {d : Decidable P} (h : ¬ (@ite Nat P d 0 1) = 0) : ¬ P := fun h2 => h (if_pos h2)
theorem if_n0 {P : Prop} {d : Decidable P} (h : (@ite Nat P d 0 1) = 0) : P := Classical.byContradiction (fun h2 => by
  rw [if_neg h2] at h
  exact absurd h (by decide))
theorem if_lt {P : Prop} {d : Decidable P} : (@ite Nat P d 1 0) < 2 ^ 31 := by
  split <;> decide
theorem if_lt0 {P : Prop} {d : Decidable P} : (@ite Nat P d 0 1) < 2 ^ 31 := by
  split <;> decide
abbrev pasP (m : wM) (s r : Nat) : Prop := ¬ ∀ k, k < m 51 r → m 52 (6 * r + k) = s → m 53 (6 * r + k) < 3 → ¬ m 54 (6 * r + k) = 1
abbrev flaP (m : wM) (s r : Nat) : Prop := ¬ ∀ k, k < m 51 r → m 52 (6 * r + k) = s → ¬ m 53 (6 * r + k) < 3 → ¬ m 54 (6 * r + k) = 1
abbrev stdP (m : wM) (r : Nat) : Prop := ¬ ∀ q, q < m 39 7 → ¬ ((m 48 q = 1 ∨ m 48 q = 3) ∧ m 45 q = m 45 r) ∧ ¬ disP m (hld m q) q r
abbrev hasP (m : wM) (r : Nat) : Prop := ¬ ∀ k, k < m 51 r → ¬ m 53 (6 * r + k) < 3
/-- what a request is answered with -/
noncomputable def jdg (m : wM) (r : Nat) : Nat := @ite Nat (m 48 r ≠ 0 ∨ ¬ hasP m r) (Classical.propDecidable _) 1 (@ite Nat (stdP m r) (Classical.propDecidable _) 2 (@ite Nat (¬ clrP m r) (Classical.propDecidable _) 3 (@ite Nat (¬ mayP m r) (Classical.propDecidable _) 4 0)))
theorem t_R_disagrees {E : wE} {m : wM} {f : wF} {w : Int64} {r q X : Nat} (hW : Wv m) (hC : Rc m f) (hr : r < m 39 7) (hq : q < m 39 7) (hX : X < 64) : Cr E i_R_disagrees 1 [.ref (wB E + (15 + 3 * r)), .int (nI X), .ref (wB E + (15 + 3 * q))] f w (some (.int (nI (@ite Nat (∀ k, k < m 51 r → X / 2 ^ k % 2 ≠ 0 → ∀ i, i < m 51 q → m 52 (6 * r + k) = m 52 (6 * q + i) → ¬ badU (m 53 (6 * r + k)) (m 53 (6 * q + i))) (Classical.propDecidable _) 0 1)))) f := by
  have h12 := hW.S
  have h8 := hW.R
  have h6 := hW.N hr
  have h7 := hW.N hq
  refine cr_of rfl rfl rfl (show 3 ≤ 6 by decide) ?_
  have L : ∀ k, k ≤ m 51 r → (∀ j, j < k → X / 2 ^ j % 2 ≠ 0 → ∀ i, i < m 51 q → m 52 (6 * r + j) = m 52 (6 * q + i) → ¬ badU (m 53 (6 * r + j)) (m 53 (6 * q + i))) → Ev E (jr E i_R_disagrees 1 f w (some (.int (nI (@ite Nat (∀ k, k < m 51 r → X / 2 ^ k % 2 ≠ 0 → ∀ i, i < m 51 q → m 52 (6 * r + k) = m 52 (6 * q + i) → ¬ badU (m 53 (6 * r + k)) (m 53 (6 * q + i))) (Classical.propDecidable _) 0 1)))) f) 0 0 2 [(3, .int (nI k)), (0, .ref (wB E + (15 + 3 * r))), (1, .int (nI X)), (2, .ref (wB E + (15 + 3 * q)))] [] f g0 w 57 := by
    apply lp_ind
    intro k hk ih hI
    refine e_iload_n (dat d_R_disagrees 2 rfl) 0 rfl rfl ?_
    refine e_aload_n (dat d_R_disagrees 3 rfl) 1 rfl rfl ?_
    refine s_gR (dat d_R_disagrees 4 rfl) 2 k_61 (by decide) rfl rfl (by omega) (cR2 hC (by omega)) ?_
    refine n_icmp_ge (dat d_R_disagrees 5 rfl) (tgt := 87) (by decide) (by omega) (by omega) (fun h7 => ?_) (fun h7 => ?_)
    · refine n_iconst (dat d_R_disagrees 47 rfl) 0 rfl ?_
      exact q_zret (dat d_R_disagrees 48 rfl) rfl (z01 (by decide)) (show 0 ≤ 0 by decide) (show 0 ≤ 0 by decide) ⟨by rw [if_pos (fun j hj => hI j (by omega))], rfl⟩
    · have hw := hW.w hr h7
      have h64 := hW.b 52 (6 * r + k)
      refine e_aload_n (dat d_R_disagrees 6 rfl) 3 rfl rfl ?_
      refine e_aload_n (dat d_R_disagrees 7 rfl) 1 rfl rfl ?_
      refine s_qU (dat d_R_disagrees 8 rfl) k_58 (by omega) ?_
      refine e_iload_n (dat d_R_disagrees 9 rfl) 0 rfl rfl ?_
      refine s_iU (dat d_R_disagrees 10 rfl) (by omega) rfl (by omega) (cU hC (by omega) (by omega)) ?_
      refine q_call (t_R_useOf hW hC hq (by omega)) c_R_useOf (dat d_R_disagrees 11 rfl) rfl k_316 rfl (kd_R _ (by omega)) (by decide) (by omega) rfl (show 0 ≤ 8 by decide) ⟨show 1 ≤ 1 by decide, show 22 ≤ 30 by decide⟩ ⟨show 0 ≤ 0 by decide, show 0 ≤ 0 by decide⟩ (fun v9 f9 h9 => ?_) (fun X9 h9 => h9.elim)
      obtain ⟨rfl, ⟨j, hj, hj2, rfl⟩ | ⟨hn, rfl⟩⟩ := h9
      · refine e_istore (dat d_R_disagrees 12 rfl) (show 4 < 6 by decide) (lv2 := [(4, _), (3, _), (0, _), (1, _), (2, _)]) rfl ?_
        refine e_iload_n (dat d_R_disagrees 13 rfl) 3 rfl rfl ?_
        refine n_iconst (dat d_R_disagrees 14 rfl) 1 rfl ?_
        refine e_iload_n (dat d_R_disagrees 15 rfl) 1 rfl rfl ?_
        refine e_ishl (dat d_R_disagrees 16 rfl) ?_
        refine e_iand (dat d_R_disagrees 17 rfl) ?_
        refine e_if_eq (dat d_R_disagrees 18 rfl) (tgt := 40) (by decide) (fun h27 => ?_) (fun h27 => ?_)
        · refine n_iconst (dat d_R_disagrees 24 rfl) 0 rfl ?_
          refine e_istore (dat d_R_disagrees 25 rfl) (show 5 < 6 by decide) (lv2 := [(5, _), (4, _), (3, _), (0, _), (1, _), (2, _)]) rfl ?_
          refine e_iload (dat d_R_disagrees 26 rfl) 0 rfl ?_
          refine n_if_eq (dat d_R_disagrees 27 rfl) (tgt := 81) (by decide) (by omega) (fun h45 => ?_) (fun h45 => ?_)
          · refine n_iinc (q := 2) (dat d_R_disagrees 45 rfl) rfl (show 3 < 6 by decide) (lv2 := [(3, _), (5, _), (4, _), (0, _), (1, _), (2, _)]) rfl ?_
            refine e_goto (dat d_R_disagrees 46 rfl) (tgt := 2) (by decide) ?_
            refine e_lv [0, 3, 4, 5] rfl ?_
            refine ih h7 (fun z hz => ?_)
            by_cases e : z = k
            · rw [e]
              intro hb i hi he hbad
              first
                | exact hb ((i_bit _ hX _ (by omega)).mp h27)
                | exact hn i hi he.symm
                | (have e9 := hW.D q j i hq hj hi (hj2.trans he)
                   subst e9
                   rcases hbad with ⟨b1, b2⟩ | b3
                   · first | exact h53 b1 | exact h62 b2
                   · exact b3 h76)
            · exact hI z (by omega)
          · first | exact absurd rfl h45 | exact absurd h45 (by decide)
        · refine e_iload (dat d_R_disagrees 19 rfl) 0 rfl ?_
          refine e_iconst (v := -1) (dat d_R_disagrees 20 rfl) rfl ?_
          refine e_icmp_eq (dat d_R_disagrees 21 rfl) (tgt := 40) (by decide) (fun h33 => ?_) (fun h33 => ?_)
          · exact absurd h33 (nI_m1 (by omega))
          · refine n_iconst (dat d_R_disagrees 22 rfl) 1 rfl ?_
            refine e_goto (dat d_R_disagrees 23 rfl) (tgt := 41) (by decide) ?_
            refine e_istore (dat d_R_disagrees 25 rfl) (show 5 < 6 by decide) (lv2 := [(5, _), (4, _), (3, _), (0, _), (1, _), (2, _)]) rfl ?_
            refine e_iload (dat d_R_disagrees 26 rfl) 0 rfl ?_
            refine n_if_eq (dat d_R_disagrees 27 rfl) (tgt := 81) (by decide) (by omega) (fun h45 => ?_) (fun h45 => ?_)
            · first | exact absurd rfl h45 | exact absurd h45 (by decide)
            · refine e_aload_n (dat d_R_disagrees 28 rfl) 3 rfl rfl ?_
              refine e_iload_n (dat d_R_disagrees 29 rfl) 2 rfl rfl ?_
              refine r_call (t_R_isPass hW hC hr h7) c_R_isPass (dat d_R_disagrees 30 rfl) rfl k_304 rfl (kd_R _ (by omega)) (by decide) (by omega) rfl (show 0 ≤ 8 by decide) ⟨show 1 ≤ 1 by decide, show 21 ≤ 30 by decide⟩ ⟨show 0 ≤ 0 by decide, show 0 ≤ 0 by decide⟩ ?_
              refine n_if_eq (dat d_R_disagrees 31 rfl) (tgt := 65) (by decide) if_lt (fun h53 => ?_) (fun h53 => ?_)
              · replace h53 := if_n h53
                refine e_aload_n (dat d_R_disagrees 36 rfl) 3 rfl rfl ?_
                refine e_iload_n (dat d_R_disagrees 37 rfl) 2 rfl rfl ?_
                refine r_call (t_R_positionOf hW hC hr h7) c_R_positionOf (dat d_R_disagrees 38 rfl) rfl k_317 rfl (kd_R _ (by omega)) (by decide) (by omega) rfl (show 0 ≤ 8 by decide) ⟨show 1 ≤ 1 by decide, show 21 ≤ 30 by decide⟩ ⟨show 0 ≤ 0 by decide, show 0 ≤ 0 by decide⟩ ?_
                refine e_aload_n (dat d_R_disagrees 39 rfl) 5 rfl rfl ?_
                refine e_iload (dat d_R_disagrees 40 rfl) 1 rfl ?_
                refine r_call (t_R_positionOf hW hC hq hj) c_R_positionOf (dat d_R_disagrees 41 rfl) rfl k_317 rfl (kd_R _ (by omega)) (by decide) (by omega) rfl (show 1 ≤ 8 by decide) ⟨show 1 ≤ 1 by decide, show 21 ≤ 30 by decide⟩ ⟨show 0 ≤ 0 by decide, show 0 ≤ 0 by decide⟩ ?_
                refine e_icmp_eq (dat d_R_disagrees 42 rfl) (tgt := 81) (by decide) (fun h76 => ?_) (fun h76 => ?_)
                · refine n_iinc (q := 2) (dat d_R_disagrees 45 rfl) rfl (show 3 < 6 by decide) (lv2 := [(3, _), (5, _), (4, _), (0, _), (1, _), (2, _)]) rfl ?_
                  refine e_goto (dat d_R_disagrees 46 rfl) (tgt := 2) (by decide) ?_
                  refine e_lv [0, 3, 4, 5] rfl ?_
                  refine ih h7 (fun z hz => ?_)
                  by_cases e : z = k
                  · rw [e]
                    intro hb i hi he hbad
                    first
                      | exact hb ((i_bit _ hX _ (by omega)).mp h27)
                      | exact hn i hi he.symm
                      | (have e9 := hW.D q j i hq hj hi (hj2.trans he)
                         subst e9
                         rcases hbad with ⟨b1, b2⟩ | b3
                         · first | exact h53 b1 | exact h62 b2
                         · exact b3 h76)
                  · exact hI z (by omega)
                · refine n_iconst (dat d_R_disagrees 43 rfl) 1 rfl ?_
                  exact q_zret (dat d_R_disagrees 44 rfl) rfl (z01 (by decide)) (show 0 ≤ 0 by decide) (show 0 ≤ 0 by decide) ⟨by rw [if_neg (fun h => h k h7 (fun h9 => h27 ((i_bit _ hX _ (by omega)).mpr h9)) j hj hj2.symm (by first | exact Or.inr h76 | exact Or.inl ⟨h53, h62⟩))], rfl⟩
              · replace h53 := if_p h53
                refine e_aload_n (dat d_R_disagrees 32 rfl) 5 rfl rfl ?_
                refine e_iload (dat d_R_disagrees 33 rfl) 1 rfl ?_
                refine r_call (t_R_isPass hW hC hq hj) c_R_isPass (dat d_R_disagrees 34 rfl) rfl k_304 rfl (kd_R _ (by omega)) (by decide) (by omega) rfl (show 0 ≤ 8 by decide) ⟨show 1 ≤ 1 by decide, show 21 ≤ 30 by decide⟩ ⟨show 0 ≤ 0 by decide, show 0 ≤ 0 by decide⟩ ?_
                refine n_if_ne (dat d_R_disagrees 35 rfl) (tgt := 79) (by decide) if_lt (fun h62 => ?_) (fun h62 => ?_)
                · replace h62 := if_p h62
                  refine n_iconst (dat d_R_disagrees 43 rfl) 1 rfl ?_
                  exact q_zret (dat d_R_disagrees 44 rfl) rfl (z01 (by decide)) (show 0 ≤ 0 by decide) (show 0 ≤ 0 by decide) ⟨by rw [if_neg (fun h => h k h7 (fun h9 => h27 ((i_bit _ hX _ (by omega)).mpr h9)) j hj hj2.symm (by first | exact Or.inr h76 | exact Or.inl ⟨h53, h62⟩))], rfl⟩
                · replace h62 := if_n h62
                  refine e_aload_n (dat d_R_disagrees 36 rfl) 3 rfl rfl ?_
                  refine e_iload_n (dat d_R_disagrees 37 rfl) 2 rfl rfl ?_
                  refine r_call (t_R_positionOf hW hC hr h7) c_R_positionOf (dat d_R_disagrees 38 rfl) rfl k_317 rfl (kd_R _ (by omega)) (by decide) (by omega) rfl (show 0 ≤ 8 by decide) ⟨show 1 ≤ 1 by decide, show 21 ≤ 30 by decide⟩ ⟨show 0 ≤ 0 by decide, show 0 ≤ 0 by decide⟩ ?_
                  refine e_aload_n (dat d_R_disagrees 39 rfl) 5 rfl rfl ?_
                  refine e_iload (dat d_R_disagrees 40 rfl) 1 rfl ?_
                  refine r_call (t_R_positionOf hW hC hq hj) c_R_positionOf (dat d_R_disagrees 41 rfl) rfl k_317 rfl (kd_R _ (by omega)) (by decide) (by omega) rfl (show 1 ≤ 8 by decide) ⟨show 1 ≤ 1 by decide, show 21 ≤ 30 by decide⟩ ⟨show 0 ≤ 0 by decide, show 0 ≤ 0 by decide⟩ ?_
                  refine e_icmp_eq (dat d_R_disagrees 42 rfl) (tgt := 81) (by decide) (fun h76 => ?_) (fun h76 => ?_)
                  · refine n_iinc (q := 2) (dat d_R_disagrees 45 rfl) rfl (show 3 < 6 by decide) (lv2 := [(3, _), (5, _), (4, _), (0, _), (1, _), (2, _)]) rfl ?_
                    refine e_goto (dat d_R_disagrees 46 rfl) (tgt := 2) (by decide) ?_
                    refine e_lv [0, 3, 4, 5] rfl ?_
                    refine ih h7 (fun z hz => ?_)
                    by_cases e : z = k
                    · rw [e]
                      intro hb i hi he hbad
                      first
                        | exact hb ((i_bit _ hX _ (by omega)).mp h27)
                        | exact hn i hi he.symm
                        | (have e9 := hW.D q j i hq hj hi (hj2.trans he)
                           subst e9
                           rcases hbad with ⟨b1, b2⟩ | b3
                           · first | exact h53 b1 | exact h62 b2
                           · exact b3 h76)
                    · exact hI z (by omega)
                  · refine n_iconst (dat d_R_disagrees 43 rfl) 1 rfl ?_
                    exact q_zret (dat d_R_disagrees 44 rfl) rfl (z01 (by decide)) (show 0 ≤ 0 by decide) (show 0 ≤ 0 by decide) ⟨by rw [if_neg (fun h => h k h7 (fun h9 => h27 ((i_bit _ hX _ (by omega)).mpr h9)) j hj hj2.symm (by first | exact Or.inr h76 | exact Or.inl ⟨h53, h62⟩))], rfl⟩
      · refine e_istore (dat d_R_disagrees 12 rfl) (show 4 < 6 by decide) (lv2 := [(4, _), (3, _), (0, _), (1, _), (2, _)]) rfl ?_
        refine e_iload_n (dat d_R_disagrees 13 rfl) 3 rfl rfl ?_
        refine n_iconst (dat d_R_disagrees 14 rfl) 1 rfl ?_
        refine e_iload_n (dat d_R_disagrees 15 rfl) 1 rfl rfl ?_
        refine e_ishl (dat d_R_disagrees 16 rfl) ?_
        refine e_iand (dat d_R_disagrees 17 rfl) ?_
        refine e_if_eq (dat d_R_disagrees 18 rfl) (tgt := 40) (by decide) (fun h27 => ?_) (fun h27 => ?_)
        · refine n_iconst (dat d_R_disagrees 24 rfl) 0 rfl ?_
          refine e_istore (dat d_R_disagrees 25 rfl) (show 5 < 6 by decide) (lv2 := [(5, _), (4, _), (3, _), (0, _), (1, _), (2, _)]) rfl ?_
          refine e_iload (dat d_R_disagrees 26 rfl) 0 rfl ?_
          refine n_if_eq (dat d_R_disagrees 27 rfl) (tgt := 81) (by decide) (by omega) (fun h45 => ?_) (fun h45 => ?_)
          · refine n_iinc (q := 2) (dat d_R_disagrees 45 rfl) rfl (show 3 < 6 by decide) (lv2 := [(3, _), (5, _), (4, _), (0, _), (1, _), (2, _)]) rfl ?_
            refine e_goto (dat d_R_disagrees 46 rfl) (tgt := 2) (by decide) ?_
            refine e_lv [0, 3, 4, 5] rfl ?_
            refine ih h7 (fun z hz => ?_)
            by_cases e : z = k
            · rw [e]
              intro hb i hi he hbad
              first
                | exact hb ((i_bit _ hX _ (by omega)).mp h27)
                | exact hn i hi he.symm
                | (have e9 := hW.D q j i hq hj hi (hj2.trans he)
                   subst e9
                   rcases hbad with ⟨b1, b2⟩ | b3
                   · first | exact h53 b1 | exact h62 b2
                   · exact b3 h76)
            · exact hI z (by omega)
          · first | exact absurd rfl h45 | exact absurd h45 (by decide)
        · refine e_iload (dat d_R_disagrees 19 rfl) 0 rfl ?_
          refine e_iconst (v := -1) (dat d_R_disagrees 20 rfl) rfl ?_
          refine e_icmp_eq (dat d_R_disagrees 21 rfl) (tgt := 40) (by decide) (fun h33 => ?_) (fun h33 => ?_)
          · refine n_iconst (dat d_R_disagrees 24 rfl) 0 rfl ?_
            refine e_istore (dat d_R_disagrees 25 rfl) (show 5 < 6 by decide) (lv2 := [(5, _), (4, _), (3, _), (0, _), (1, _), (2, _)]) rfl ?_
            refine e_iload (dat d_R_disagrees 26 rfl) 0 rfl ?_
            refine n_if_eq (dat d_R_disagrees 27 rfl) (tgt := 81) (by decide) (by omega) (fun h45 => ?_) (fun h45 => ?_)
            · refine n_iinc (q := 2) (dat d_R_disagrees 45 rfl) rfl (show 3 < 6 by decide) (lv2 := [(3, _), (5, _), (4, _), (0, _), (1, _), (2, _)]) rfl ?_
              refine e_goto (dat d_R_disagrees 46 rfl) (tgt := 2) (by decide) ?_
              refine e_lv [0, 3, 4, 5] rfl ?_
              refine ih h7 (fun z hz => ?_)
              by_cases e : z = k
              · rw [e]
                intro hb i hi he hbad
                first
                  | exact hb ((i_bit _ hX _ (by omega)).mp h27)
                  | exact hn i hi he.symm
                  | (have e9 := hW.D q j i hq hj hi (hj2.trans he)
                     subst e9
                     rcases hbad with ⟨b1, b2⟩ | b3
                     · first | exact h53 b1 | exact h62 b2
                     · exact b3 h76)
              · exact hI z (by omega)
            · first | exact absurd rfl h45 | exact absurd h45 (by decide)
          · exact absurd rfl h33
  refine n_iconst (dat d_R_disagrees 0 rfl) 0 rfl ?_
  refine e_istore_n (dat d_R_disagrees 1 rfl) rfl (show 3 < 6 by decide) (lv2 := [(3, _), (0, _), (1, _), (2, _)]) rfl ?_
  exact L 0 (Nat.zero_le _) (fun j hj => absurd hj (Nat.not_lt_zero _))
theorem t_F_pointsMayMove {E : wE} {m : wM} {f : wF} {w : Int64} {r : Nat} (hW : Wv m) (hC : Rc m f) (hr : r < m 39 7) : Cr E i_F_pointsMayMove 1 [.ref (wB E + 0), .ref (wB E + (15 + 3 * r))] f w (some (.int (nI (if mayP m r then 1 else 0)))) f := by
  have h12 := hW.S
  have h8 := hW.R
  have h6 := hW.N hr
  refine cr_of rfl rfl rfl (show 2 ≤ 4 by decide) ?_
  have L : ∀ k, k ≤ m 51 r → (∀ j, j < k → m 40 (m 52 (6 * r + j)) ≠ 0 → m 41 (m 52 (6 * r + j)) ≠ 0 → nI (m 42 (m 52 (6 * r + j))) = posI (m 53 (6 * r + j))) → Ev E (jr E i_F_pointsMayMove 1 f w (some (.int (nI (if mayP m r then 1 else 0)))) f) 0 0 2 [(2, .int (nI k)), (0, .ref (wB E + 0)), (1, .ref (wB E + (15 + 3 * r)))] [] f g0 w 57 := by
    apply lp_ind
    intro k hk ih hI
    refine e_iload_n (dat d_F_pointsMayMove 2 rfl) 0 rfl rfl ?_
    refine e_aload_n (dat d_F_pointsMayMove 3 rfl) 2 rfl rfl ?_
    refine s_gR (dat d_F_pointsMayMove 4 rfl) 2 k_62 (by decide) rfl rfl (by omega) (cR2 hC (by omega)) ?_
    refine n_icmp_ge (dat d_F_pointsMayMove 5 rfl) (tgt := 56) (by decide) (by omega) (by omega) (fun h7 => ?_) (fun h7 => ?_)
    · refine n_iconst (dat d_F_pointsMayMove 30 rfl) 1 rfl ?_
      exact q_zret (dat d_F_pointsMayMove 31 rfl) rfl (z01 (by decide)) (show 0 ≤ 0 by decide) (show 0 ≤ 0 by decide) ⟨by rw [if_pos (fun j hj => hI j (by omega))], rfl⟩
    · have hw := hW.w hr h7
      have h64 := hW.b 52 (6 * r + k)
      refine e_aload_n (dat d_F_pointsMayMove 6 rfl) 1 rfl rfl ?_
      refine s_qF (dat d_F_pointsMayMove 7 rfl) 0 k_102 (by decide) rfl rfl rfl ?_
      refine e_aload_n (dat d_F_pointsMayMove 8 rfl) 2 rfl rfl ?_
      refine s_qU (dat d_F_pointsMayMove 9 rfl) k_59 (by omega) ?_
      refine e_iload_n (dat d_F_pointsMayMove 10 rfl) 0 rfl rfl ?_
      refine s_iU (dat d_F_pointsMayMove 11 rfl) (by omega) rfl (by omega) (cU hC (by omega) (by omega)) ?_
      refine s_aS (dat d_F_pointsMayMove 12 rfl) rfl (by omega) ?_
      refine e_astore_n (dat d_F_pointsMayMove 13 rfl) rfl (show 3 < 4 by decide) (lv2 := [(3, _), (2, _), (0, _), (1, _)]) rfl ?_
      refine e_aload_n (dat d_F_pointsMayMove 14 rfl) 0 rfl rfl ?_
      refine s_gS (dat d_F_pointsMayMove 15 rfl) 0 k_27 (by decide) rfl rfl (by omega) (cS0 hC (by omega)) ?_
      refine n_if_eq (dat d_F_pointsMayMove 16 rfl) (tgt := 50) (by decide) (lt64 (hW.b _ _)) (fun h26 => ?_) (fun h26 => ?_)
      · refine n_iinc (q := 1) (dat d_F_pointsMayMove 28 rfl) rfl (show 2 < 4 by decide) (lv2 := [(2, _), (3, _), (0, _), (1, _)]) rfl ?_
        refine e_goto (dat d_F_pointsMayMove 29 rfl) (tgt := 2) (by decide) ?_
        refine e_lv [0, 2, 3] rfl ?_
        refine ih h7 (fun z hz => ?_)
        by_cases e : z = k
        · rw [e]
          intro a1 a2
          first | exact absurd h26 a1 | exact absurd h33 a2 | exact h45
        · exact hI z (by omega)
      · refine e_aload_n (dat d_F_pointsMayMove 17 rfl) 0 rfl rfl ?_
        refine s_gS (dat d_F_pointsMayMove 18 rfl) 1 k_29 (by decide) rfl rfl (by omega) (cS1 hC (by omega)) ?_
        refine n_if_eq (dat d_F_pointsMayMove 19 rfl) (tgt := 50) (by decide) (lt64 (hW.b _ _)) (fun h33 => ?_) (fun h33 => ?_)
        · refine n_iinc (q := 1) (dat d_F_pointsMayMove 28 rfl) rfl (show 2 < 4 by decide) (lv2 := [(2, _), (3, _), (0, _), (1, _)]) rfl ?_
          refine e_goto (dat d_F_pointsMayMove 29 rfl) (tgt := 2) (by decide) ?_
          refine e_lv [0, 2, 3] rfl ?_
          refine ih h7 (fun z hz => ?_)
          by_cases e : z = k
          · rw [e]
            intro a1 a2
            first | exact absurd h26 a1 | exact absurd h33 a2 | exact h45
          · exact hI z (by omega)
        · refine e_aload_n (dat d_F_pointsMayMove 20 rfl) 0 rfl rfl ?_
          refine s_gS (dat d_F_pointsMayMove 21 rfl) 4 k_35 (by decide) rfl rfl (by omega) (cS4 hC (by omega)) ?_
          refine e_aload_n (dat d_F_pointsMayMove 22 rfl) 3 rfl rfl ?_
          refine e_iload_n (dat d_F_pointsMayMove 23 rfl) 1 rfl rfl ?_
          refine r_call (t_R_positionOf hW hC hr h7) c_R_positionOf (dat d_F_pointsMayMove 24 rfl) rfl k_330 rfl (kd_R _ (by omega)) (by decide) (by omega) rfl (show 1 ≤ 8 by decide) ⟨show 1 ≤ 1 by decide, show 21 ≤ 30 by decide⟩ ⟨show 0 ≤ 0 by decide, show 0 ≤ 0 by decide⟩ ?_
          refine e_icmp_eq (dat d_F_pointsMayMove 25 rfl) (tgt := 50) (by decide) (fun h45 => ?_) (fun h45 => ?_)
          · refine n_iinc (q := 1) (dat d_F_pointsMayMove 28 rfl) rfl (show 2 < 4 by decide) (lv2 := [(2, _), (3, _), (0, _), (1, _)]) rfl ?_
            refine e_goto (dat d_F_pointsMayMove 29 rfl) (tgt := 2) (by decide) ?_
            refine e_lv [0, 2, 3] rfl ?_
            refine ih h7 (fun z hz => ?_)
            by_cases e : z = k
            · rw [e]
              intro a1 a2
              first | exact absurd h26 a1 | exact absurd h33 a2 | exact h45
            · exact hI z (by omega)
          · refine n_iconst (dat d_F_pointsMayMove 26 rfl) 0 rfl ?_
            exact q_zret (dat d_F_pointsMayMove 27 rfl) rfl (z01 (by decide)) (show 0 ≤ 0 by decide) (show 0 ≤ 0 by decide) ⟨by rw [if_neg (fun h => h45 (h k h7 h26 h33))], rfl⟩
  refine n_iconst (dat d_F_pointsMayMove 0 rfl) 0 rfl ?_
  refine e_istore_n (dat d_F_pointsMayMove 1 rfl) rfl (show 2 < 4 by decide) (lv2 := [(2, _), (0, _), (1, _)]) rfl ?_
  exact L 0 (Nat.zero_le _) (fun j hj => absurd hj (Nat.not_lt_zero _))
theorem t_F_pointsFound {E : wE} {m : wM} {f : wF} {w : Int64} {r : Nat} (hW : Wv m) (hC : Rc m f) (hr : r < m 39 7) : Cr E i_F_pointsFound 1 [.ref (wB E + 0), .ref (wB E + (15 + 3 * r))] f w (some (.int (nI (if fndP m r then 1 else 0)))) f := by
  have h12 := hW.S
  have h8 := hW.R
  have h6 := hW.N hr
  refine cr_of rfl rfl rfl (show 2 ≤ 4 by decide) ?_
  have L : ∀ k, k ≤ m 51 r → (∀ j, j < k → m 40 (m 52 (6 * r + j)) ≠ 0 → lieI m (m 52 (6 * r + j)) = posI (m 53 (6 * r + j)) ∧ m 44 (m 52 (6 * r + j)) = 0) → Ev E (jr E i_F_pointsFound 1 f w (some (.int (nI (if fndP m r then 1 else 0)))) f) 0 0 2 [(2, .int (nI k)), (0, .ref (wB E + 0)), (1, .ref (wB E + (15 + 3 * r)))] [] f g0 w 57 := by
    apply lp_ind
    intro k hk ih hI
    refine e_iload_n (dat d_F_pointsFound 2 rfl) 0 rfl rfl ?_
    refine e_aload_n (dat d_F_pointsFound 3 rfl) 2 rfl rfl ?_
    refine s_gR (dat d_F_pointsFound 4 rfl) 2 k_62 (by decide) rfl rfl (by omega) (cR2 hC (by omega)) ?_
    refine n_icmp_ge (dat d_F_pointsFound 5 rfl) (tgt := 49) (by decide) (by omega) (by omega) (fun h7 => ?_) (fun h7 => ?_)
    · refine n_iconst (dat d_F_pointsFound 27 rfl) 1 rfl ?_
      exact q_zret (dat d_F_pointsFound 28 rfl) rfl (z01 (by decide)) (show 0 ≤ 0 by decide) (show 0 ≤ 0 by decide) ⟨by rw [if_pos (fun j hj => hI j (by omega))], rfl⟩
    · have hw := hW.w hr h7
      have h64 := hW.b 52 (6 * r + k)
      refine e_aload_n (dat d_F_pointsFound 6 rfl) 1 rfl rfl ?_
      refine s_qF (dat d_F_pointsFound 7 rfl) 0 k_102 (by decide) rfl rfl rfl ?_
      refine e_aload_n (dat d_F_pointsFound 8 rfl) 2 rfl rfl ?_
      refine s_qU (dat d_F_pointsFound 9 rfl) k_59 (by omega) ?_
      refine e_iload_n (dat d_F_pointsFound 10 rfl) 0 rfl rfl ?_
      refine s_iU (dat d_F_pointsFound 11 rfl) (by omega) rfl (by omega) (cU hC (by omega) (by omega)) ?_
      refine s_aS (dat d_F_pointsFound 12 rfl) rfl (by omega) ?_
      refine e_astore_n (dat d_F_pointsFound 13 rfl) rfl (show 3 < 4 by decide) (lv2 := [(3, _), (2, _), (0, _), (1, _)]) rfl ?_
      refine e_aload_n (dat d_F_pointsFound 14 rfl) 0 rfl rfl ?_
      refine s_gS (dat d_F_pointsFound 15 rfl) 0 k_27 (by decide) rfl rfl (by omega) (cS0 hC (by omega)) ?_
      refine n_if_eq (dat d_F_pointsFound 16 rfl) (tgt := 43) (by decide) (lt64 (hW.b _ _)) (fun h26 => ?_) (fun h26 => ?_)
      · refine n_iinc (q := 1) (dat d_F_pointsFound 25 rfl) rfl (show 2 < 4 by decide) (lv2 := [(2, _), (3, _), (0, _), (1, _)]) rfl ?_
        refine e_goto (dat d_F_pointsFound 26 rfl) (tgt := 2) (by decide) ?_
        refine e_lv [0, 2, 3] rfl ?_
        refine ih h7 (fun z hz => ?_)
        by_cases e : z = k
        · rw [e]
          intro a1
          first | exact absurd h26 a1 | exact ⟨e3.symm.trans h38.1, nI_z (by omega) (e2.symm.trans h38.2)⟩
        · exact hI z (by omega)
      · refine e_aload_n (dat d_F_pointsFound 17 rfl) 0 rfl rfl ?_
        refine e_aload_n (dat d_F_pointsFound 18 rfl) 3 rfl rfl ?_
        refine e_iload_n (dat d_F_pointsFound 19 rfl) 1 rfl rfl ?_
        refine r_call (t_R_positionOf hW hC hr h7) c_R_positionOf (dat d_F_pointsFound 20 rfl) rfl k_330 rfl (kd_R _ (by omega)) (by decide) (by omega) rfl (show 1 ≤ 8 by decide) ⟨show 1 ≤ 1 by decide, show 21 ≤ 30 by decide⟩ ⟨show 0 ≤ 0 by decide, show 0 ≤ 0 by decide⟩ ?_
        refine r_call (t_S_isFoundIn (by omega)) c_S_isFoundIn (dat d_F_pointsFound 21 rfl) rfl k_359 rfl (kd_S _ (by omega)) (by decide) (by omega) rfl (show 0 ≤ 8 by decide) ⟨show 1 ≤ 1 by decide, show 21 ≤ 30 by decide⟩ ⟨show 0 ≤ 0 by decide, show 0 ≤ 0 by decide⟩ ?_
        refine n_if_ne (dat d_F_pointsFound 22 rfl) (tgt := 43) (by decide) if_lt (fun h38 => ?_) (fun h38 => ?_)
        · replace h38 := if_p h38
          have e3 := cS3 hC hw
          have e2 := cS2 hC hw
          have e9 := hW.b 44 (m 52 (6 * r + k))
          refine n_iinc (q := 1) (dat d_F_pointsFound 25 rfl) rfl (show 2 < 4 by decide) (lv2 := [(2, _), (3, _), (0, _), (1, _)]) rfl ?_
          refine e_goto (dat d_F_pointsFound 26 rfl) (tgt := 2) (by decide) ?_
          refine e_lv [0, 2, 3] rfl ?_
          refine ih h7 (fun z hz => ?_)
          by_cases e : z = k
          · rw [e]
            intro a1
            first | exact absurd h26 a1 | exact ⟨e3.symm.trans h38.1, nI_z (by omega) (e2.symm.trans h38.2)⟩
          · exact hI z (by omega)
        · replace h38 := if_n h38
          have e3 := cS3 hC hw
          have e2 := cS2 hC hw
          have e9 := hW.b 44 (m 52 (6 * r + k))
          refine n_iconst (dat d_F_pointsFound 23 rfl) 0 rfl ?_
          exact q_zret (dat d_F_pointsFound 24 rfl) rfl (z01 (by decide)) (show 0 ≤ 0 by decide) (show 0 ≤ 0 by decide) ⟨by rw [if_neg (fun h => h38 ⟨e3.trans (h k h7 h26).1, by rw [e2, (h k h7 h26).2]; rfl⟩)], rfl⟩
  refine n_iconst (dat d_F_pointsFound 0 rfl) 0 rfl ?_
  refine e_istore_n (dat d_F_pointsFound 1 rfl) rfl (show 2 < 4 by decide) (lv2 := [(2, _), (0, _), (1, _)]) rfl ?_
  exact L 0 (Nat.zero_le _) (fun j hj => absurd hj (Nat.not_lt_zero _))
theorem t_F_showsOff {E : wE} {m : wM} {f : wF} {w : Int64} {s : Nat} (hW : Wv m) (hC : Rc m f) (hs : s < 64) : Cr E i_F_showsOff 2 [.ref (wB E + 0), .int (nI s)] f w (some (.int (nI (if ∀ r, r < m 39 7 → ¬ (m 45 r = s ∧ m 48 r = 1 ∧ clrP m r ∧ fndP m r) then 0 else 1)))) f := by
  have h12 := hW.S
  have h8 := hW.R
  refine cr_of rfl rfl rfl (show 2 ≤ 4 by decide) ?_
  have L : ∀ k, k ≤ m 39 7 → (∀ j, j < k → ¬ (m 45 j = s ∧ m 48 j = 1 ∧ clrP m j ∧ fndP m j)) → Ev E (jr E i_F_showsOff 2 f w (some (.int (nI (if ∀ r, r < m 39 7 → ¬ (m 45 r = s ∧ m 48 r = 1 ∧ clrP m r ∧ fndP m r) then 0 else 1)))) f) 0 0 2 [(2, .int (nI k)), (0, .ref (wB E + 0)), (1, .int (nI s))] [] f g0 w 57 := by
    apply lp_ind
    intro k hk ih hI
    refine e_iload_n (dat d_F_showsOff 2 rfl) 0 rfl rfl ?_
    refine e_aload_n (dat d_F_showsOff 3 rfl) 1 rfl rfl ?_
    refine s_gF (dat d_F_showsOff 4 rfl) 3 k_105 (by decide) rfl rfl (cF3 hC) ?_
    refine n_icmp_ge (dat d_F_showsOff 5 rfl) (tgt := 57) (by decide) (by omega) (by omega) (fun h7 => ?_) (fun h7 => ?_)
    · refine n_iconst (dat d_F_showsOff 31 rfl) 0 rfl ?_
      exact q_zret (dat d_F_showsOff 32 rfl) rfl (z01 (by decide)) (show 0 ≤ 0 by decide) (show 0 ≤ 0 by decide) ⟨by rw [if_pos (fun j hj => hI j (by omega))], rfl⟩
    · refine e_aload_n (dat d_F_showsOff 6 rfl) 1 rfl rfl ?_
      refine s_qF (dat d_F_showsOff 7 rfl) 1 k_103 (by decide) rfl rfl rfl ?_
      refine e_iload_n (dat d_F_showsOff 8 rfl) 0 rfl rfl ?_
      refine s_aR (dat d_F_showsOff 9 rfl) rfl (by omega) ?_
      refine e_astore_n (dat d_F_showsOff 10 rfl) rfl (show 3 < 4 by decide) (lv2 := [(3, _), (2, _), (0, _), (1, _)]) rfl ?_
      refine e_aload_n (dat d_F_showsOff 11 rfl) 0 rfl rfl ?_
      refine s_gR (dat d_F_showsOff 12 rfl) 3 k_64 (by decide) rfl rfl (by omega) (cR3 hC (by omega)) ?_
      refine e_iload_n (dat d_F_showsOff 13 rfl) 3 rfl rfl ?_
      refine n_icmp_ne (dat d_F_showsOff 14 rfl) (tgt := 51) (by decide) (lt64 (hW.b _ _)) (by omega) (fun h22 => ?_) (fun h22 => ?_)
      · refine n_iinc (q := 1) (dat d_F_showsOff 29 rfl) rfl (show 2 < 4 by decide) (lv2 := [(2, _), (3, _), (0, _), (1, _)]) rfl ?_
        refine e_goto (dat d_F_showsOff 30 rfl) (tgt := 2) (by decide) ?_
        refine e_lv [0, 2, 3] rfl ?_
        refine ih h7 (fun z hz => ?_)
        by_cases e : z = k
        · rw [e]
          rintro ⟨a1, a2, a3, a4⟩
          first | exact h22 a1 | exact h30 a2 | exact h38 a3 | exact h46 a4
        · exact hI z (by omega)
      · refine e_aload_n (dat d_F_showsOff 15 rfl) 0 rfl rfl ?_
        refine s_gR (dat d_F_showsOff 16 rfl) 6 k_68 (by decide) rfl rfl (by omega) (cR6 hC (by omega)) ?_
        refine n_iconst (dat d_F_showsOff 17 rfl) 1 rfl ?_
        refine n_icmp_ne (dat d_F_showsOff 18 rfl) (tgt := 51) (by decide) (lt64 (hW.b _ _)) (by decide) (fun h30 => ?_) (fun h30 => ?_)
        · refine n_iinc (q := 1) (dat d_F_showsOff 29 rfl) rfl (show 2 < 4 by decide) (lv2 := [(2, _), (3, _), (0, _), (1, _)]) rfl ?_
          refine e_goto (dat d_F_showsOff 30 rfl) (tgt := 2) (by decide) ?_
          refine e_lv [0, 2, 3] rfl ?_
          refine ih h7 (fun z hz => ?_)
          by_cases e : z = k
          · rw [e]
            rintro ⟨a1, a2, a3, a4⟩
            first | exact h22 a1 | exact h30 a2 | exact h38 a3 | exact h46 a4
          · exact hI z (by omega)
        · refine e_aload_n (dat d_F_showsOff 19 rfl) 2 rfl rfl ?_
          refine e_aload_n (dat d_F_showsOff 20 rfl) 0 rfl rfl ?_
          refine r_call (t_F_passesClear hW hC h7) c_F_passesClear (dat d_F_showsOff 21 rfl) rfl k_321 rfl rfl (by decide) (by omega) rfl (show 0 ≤ 8 by decide) ⟨show 2 ≤ 2 by decide, show 52 ≤ 60 by decide⟩ ⟨show 0 ≤ 0 by decide, show 0 ≤ 0 by decide⟩ ?_
          refine n_if_eq (dat d_F_showsOff 22 rfl) (tgt := 51) (by decide) if_lt (fun h38 => ?_) (fun h38 => ?_)
          · replace h38 := if_n h38
            refine n_iinc (q := 1) (dat d_F_showsOff 29 rfl) rfl (show 2 < 4 by decide) (lv2 := [(2, _), (3, _), (0, _), (1, _)]) rfl ?_
            refine e_goto (dat d_F_showsOff 30 rfl) (tgt := 2) (by decide) ?_
            refine e_lv [0, 2, 3] rfl ?_
            refine ih h7 (fun z hz => ?_)
            by_cases e : z = k
            · rw [e]
              rintro ⟨a1, a2, a3, a4⟩
              first | exact h22 a1 | exact h30 a2 | exact h38 a3 | exact h46 a4
            · exact hI z (by omega)
          · replace h38 := if_p h38
            refine e_aload_n (dat d_F_showsOff 23 rfl) 2 rfl rfl ?_
            refine e_aload_n (dat d_F_showsOff 24 rfl) 0 rfl rfl ?_
            refine r_call (t_F_pointsFound hW hC h7) c_F_pointsFound (dat d_F_showsOff 25 rfl) rfl k_355 rfl rfl (by decide) (by omega) rfl (show 0 ≤ 8 by decide) ⟨show 2 ≤ 2 by decide, show 53 ≤ 60 by decide⟩ ⟨show 0 ≤ 0 by decide, show 0 ≤ 0 by decide⟩ ?_
            refine n_if_eq (dat d_F_showsOff 26 rfl) (tgt := 51) (by decide) if_lt (fun h46 => ?_) (fun h46 => ?_)
            · replace h46 := if_n h46
              refine n_iinc (q := 1) (dat d_F_showsOff 29 rfl) rfl (show 2 < 4 by decide) (lv2 := [(2, _), (3, _), (0, _), (1, _)]) rfl ?_
              refine e_goto (dat d_F_showsOff 30 rfl) (tgt := 2) (by decide) ?_
              refine e_lv [0, 2, 3] rfl ?_
              refine ih h7 (fun z hz => ?_)
              by_cases e : z = k
              · rw [e]
                rintro ⟨a1, a2, a3, a4⟩
                first | exact h22 a1 | exact h30 a2 | exact h38 a3 | exact h46 a4
              · exact hI z (by omega)
            · replace h46 := if_p h46
              refine n_iconst (dat d_F_showsOff 27 rfl) 1 rfl ?_
              exact q_zret (dat d_F_showsOff 28 rfl) rfl (z01 (by decide)) (show 0 ≤ 0 by decide) (show 0 ≤ 0 by decide) ⟨by rw [if_neg (fun h => h k h7 ⟨h22, h30, h38, h46⟩)], rfl⟩
  refine n_iconst (dat d_F_showsOff 0 rfl) 0 rfl ?_
  refine e_istore_n (dat d_F_showsOff 1 rfl) rfl (show 2 < 4 by decide) (lv2 := [(2, _), (0, _), (1, _)]) rfl ?_
  exact L 0 (Nat.zero_le _) (fun j hj => absurd hj (Nat.not_lt_zero _))
theorem t_F_holderOfPass {E : wE} {m : wM} {f : wF} {w : Int64} {s : Nat} (hW : Wv m) (hC : Rc m f) (hs : s < 64) : Cq E i_F_holderOfPass 1 0 0 [.ref (wB E + 0), .int (nI s)] f w (fun v9 f9 => f9 = f ∧ ((∃ r, r < m 39 7 ∧ pasP m s r ∧ v9 = some (.int (nI r))) ∨ ((∀ r, r < m 39 7 → ¬ pasP m s r) ∧ v9 = some (.int (-1))))) (fun _ => False) := by
  have h12 := hW.S
  have h8 := hW.R
  refine cq_of rfl rfl rfl (show 2 ≤ 4 by decide) ?_
  have L : ∀ k, k ≤ m 39 7 → (∀ j, j < k → ¬ pasP m s j) → Ev E (jq E i_F_holderOfPass 1 0 0 f w (fun v9 f9 => f9 = f ∧ ((∃ r, r < m 39 7 ∧ pasP m s r ∧ v9 = some (.int (nI r))) ∨ ((∀ r, r < m 39 7 → ¬ pasP m s r) ∧ v9 = some (.int (-1))))) (fun _ => False)) 0 0 2 [(2, .int (nI k)), (0, .ref (wB E + 0)), (1, .int (nI s))] [] f g0 w 57 := by
    apply lp_ind
    intro k hk ih hI
    refine e_iload_n (dat d_F_holderOfPass 2 rfl) 0 rfl rfl ?_
    refine e_aload_n (dat d_F_holderOfPass 3 rfl) 1 rfl rfl ?_
    refine s_gF (dat d_F_holderOfPass 4 rfl) 3 k_105 (by decide) rfl rfl (cF3 hC) ?_
    refine n_icmp_ge (dat d_F_holderOfPass 5 rfl) (tgt := 60) (by decide) (by omega) (by omega) (fun h7 => ?_) (fun h7 => ?_)
    · refine e_iconst (v := -1) (dat d_F_holderOfPass 34 rfl) rfl ?_
      exact q_iret (dat d_F_holderOfPass 35 rfl) rfl (show 0 ≤ 0 by decide) (show 0 ≤ 0 by decide) ⟨rfl, Or.inr ⟨fun j hj => hI j (by omega), rfl⟩⟩
    · have h6 := hW.N h7
      refine e_aload_n (dat d_F_holderOfPass 6 rfl) 1 rfl rfl ?_
      refine s_qF (dat d_F_holderOfPass 7 rfl) 1 k_103 (by decide) rfl rfl rfl ?_
      refine e_iload_n (dat d_F_holderOfPass 8 rfl) 0 rfl rfl ?_
      refine s_aR (dat d_F_holderOfPass 9 rfl) rfl (by omega) ?_
      refine e_iload_n (dat d_F_holderOfPass 10 rfl) 2 rfl rfl ?_
      refine q_call (t_R_useOf hW hC h7 (by omega)) c_R_useOf (dat d_F_holderOfPass 11 rfl) rfl k_275 rfl (kd_R _ (by omega)) (by decide) (by omega) rfl (show 0 ≤ 8 by decide) ⟨show 1 ≤ 1 by decide, show 22 ≤ 30 by decide⟩ ⟨show 0 ≤ 0 by decide, show 0 ≤ 0 by decide⟩ (fun v9 f9 h9 => ?_) (fun X9 h9 => h9.elim)
      obtain ⟨rfl, ⟨j, hj, hj2, rfl⟩ | ⟨hn, rfl⟩⟩ := h9
      · refine e_istore_n (dat d_F_holderOfPass 12 rfl) rfl (show 3 < 4 by decide) (lv2 := [(3, _), (2, _), (0, _), (1, _)]) rfl ?_
        refine e_iload_n (dat d_F_holderOfPass 13 rfl) 0 rfl rfl ?_
        refine e_iconst (v := -1) (dat d_F_holderOfPass 14 rfl) rfl ?_
        refine e_icmp_eq (dat d_F_holderOfPass 15 rfl) (tgt := 54) (by decide) (fun h23 => ?_) (fun h23 => ?_)
        · exact absurd h23 (nI_m1 (by omega))
        · refine e_aload_n (dat d_F_holderOfPass 16 rfl) 2 rfl rfl ?_
          refine s_qF (dat d_F_holderOfPass 17 rfl) 1 k_103 (by decide) rfl rfl rfl ?_
          refine e_iload_n (dat d_F_holderOfPass 18 rfl) 1 rfl rfl ?_
          refine s_aR (dat d_F_holderOfPass 19 rfl) rfl (by omega) ?_
          refine e_iload_n (dat d_F_holderOfPass 20 rfl) 0 rfl rfl ?_
          refine r_call (t_R_isPass hW hC h7 hj) c_R_isPass (dat d_F_holderOfPass 21 rfl) rfl k_325 rfl (kd_R _ (by omega)) (by decide) (by omega) rfl (show 0 ≤ 8 by decide) ⟨show 1 ≤ 1 by decide, show 21 ≤ 30 by decide⟩ ⟨show 0 ≤ 0 by decide, show 0 ≤ 0 by decide⟩ ?_
          refine n_if_eq (dat d_F_holderOfPass 22 rfl) (tgt := 54) (by decide) if_lt (fun h36 => ?_) (fun h36 => ?_)
          · replace h36 := if_n h36
            refine n_iinc (q := 1) (dat d_F_holderOfPass 32 rfl) rfl (show 2 < 4 by decide) (lv2 := [(2, _), (3, _), (0, _), (1, _)]) rfl ?_
            refine e_goto (dat d_F_holderOfPass 33 rfl) (tgt := 2) (by decide) ?_
            refine e_lv [0, 2, 3] rfl ?_
            refine ih h7 (fun z hz => ?_)
            by_cases e : z = k
            · rw [e]
              intro h
              refine h (fun i hi he hp => ?_)
              first
                | exact absurd he (hn i hi)
                | (have e9 := hW.D k i j h7 hi hj (he.trans hj2.symm)
                   subst e9
                   first | exact absurd hp h36 | omega)
            · exact hI z (by omega)
          · replace h36 := if_p h36
            refine e_aload_n (dat d_F_holderOfPass 23 rfl) 2 rfl rfl ?_
            refine s_qF (dat d_F_holderOfPass 24 rfl) 1 k_103 (by decide) rfl rfl rfl ?_
            refine e_iload_n (dat d_F_holderOfPass 25 rfl) 1 rfl rfl ?_
            refine s_aR (dat d_F_holderOfPass 26 rfl) rfl (by omega) ?_
            refine e_iload_n (dat d_F_holderOfPass 27 rfl) 0 rfl rfl ?_
            refine r_call (t_R_holds hW hC h7 hj) c_R_holds (dat d_F_holderOfPass 28 rfl) rfl k_386 rfl (kd_R _ (by omega)) (by decide) (by omega) rfl (show 0 ≤ 8 by decide) ⟨show 1 ≤ 1 by decide, show 21 ≤ 30 by decide⟩ ⟨show 0 ≤ 0 by decide, show 0 ≤ 0 by decide⟩ ?_
            refine n_if_eq (dat d_F_holderOfPass 29 rfl) (tgt := 54) (by decide) (lt64 (hW.b _ _)) (fun h49 => ?_) (fun h49 => ?_)
            · refine n_iinc (q := 1) (dat d_F_holderOfPass 32 rfl) rfl (show 2 < 4 by decide) (lv2 := [(2, _), (3, _), (0, _), (1, _)]) rfl ?_
              refine e_goto (dat d_F_holderOfPass 33 rfl) (tgt := 2) (by decide) ?_
              refine e_lv [0, 2, 3] rfl ?_
              refine ih h7 (fun z hz => ?_)
              by_cases e : z = k
              · rw [e]
                intro h
                refine h (fun i hi he hp => ?_)
                first
                  | exact absurd he (hn i hi)
                  | (have e9 := hW.D k i j h7 hi hj (he.trans hj2.symm)
                     subst e9
                     first | exact absurd hp h36 | omega)
              · exact hI z (by omega)
            · refine e_iload_n (dat d_F_holderOfPass 30 rfl) 1 rfl rfl ?_
              exact q_iret (dat d_F_holderOfPass 31 rfl) rfl (show 0 ≤ 0 by decide) (show 0 ≤ 0 by decide) ⟨rfl, Or.inl ⟨k, h7, fun h => h j hj hj2 h36 (by have := (hW.o (6 * k + j)).2.2.2.2.1; omega), rfl⟩⟩
      · refine e_istore_n (dat d_F_holderOfPass 12 rfl) rfl (show 3 < 4 by decide) (lv2 := [(3, _), (2, _), (0, _), (1, _)]) rfl ?_
        refine e_iload_n (dat d_F_holderOfPass 13 rfl) 0 rfl rfl ?_
        refine e_iconst (v := -1) (dat d_F_holderOfPass 14 rfl) rfl ?_
        refine e_icmp_eq (dat d_F_holderOfPass 15 rfl) (tgt := 54) (by decide) (fun h23 => ?_) (fun h23 => ?_)
        · refine n_iinc (q := 1) (dat d_F_holderOfPass 32 rfl) rfl (show 2 < 4 by decide) (lv2 := [(2, _), (3, _), (0, _), (1, _)]) rfl ?_
          refine e_goto (dat d_F_holderOfPass 33 rfl) (tgt := 2) (by decide) ?_
          refine e_lv [0, 2, 3] rfl ?_
          refine ih h7 (fun z hz => ?_)
          by_cases e : z = k
          · rw [e]
            intro h
            refine h (fun i hi he hp => ?_)
            first
              | exact absurd he (hn i hi)
              | (have e9 := hW.D k i j h7 hi hj (he.trans hj2.symm)
                 subst e9
                 first | exact absurd hp h36 | omega)
          · exact hI z (by omega)
        · exact absurd rfl h23
  refine n_iconst (dat d_F_holderOfPass 0 rfl) 0 rfl ?_
  refine e_istore_n (dat d_F_holderOfPass 1 rfl) rfl (show 2 < 4 by decide) (lv2 := [(2, _), (0, _), (1, _)]) rfl ?_
  exact L 0 (Nat.zero_le _) (fun j hj => absurd hj (Nat.not_lt_zero _))
theorem t_F_holdersOfFlank {E : wE} {m : wM} {f : wF} {w : Int64} {s : Nat} (hW : Wv m) (hC : Rc m f) (hs : s < 64) : Cr E i_F_holdersOfFlank 1 [.ref (wB E + 0), .int (nI s)] f w (some (.int (nI (bts (fun r => if flaP m s r then 1 else 0) (m 39 7))))) f := by
  have h12 := hW.S
  have h8 := hW.R
  refine cr_of rfl rfl rfl (show 2 ≤ 5 by decide) ?_
  have L : ∀ k, k ≤ m 39 7 → Ev E (jr E i_F_holdersOfFlank 1 f w (some (.int (nI (bts (fun r => if flaP m s r then 1 else 0) (m 39 7))))) f) 0 0 4 [(3, .int (nI k)), (2, .int (nI (bts (fun r => if flaP m s r then 1 else 0) k))), (0, .ref (wB E + 0)), (1, .int (nI s))] [] f g0 w 57 := by
    apply lp_ind
    intro k hk ih
    refine e_iload_n (dat d_F_holdersOfFlank 4 rfl) 0 rfl rfl ?_
    refine e_aload_n (dat d_F_holdersOfFlank 5 rfl) 2 rfl rfl ?_
    refine s_gF (dat d_F_holdersOfFlank 6 rfl) 3 k_105 (by decide) rfl rfl (cF3 hC) ?_
    refine n_icmp_ge (dat d_F_holdersOfFlank 7 rfl) (tgt := 70) (by decide) (by omega) (by omega) (fun h9 => ?_) (fun h9 => ?_)
    · refine e_iload_n (dat d_F_holdersOfFlank 40 rfl) 1 rfl rfl ?_
      exact q_iret (dat d_F_holdersOfFlank 41 rfl) rfl (show 0 ≤ 0 by decide) (show 0 ≤ 0 by decide) ⟨by rw [show k = m 39 7 by omega], rfl⟩
    · have h6 := hW.N h9
      have hB : bts (fun r => if flaP m s r then 1 else 0) k < 2 ^ k := bts_lt (fun j => by split <;> decide) k
      refine e_aload_n (dat d_F_holdersOfFlank 8 rfl) 2 rfl rfl ?_
      refine s_qF (dat d_F_holdersOfFlank 9 rfl) 1 k_103 (by decide) rfl rfl rfl ?_
      refine e_iload_n (dat d_F_holdersOfFlank 10 rfl) 0 rfl rfl ?_
      refine s_aR (dat d_F_holdersOfFlank 11 rfl) rfl (by omega) ?_
      refine e_iload_n (dat d_F_holdersOfFlank 12 rfl) 3 rfl rfl ?_
      refine q_call (t_R_useOf hW hC h9 (by omega)) c_R_useOf (dat d_F_holdersOfFlank 13 rfl) rfl k_275 rfl (kd_R _ (by omega)) (by decide) (by omega) rfl (show 0 ≤ 8 by decide) ⟨show 1 ≤ 1 by decide, show 22 ≤ 30 by decide⟩ ⟨show 0 ≤ 0 by decide, show 0 ≤ 0 by decide⟩ (fun v9 f9 h9 => ?_) (fun X9 h9 => h9.elim)
      obtain ⟨rfl, ⟨j, hj, hj2, rfl⟩ | ⟨hn, rfl⟩⟩ := h9
      · refine e_istore (dat d_F_holdersOfFlank 14 rfl) (show 4 < 5 by decide) (lv2 := [(4, _), (3, _), (2, _), (0, _), (1, _)]) rfl ?_
        refine e_iload (dat d_F_holdersOfFlank 15 rfl) 0 rfl ?_
        refine e_iconst (v := -1) (dat d_F_holdersOfFlank 16 rfl) rfl ?_
        refine e_icmp_eq (dat d_F_holdersOfFlank 17 rfl) (tgt := 64) (by decide) (fun h27 => ?_) (fun h27 => ?_)
        · exact absurd h27 (nI_m1 (by omega))
        · refine e_aload_n (dat d_F_holdersOfFlank 18 rfl) 3 rfl rfl ?_
          refine s_qF (dat d_F_holdersOfFlank 19 rfl) 1 k_103 (by decide) rfl rfl rfl ?_
          refine e_iload_n (dat d_F_holdersOfFlank 20 rfl) 1 rfl rfl ?_
          refine s_aR (dat d_F_holdersOfFlank 21 rfl) rfl (by omega) ?_
          refine e_iload (dat d_F_holdersOfFlank 22 rfl) 0 rfl ?_
          refine r_call (t_R_isPass hW hC h9 hj) c_R_isPass (dat d_F_holdersOfFlank 23 rfl) rfl k_325 rfl (kd_R _ (by omega)) (by decide) (by omega) rfl (show 0 ≤ 8 by decide) ⟨show 1 ≤ 1 by decide, show 21 ≤ 30 by decide⟩ ⟨show 0 ≤ 0 by decide, show 0 ≤ 0 by decide⟩ ?_
          refine n_if_ne (dat d_F_holdersOfFlank 24 rfl) (tgt := 64) (by decide) if_lt (fun h41 => ?_) (fun h41 => ?_)
          · replace h41 := if_p h41
            refine n_iinc (q := 1) (dat d_F_holdersOfFlank 38 rfl) rfl (show 3 < 5 by decide) (lv2 := [(3, _), (4, _), (2, _), (0, _), (1, _)]) rfl ?_
            refine e_goto (dat d_F_holdersOfFlank 39 rfl) (tgt := 4) (by decide) ?_
            refine e_lv [0, 2, 3, 4] rfl ?_
            have e9 : bts (fun r => if flaP m s r then 1 else 0) (k + 1) = bts (fun r => if flaP m s r then 1 else 0) k := by
              rw [bts_s, if_neg, Nat.zero_mul, Nat.add_zero]
              intro h
              refine h (fun i hi he hp => ?_)
              first
                | exact absurd he (hn i hi)
                | (have e9 := hW.D k i j h9 hi hj (he.trans hj2.symm)
                   subst e9
                   first | exact absurd h41 hp | omega)
            rw [← e9]
            exact ih h9
          · replace h41 := if_n h41
            refine e_aload_n (dat d_F_holdersOfFlank 25 rfl) 3 rfl rfl ?_
            refine s_qF (dat d_F_holdersOfFlank 26 rfl) 1 k_103 (by decide) rfl rfl rfl ?_
            refine e_iload_n (dat d_F_holdersOfFlank 27 rfl) 1 rfl rfl ?_
            refine s_aR (dat d_F_holdersOfFlank 28 rfl) rfl (by omega) ?_
            refine e_iload (dat d_F_holdersOfFlank 29 rfl) 0 rfl ?_
            refine r_call (t_R_holds hW hC h9 hj) c_R_holds (dat d_F_holdersOfFlank 30 rfl) rfl k_386 rfl (kd_R _ (by omega)) (by decide) (by omega) rfl (show 0 ≤ 8 by decide) ⟨show 1 ≤ 1 by decide, show 21 ≤ 30 by decide⟩ ⟨show 0 ≤ 0 by decide, show 0 ≤ 0 by decide⟩ ?_
            refine n_if_eq (dat d_F_holdersOfFlank 31 rfl) (tgt := 64) (by decide) (lt64 (hW.b _ _)) (fun h55 => ?_) (fun h55 => ?_)
            · refine n_iinc (q := 1) (dat d_F_holdersOfFlank 38 rfl) rfl (show 3 < 5 by decide) (lv2 := [(3, _), (4, _), (2, _), (0, _), (1, _)]) rfl ?_
              refine e_goto (dat d_F_holdersOfFlank 39 rfl) (tgt := 4) (by decide) ?_
              refine e_lv [0, 2, 3, 4] rfl ?_
              have e9 : bts (fun r => if flaP m s r then 1 else 0) (k + 1) = bts (fun r => if flaP m s r then 1 else 0) k := by
                rw [bts_s, if_neg, Nat.zero_mul, Nat.add_zero]
                intro h
                refine h (fun i hi he hp => ?_)
                first
                  | exact absurd he (hn i hi)
                  | (have e9 := hW.D k i j h9 hi hj (he.trans hj2.symm)
                     subst e9
                     first | exact absurd h41 hp | omega)
              rw [← e9]
              exact ih h9
            · refine e_iload_n (dat d_F_holdersOfFlank 32 rfl) 2 rfl rfl ?_
              refine n_iconst (dat d_F_holdersOfFlank 33 rfl) 1 rfl ?_
              refine e_iload_n (dat d_F_holdersOfFlank 34 rfl) 1 rfl rfl ?_
              refine e_ishl (dat d_F_holdersOfFlank 35 rfl) ?_
              refine e_ior (dat d_F_holdersOfFlank 36 rfl) ?_
              refine e_istore_n (dat d_F_holdersOfFlank 37 rfl) rfl (show 2 < 5 by decide) (lv2 := [(2, _), (4, _), (3, _), (0, _), (1, _)]) rfl ?_
              refine n_iinc (q := 2) (dat d_F_holdersOfFlank 38 rfl) rfl (show 3 < 5 by decide) (lv2 := [(3, _), (2, _), (4, _), (0, _), (1, _)]) rfl ?_
              refine e_goto (dat d_F_holdersOfFlank 39 rfl) (tgt := 4) (by decide) ?_
              refine e_lv [0, 1, 3, 4] rfl ?_
              have e9 : bts (fun r => if flaP m s r then 1 else 0) (k + 1) = bts (fun r => if flaP m s r then 1 else 0) k + 2 ^ k := by
                rw [bts_s, if_pos (fun h => h j hj hj2 h41 (by have := (hW.o (6 * k + j)).2.2.2.2.1; omega)), Nat.one_mul]
              rw [i_set8 k (by omega) _ hB, ← e9]
              exact ih h9
      · refine e_istore (dat d_F_holdersOfFlank 14 rfl) (show 4 < 5 by decide) (lv2 := [(4, _), (3, _), (2, _), (0, _), (1, _)]) rfl ?_
        refine e_iload (dat d_F_holdersOfFlank 15 rfl) 0 rfl ?_
        refine e_iconst (v := -1) (dat d_F_holdersOfFlank 16 rfl) rfl ?_
        refine e_icmp_eq (dat d_F_holdersOfFlank 17 rfl) (tgt := 64) (by decide) (fun h27 => ?_) (fun h27 => ?_)
        · refine n_iinc (q := 1) (dat d_F_holdersOfFlank 38 rfl) rfl (show 3 < 5 by decide) (lv2 := [(3, _), (4, _), (2, _), (0, _), (1, _)]) rfl ?_
          refine e_goto (dat d_F_holdersOfFlank 39 rfl) (tgt := 4) (by decide) ?_
          refine e_lv [0, 2, 3, 4] rfl ?_
          have e9 : bts (fun r => if flaP m s r then 1 else 0) (k + 1) = bts (fun r => if flaP m s r then 1 else 0) k := by
            rw [bts_s, if_neg, Nat.zero_mul, Nat.add_zero]
            intro h
            refine h (fun i hi he hp => ?_)
            first
              | exact absurd he (hn i hi)
              | (have e9 := hW.D k i j h9 hi hj (he.trans hj2.symm)
                 subst e9
                 first | exact absurd h41 hp | omega)
          rw [← e9]
          exact ih h9
        · exact absurd rfl h27
  refine n_iconst (dat d_F_holdersOfFlank 0 rfl) 0 rfl ?_
  refine e_istore_n (dat d_F_holdersOfFlank 1 rfl) rfl (show 2 < 5 by decide) (lv2 := [(2, _), (0, _), (1, _)]) rfl ?_
  refine n_iconst (dat d_F_holdersOfFlank 2 rfl) 0 rfl ?_
  refine e_istore_n (dat d_F_holdersOfFlank 3 rfl) rfl (show 3 < 5 by decide) (lv2 := [(3, _), (2, _), (0, _), (1, _)]) rfl ?_
  exact L 0 (Nat.zero_le _)
