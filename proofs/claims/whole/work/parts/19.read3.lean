theorem bts_zero {h : Nat → Nat} : ∀ {K : Nat}, bts h K = 0 ↔ ∀ k, k < K → h k = 0 := by
  intro K
  induction K with
  | zero => exact ⟨fun _ k hk => absurd hk (Nat.not_lt_zero _), fun _ => rfl⟩
  | succ K ih =>
    rw [bts_s, Nat.add_eq_zero_iff, ih]
    constructor
    · rintro ⟨h1, h2⟩ k hk
      by_cases e : k = K
      · rw [e]
        rcases Nat.mul_eq_zero.mp h2 with h3 | h3
        · exact h3
        · exact absurd h3 (Nat.pos_iff_ne_zero.mp (Nat.two_pow_pos K))
      · exact h1 k (by omega)
    · intro h1
      refine ⟨fun k hk => h1 k (by omega), ?_⟩
      rw [h1 K (by omega), Nat.zero_mul]
abbrev fitP (m : wM) (x : Int32) (i : Nat) : Prop := ¬ x < 0 ∧ x ≤ nI 4 ∧ (m 40 i = 0 ↔ x = 0)
abbrev hldP (m : wM) (s : Nat) : Prop := ¬ ∀ r, r < m 39 7 → ¬ pasP m s r ∧ ¬ flaP m s r
theorem vr1 {P : Prop} {d : Decidable P} (h : P) : some (Value.int (nI 1)) = some (Value.int (nI (@ite Nat P d 1 0))) := by rw [if_pos h]
theorem vr0 {P : Prop} {d : Decidable P} (h : ¬ P) : some (Value.int (nI 0)) = some (Value.int (nI (@ite Nat P d 1 0))) := by rw [if_neg h]
theorem wr0 {P : Prop} {d : Decidable P} (h : P) : some (Value.int (nI 0)) = some (Value.int (nI (@ite Nat P d 0 1))) := by rw [if_pos h]
theorem wr1 {P : Prop} {d : Decidable P} (h : ¬ P) : some (Value.int (nI 1)) = some (Value.int (nI (@ite Nat P d 0 1))) := by rw [if_neg h]
theorem t_F_fits {E : wE} {m : wM} {f : wF} {w : Int64} {x : Int32} {i : Nat} (hW : Wv m) (hC : Rc m f) (hi : i < m 39 1) : Cr E i_F_fits 0 [.int x, .ref (wB E + (2 + i))] f w (some (.int (nI (@ite Nat (fitP m x i) (Classical.propDecidable _) 1 0)))) f := by
  have h12 := hW.S
  have h8 := hW.R
  refine cr_of rfl rfl rfl (show 2 ≤ 2 by decide) ?_
  refine e_iload_n (dat d_F_fits 0 rfl) 0 rfl rfl ?_
  refine e_if_lt (dat d_F_fits 1 rfl) (tgt := 9) (by decide) (fun h1 => ?_) (fun h1 => ?_)
  · refine n_iconst (dat d_F_fits 5 rfl) 0 rfl ?_
    exact q_zret (dat d_F_fits 6 rfl) rfl (z01 (by decide)) (show 0 ≤ 0 by decide) (show 0 ≤ 0 by decide) ⟨by first | exact vr0 (fun h => h.1 h1) | exact vr0 (fun h => h6 h.2.1), rfl⟩
  · refine e_iload_n (dat d_F_fits 2 rfl) 0 rfl rfl ?_
    refine n_iconst (dat d_F_fits 3 rfl) 4 rfl ?_
    refine e_icmp_le (dat d_F_fits 4 rfl) (tgt := 11) (by decide) (fun h6 => ?_) (fun h6 => ?_)
    · refine e_aload_n (dat d_F_fits 7 rfl) 1 rfl rfl ?_
      refine s_gS (dat d_F_fits 8 rfl) 0 k_27 (by decide) rfl rfl (by omega) (cS0 hC (by omega)) ?_
      refine e_iload_n (dat d_F_fits 9 rfl) 0 rfl rfl ?_
      refine e_if_eq (dat d_F_fits 10 rfl) (tgt := 23) (by decide) (fun h16 => ?_) (fun h16 => ?_)
      · refine n_iconst (dat d_F_fits 13 rfl) 0 rfl ?_
        refine n_icmp_ne (dat d_F_fits 14 rfl) (tgt := 31) (by decide) (lt64 (hW.b _ _)) (by decide) (fun h24 => ?_) (fun h24 => ?_)
        · refine n_iconst (dat d_F_fits 17 rfl) 0 rfl ?_
          exact q_zret (dat d_F_fits 18 rfl) rfl (z01 (by decide)) (show 0 ≤ 0 by decide) (show 0 ≤ 0 by decide) ⟨by first | exact vr1 ⟨h1, h6, fun _ => h16, fun _ => h24⟩ | exact vr0 (fun h => h24 (h.2.2.mpr h16)) | exact vr1 ⟨h1, h6, fun h => absurd h (by omega), fun h => absurd h h16⟩ | exact vr0 (fun h => h16 (h.2.2.mp (by have := (hW.o i).1; omega))), rfl⟩
        · refine n_iconst (dat d_F_fits 15 rfl) 1 rfl ?_
          refine e_goto (dat d_F_fits 16 rfl) (tgt := 32) (by decide) ?_
          exact q_zret (dat d_F_fits 18 rfl) rfl (z01 (by decide)) (show 0 ≤ 0 by decide) (show 0 ≤ 0 by decide) ⟨by first | exact vr1 ⟨h1, h6, fun _ => h16, fun _ => h24⟩ | exact vr0 (fun h => h24 (h.2.2.mpr h16)) | exact vr1 ⟨h1, h6, fun h => absurd h (by omega), fun h => absurd h h16⟩ | exact vr0 (fun h => h16 (h.2.2.mp (by have := (hW.o i).1; omega))), rfl⟩
      · refine n_iconst (dat d_F_fits 11 rfl) 1 rfl ?_
        refine e_goto (dat d_F_fits 12 rfl) (tgt := 24) (by decide) ?_
        refine n_icmp_ne (dat d_F_fits 14 rfl) (tgt := 31) (by decide) (lt64 (hW.b _ _)) (by decide) (fun h24 => ?_) (fun h24 => ?_)
        · refine n_iconst (dat d_F_fits 17 rfl) 0 rfl ?_
          exact q_zret (dat d_F_fits 18 rfl) rfl (z01 (by decide)) (show 0 ≤ 0 by decide) (show 0 ≤ 0 by decide) ⟨by first | exact vr1 ⟨h1, h6, fun _ => h16, fun _ => h24⟩ | exact vr0 (fun h => h24 (h.2.2.mpr h16)) | exact vr1 ⟨h1, h6, fun h => absurd h (by omega), fun h => absurd h h16⟩ | exact vr0 (fun h => h16 (h.2.2.mp (by have := (hW.o i).1; omega))), rfl⟩
        · refine n_iconst (dat d_F_fits 15 rfl) 1 rfl ?_
          refine e_goto (dat d_F_fits 16 rfl) (tgt := 32) (by decide) ?_
          exact q_zret (dat d_F_fits 18 rfl) rfl (z01 (by decide)) (show 0 ≤ 0 by decide) (show 0 ≤ 0 by decide) ⟨by first | exact vr1 ⟨h1, h6, fun _ => h16, fun _ => h24⟩ | exact vr0 (fun h => h24 (h.2.2.mpr h16)) | exact vr1 ⟨h1, h6, fun h => absurd h (by omega), fun h => absurd h h16⟩ | exact vr0 (fun h => h16 (h.2.2.mp (by have := (hW.o i).1; omega))), rfl⟩
    · refine n_iconst (dat d_F_fits 5 rfl) 0 rfl ?_
      exact q_zret (dat d_F_fits 6 rfl) rfl (z01 (by decide)) (show 0 ≤ 0 by decide) (show 0 ≤ 0 by decide) ⟨by first | exact vr0 (fun h => h.1 h1) | exact vr0 (fun h => h6 h.2.1), rfl⟩
theorem t_F_anotherStandsAgainst {E : wE} {m : wM} {f : wF} {w : Int64} {r : Nat} (hW : Wv m) (hC : Rc m f) (hr : r < m 39 7) : Cr E i_F_anotherStandsAgainst 2 [.ref (wB E + 0), .ref (wB E + (15 + 3 * r))] f w (some (.int (nI (@ite Nat (∀ q, q < m 39 7 → ¬ ((m 48 q = 1 ∨ m 48 q = 3) ∧ m 45 q = m 45 r) ∧ ¬ disP m (hld m q) q r) (Classical.propDecidable _) 0 1)))) f := by
  have h12 := hW.S
  have h8 := hW.R
  have h6 := hW.N hr
  refine cr_of rfl rfl rfl (show 2 ≤ 5 by decide) ?_
  have L : ∀ k, k ≤ m 39 7 → (∀ j, j < k → ¬ ((m 48 j = 1 ∨ m 48 j = 3) ∧ m 45 j = m 45 r) ∧ ¬ disP m (hld m j) j r) → Ev E (jr E i_F_anotherStandsAgainst 2 f w (some (.int (nI (@ite Nat (∀ q, q < m 39 7 → ¬ ((m 48 q = 1 ∨ m 48 q = 3) ∧ m 45 q = m 45 r) ∧ ¬ disP m (hld m q) q r) (Classical.propDecidable _) 0 1)))) f) 0 0 2 [(2, .int (nI k)), (0, .ref (wB E + 0)), (1, .ref (wB E + (15 + 3 * r)))] [] f g0 w 57 := by
    apply lp_ind
    intro k hk ih hI
    refine e_iload_n (dat d_F_anotherStandsAgainst 2 rfl) 0 rfl rfl ?_
    refine e_aload_n (dat d_F_anotherStandsAgainst 3 rfl) 1 rfl rfl ?_
    refine s_gF (dat d_F_anotherStandsAgainst 4 rfl) 3 k_105 (by decide) rfl rfl (cF3 hC) ?_
    refine n_icmp_ge (dat d_F_anotherStandsAgainst 5 rfl) (tgt := 78) (by decide) (by omega) (by omega) (fun h7 => ?_) (fun h7 => ?_)
    · refine n_iconst (dat d_F_anotherStandsAgainst 42 rfl) 0 rfl ?_
      exact q_zret (dat d_F_anotherStandsAgainst 43 rfl) rfl (z01 (by decide)) (show 0 ≤ 0 by decide) (show 0 ≤ 0 by decide) ⟨by rw [if_pos (fun j hj => hI j (by omega))], rfl⟩
    · refine e_aload_n (dat d_F_anotherStandsAgainst 6 rfl) 1 rfl rfl ?_
      refine s_qF (dat d_F_anotherStandsAgainst 7 rfl) 1 k_103 (by decide) rfl rfl rfl ?_
      refine e_iload_n (dat d_F_anotherStandsAgainst 8 rfl) 0 rfl rfl ?_
      refine s_aR (dat d_F_anotherStandsAgainst 9 rfl) rfl (by omega) ?_
      refine e_astore_n (dat d_F_anotherStandsAgainst 10 rfl) rfl (show 3 < 5 by decide) (lv2 := [(3, _), (2, _), (0, _), (1, _)]) rfl ?_
      refine e_aload_n (dat d_F_anotherStandsAgainst 11 rfl) 0 rfl rfl ?_
      refine s_gR (dat d_F_anotherStandsAgainst 12 rfl) 6 k_68 (by decide) rfl rfl (by omega) (cR6 hC (by omega)) ?_
      refine n_iconst (dat d_F_anotherStandsAgainst 13 rfl) 1 rfl ?_
      refine n_icmp_eq (dat d_F_anotherStandsAgainst 14 rfl) (tgt := 33) (by decide) (lt64 (hW.b _ _)) (by decide) (fun h22 => ?_) (fun h22 => ?_)
      · refine n_iconst (dat d_F_anotherStandsAgainst 19 rfl) 1 rfl ?_
        refine e_goto (dat d_F_anotherStandsAgainst 20 rfl) (tgt := 38) (by decide) ?_
        refine e_istore (dat d_F_anotherStandsAgainst 22 rfl) (show 4 < 5 by decide) (lv2 := [(4, _), (3, _), (2, _), (0, _), (1, _)]) rfl ?_
        refine e_iload (dat d_F_anotherStandsAgainst 23 rfl) 0 rfl ?_
        refine n_if_eq (dat d_F_anotherStandsAgainst 24 rfl) (tgt := 58) (by decide) (by omega) (fun h42 => ?_) (fun h42 => ?_)
        · first | exact absurd rfl h42 | exact absurd h42 (by decide)
        · refine e_aload_n (dat d_F_anotherStandsAgainst 25 rfl) 1 rfl rfl ?_
          refine s_gR (dat d_F_anotherStandsAgainst 26 rfl) 3 k_64 (by decide) rfl rfl (by omega) (cR3 hC (by omega)) ?_
          refine e_aload_n (dat d_F_anotherStandsAgainst 27 rfl) 4 rfl rfl ?_
          refine s_gR (dat d_F_anotherStandsAgainst 28 rfl) 3 k_64 (by decide) rfl rfl (by omega) (cR3 hC (by omega)) ?_
          refine n_icmp_ne (dat d_F_anotherStandsAgainst 29 rfl) (tgt := 58) (by decide) (lt64 (hW.b _ _)) (lt64 (hW.b _ _)) (fun h53 => ?_) (fun h53 => ?_)
          · refine e_aload_n (dat d_F_anotherStandsAgainst 32 rfl) 1 rfl rfl ?_
            refine e_aload_n (dat d_F_anotherStandsAgainst 33 rfl) 1 rfl rfl ?_
            refine s_gR (dat d_F_anotherStandsAgainst 34 rfl) 9 k_75 (by decide) rfl rfl (by omega) (cR9 hC (by omega)) ?_
            refine e_aload_n (dat d_F_anotherStandsAgainst 35 rfl) 4 rfl rfl ?_
            refine r_call (t_R_disagrees hW hC h7 hr (hW.hb h7)) c_R_disagrees (dat d_F_anotherStandsAgainst 36 rfl) rfl k_312 rfl (kd_R _ (by omega)) (by decide) (by omega) rfl (show 0 ≤ 8 by decide) ⟨show 2 ≤ 2 by decide, show 55 ≤ 60 by decide⟩ ⟨show 0 ≤ 0 by decide, show 0 ≤ 0 by decide⟩ ?_
            refine n_if_eq (dat d_F_anotherStandsAgainst 37 rfl) (tgt := 72) (by decide) if_lt0 (fun h67 => ?_) (fun h67 => ?_)
            · replace h67 := if_n0 h67
              refine n_iinc (q := 2) (dat d_F_anotherStandsAgainst 40 rfl) rfl (show 2 < 5 by decide) (lv2 := [(2, _), (4, _), (3, _), (0, _), (1, _)]) rfl ?_
              refine e_goto (dat d_F_anotherStandsAgainst 41 rfl) (tgt := 2) (by decide) ?_
              refine e_lv [0, 3, 4] rfl ?_
              refine ih h7 (fun z hz => ?_)
              by_cases e : z = k
              · rw [e]
                refine ⟨?_, fun h => h h67⟩
                rintro ⟨a1, a2⟩
                first
                  | exact h53 a2
                  | (rcases a1 with a1 | a1
                     · exact h22 a1
                     · exact h30 a1)
              · exact hI z (by omega)
            · replace h67 := if_p0 h67
              refine n_iconst (dat d_F_anotherStandsAgainst 38 rfl) 1 rfl ?_
              exact q_zret (dat d_F_anotherStandsAgainst 39 rfl) rfl (z01 (by decide)) (show 0 ≤ 0 by decide) (show 0 ≤ 0 by decide) ⟨by rw [if_neg (fun h => (h k h7).2 h67)], rfl⟩
          · refine n_iconst (dat d_F_anotherStandsAgainst 30 rfl) 1 rfl ?_
            exact q_zret (dat d_F_anotherStandsAgainst 31 rfl) rfl (z01 (by decide)) (show 0 ≤ 0 by decide) (show 0 ≤ 0 by decide) ⟨by rw [if_neg (fun h => (h k h7).1 ⟨by first | exact Or.inl h22 | exact Or.inr h30, h53⟩)], rfl⟩
      · refine e_aload_n (dat d_F_anotherStandsAgainst 15 rfl) 0 rfl rfl ?_
        refine s_gR (dat d_F_anotherStandsAgainst 16 rfl) 6 k_68 (by decide) rfl rfl (by omega) (cR6 hC (by omega)) ?_
        refine n_iconst (dat d_F_anotherStandsAgainst 17 rfl) 3 rfl ?_
        refine n_icmp_ne (dat d_F_anotherStandsAgainst 18 rfl) (tgt := 37) (by decide) (lt64 (hW.b _ _)) (by decide) (fun h30 => ?_) (fun h30 => ?_)
        · refine n_iconst (dat d_F_anotherStandsAgainst 21 rfl) 0 rfl ?_
          refine e_istore (dat d_F_anotherStandsAgainst 22 rfl) (show 4 < 5 by decide) (lv2 := [(4, _), (3, _), (2, _), (0, _), (1, _)]) rfl ?_
          refine e_iload (dat d_F_anotherStandsAgainst 23 rfl) 0 rfl ?_
          refine n_if_eq (dat d_F_anotherStandsAgainst 24 rfl) (tgt := 58) (by decide) (by omega) (fun h42 => ?_) (fun h42 => ?_)
          · refine e_aload_n (dat d_F_anotherStandsAgainst 32 rfl) 1 rfl rfl ?_
            refine e_aload_n (dat d_F_anotherStandsAgainst 33 rfl) 1 rfl rfl ?_
            refine s_gR (dat d_F_anotherStandsAgainst 34 rfl) 9 k_75 (by decide) rfl rfl (by omega) (cR9 hC (by omega)) ?_
            refine e_aload_n (dat d_F_anotherStandsAgainst 35 rfl) 4 rfl rfl ?_
            refine r_call (t_R_disagrees hW hC h7 hr (hW.hb h7)) c_R_disagrees (dat d_F_anotherStandsAgainst 36 rfl) rfl k_312 rfl (kd_R _ (by omega)) (by decide) (by omega) rfl (show 0 ≤ 8 by decide) ⟨show 2 ≤ 2 by decide, show 55 ≤ 60 by decide⟩ ⟨show 0 ≤ 0 by decide, show 0 ≤ 0 by decide⟩ ?_
            refine n_if_eq (dat d_F_anotherStandsAgainst 37 rfl) (tgt := 72) (by decide) if_lt0 (fun h67 => ?_) (fun h67 => ?_)
            · replace h67 := if_n0 h67
              refine n_iinc (q := 2) (dat d_F_anotherStandsAgainst 40 rfl) rfl (show 2 < 5 by decide) (lv2 := [(2, _), (4, _), (3, _), (0, _), (1, _)]) rfl ?_
              refine e_goto (dat d_F_anotherStandsAgainst 41 rfl) (tgt := 2) (by decide) ?_
              refine e_lv [0, 3, 4] rfl ?_
              refine ih h7 (fun z hz => ?_)
              by_cases e : z = k
              · rw [e]
                refine ⟨?_, fun h => h h67⟩
                rintro ⟨a1, a2⟩
                first
                  | exact h53 a2
                  | (rcases a1 with a1 | a1
                     · exact h22 a1
                     · exact h30 a1)
              · exact hI z (by omega)
            · replace h67 := if_p0 h67
              refine n_iconst (dat d_F_anotherStandsAgainst 38 rfl) 1 rfl ?_
              exact q_zret (dat d_F_anotherStandsAgainst 39 rfl) rfl (z01 (by decide)) (show 0 ≤ 0 by decide) (show 0 ≤ 0 by decide) ⟨by rw [if_neg (fun h => (h k h7).2 h67)], rfl⟩
          · first | exact absurd rfl h42 | exact absurd h42 (by decide)
        · refine n_iconst (dat d_F_anotherStandsAgainst 19 rfl) 1 rfl ?_
          refine e_goto (dat d_F_anotherStandsAgainst 20 rfl) (tgt := 38) (by decide) ?_
          refine e_istore (dat d_F_anotherStandsAgainst 22 rfl) (show 4 < 5 by decide) (lv2 := [(4, _), (3, _), (2, _), (0, _), (1, _)]) rfl ?_
          refine e_iload (dat d_F_anotherStandsAgainst 23 rfl) 0 rfl ?_
          refine n_if_eq (dat d_F_anotherStandsAgainst 24 rfl) (tgt := 58) (by decide) (by omega) (fun h42 => ?_) (fun h42 => ?_)
          · first | exact absurd rfl h42 | exact absurd h42 (by decide)
          · refine e_aload_n (dat d_F_anotherStandsAgainst 25 rfl) 1 rfl rfl ?_
            refine s_gR (dat d_F_anotherStandsAgainst 26 rfl) 3 k_64 (by decide) rfl rfl (by omega) (cR3 hC (by omega)) ?_
            refine e_aload_n (dat d_F_anotherStandsAgainst 27 rfl) 4 rfl rfl ?_
            refine s_gR (dat d_F_anotherStandsAgainst 28 rfl) 3 k_64 (by decide) rfl rfl (by omega) (cR3 hC (by omega)) ?_
            refine n_icmp_ne (dat d_F_anotherStandsAgainst 29 rfl) (tgt := 58) (by decide) (lt64 (hW.b _ _)) (lt64 (hW.b _ _)) (fun h53 => ?_) (fun h53 => ?_)
            · refine e_aload_n (dat d_F_anotherStandsAgainst 32 rfl) 1 rfl rfl ?_
              refine e_aload_n (dat d_F_anotherStandsAgainst 33 rfl) 1 rfl rfl ?_
              refine s_gR (dat d_F_anotherStandsAgainst 34 rfl) 9 k_75 (by decide) rfl rfl (by omega) (cR9 hC (by omega)) ?_
              refine e_aload_n (dat d_F_anotherStandsAgainst 35 rfl) 4 rfl rfl ?_
              refine r_call (t_R_disagrees hW hC h7 hr (hW.hb h7)) c_R_disagrees (dat d_F_anotherStandsAgainst 36 rfl) rfl k_312 rfl (kd_R _ (by omega)) (by decide) (by omega) rfl (show 0 ≤ 8 by decide) ⟨show 2 ≤ 2 by decide, show 55 ≤ 60 by decide⟩ ⟨show 0 ≤ 0 by decide, show 0 ≤ 0 by decide⟩ ?_
              refine n_if_eq (dat d_F_anotherStandsAgainst 37 rfl) (tgt := 72) (by decide) if_lt0 (fun h67 => ?_) (fun h67 => ?_)
              · replace h67 := if_n0 h67
                refine n_iinc (q := 2) (dat d_F_anotherStandsAgainst 40 rfl) rfl (show 2 < 5 by decide) (lv2 := [(2, _), (4, _), (3, _), (0, _), (1, _)]) rfl ?_
                refine e_goto (dat d_F_anotherStandsAgainst 41 rfl) (tgt := 2) (by decide) ?_
                refine e_lv [0, 3, 4] rfl ?_
                refine ih h7 (fun z hz => ?_)
                by_cases e : z = k
                · rw [e]
                  refine ⟨?_, fun h => h h67⟩
                  rintro ⟨a1, a2⟩
                  first
                    | exact h53 a2
                    | (rcases a1 with a1 | a1
                       · exact h22 a1
                       · exact h30 a1)
                · exact hI z (by omega)
              · replace h67 := if_p0 h67
                refine n_iconst (dat d_F_anotherStandsAgainst 38 rfl) 1 rfl ?_
                exact q_zret (dat d_F_anotherStandsAgainst 39 rfl) rfl (z01 (by decide)) (show 0 ≤ 0 by decide) (show 0 ≤ 0 by decide) ⟨by rw [if_neg (fun h => (h k h7).2 h67)], rfl⟩
            · refine n_iconst (dat d_F_anotherStandsAgainst 30 rfl) 1 rfl ?_
              exact q_zret (dat d_F_anotherStandsAgainst 31 rfl) rfl (z01 (by decide)) (show 0 ≤ 0 by decide) (show 0 ≤ 0 by decide) ⟨by rw [if_neg (fun h => (h k h7).1 ⟨by first | exact Or.inl h22 | exact Or.inr h30, h53⟩)], rfl⟩
  refine n_iconst (dat d_F_anotherStandsAgainst 0 rfl) 0 rfl ?_
  refine e_istore_n (dat d_F_anotherStandsAgainst 1 rfl) rfl (show 2 < 5 by decide) (lv2 := [(2, _), (0, _), (1, _)]) rfl ?_
  exact L 0 (Nat.zero_le _) (fun j hj => absurd hj (Nat.not_lt_zero _))
theorem t_F_judge {E : wE} {m : wM} {f : wF} {w : Int64} {r : Nat} (hW : Wv m) (hC : Rc m f) (hr : r < m 39 7) : Cr E i_F_judge 3 [.ref (wB E + 0), .ref (wB E + (15 + 3 * r))] f w (some (.int (nI (jdg m r)))) f := by
  have h12 := hW.S
  have h8 := hW.R
  have h6 := hW.N hr
  refine cr_of rfl rfl rfl (show 2 ≤ 2 by decide) ?_
  refine e_aload_n (dat d_F_judge 0 rfl) 1 rfl rfl ?_
  refine s_gR (dat d_F_judge 1 rfl) 6 k_68 (by decide) rfl rfl (by omega) (cR6 hC (by omega)) ?_
  refine n_if_ne (dat d_F_judge 2 rfl) (tgt := 14) (by decide) (lt64 (hW.b _ _)) (fun h4 => ?_) (fun h4 => ?_)
  · refine n_iconst (dat d_F_judge 6 rfl) 1 rfl ?_
    exact q_iret (dat d_F_judge 7 rfl) rfl (show 0 ≤ 0 by decide) (show 0 ≤ 0 by decide) ⟨by rw [jdg, if_pos (by first | exact Or.inl h4 | exact Or.inr (fun h => h h11))], rfl⟩
  · refine e_aload_n (dat d_F_judge 3 rfl) 1 rfl rfl ?_
    refine r_call (t_R_hasPass hW hC hr) c_R_hasPass (dat d_F_judge 4 rfl) rfl k_300 rfl (kd_R _ (by omega)) (by decide) (by omega) rfl (show 0 ≤ 8 by decide) ⟨show 2 ≤ 3 by decide, show 51 ≤ 90 by decide⟩ ⟨show 0 ≤ 0 by decide, show 0 ≤ 0 by decide⟩ ?_
    refine n_if_ne (dat d_F_judge 5 rfl) (tgt := 16) (by decide) if_lt0 (fun h11 => ?_) (fun h11 => ?_)
    · replace h11 := if_p0 h11
      refine e_aload_n (dat d_F_judge 8 rfl) 0 rfl rfl ?_
      refine e_aload_n (dat d_F_judge 9 rfl) 1 rfl rfl ?_
      refine r_call (t_F_anotherStandsAgainst hW hC hr) c_F_anotherStandsAgainst (dat d_F_judge 10 rfl) rfl k_308 rfl rfl (by decide) (by omega) rfl (show 0 ≤ 8 by decide) ⟨show 3 ≤ 3 by decide, show 84 ≤ 90 by decide⟩ ⟨show 0 ≤ 0 by decide, show 0 ≤ 0 by decide⟩ ?_
      refine n_if_eq (dat d_F_judge 11 rfl) (tgt := 26) (by decide) if_lt0 (fun h21 => ?_) (fun h21 => ?_)
      · replace h21 := if_n0 h21
        refine e_aload_n (dat d_F_judge 14 rfl) 0 rfl rfl ?_
        refine e_aload_n (dat d_F_judge 15 rfl) 1 rfl rfl ?_
        refine r_call (t_F_passesClear hW hC hr) c_F_passesClear (dat d_F_judge 16 rfl) rfl k_321 rfl rfl (by decide) (by omega) rfl (show 0 ≤ 8 by decide) ⟨show 2 ≤ 3 by decide, show 52 ≤ 90 by decide⟩ ⟨show 0 ≤ 0 by decide, show 0 ≤ 0 by decide⟩ ?_
        refine n_if_ne (dat d_F_judge 17 rfl) (tgt := 36) (by decide) if_lt (fun h31 => ?_) (fun h31 => ?_)
        · replace h31 := if_p h31
          refine e_aload_n (dat d_F_judge 20 rfl) 0 rfl rfl ?_
          refine e_aload_n (dat d_F_judge 21 rfl) 1 rfl rfl ?_
          refine r_call (t_F_pointsMayMove hW hC hr) c_F_pointsMayMove (dat d_F_judge 22 rfl) rfl k_326 rfl rfl (by decide) (by omega) rfl (show 0 ≤ 8 by decide) ⟨show 2 ≤ 3 by decide, show 53 ≤ 90 by decide⟩ ⟨show 0 ≤ 0 by decide, show 0 ≤ 0 by decide⟩ ?_
          refine n_if_ne (dat d_F_judge 23 rfl) (tgt := 46) (by decide) if_lt (fun h41 => ?_) (fun h41 => ?_)
          · replace h41 := if_p h41
            refine n_iconst (dat d_F_judge 26 rfl) 0 rfl ?_
            exact q_iret (dat d_F_judge 27 rfl) rfl (show 0 ≤ 0 by decide) (show 0 ≤ 0 by decide) ⟨by rw [jdg, if_neg (fun h => h.elim (fun a => a h4) (fun a => a h11)), if_neg (fun h => h h21), if_neg (fun h => h h31), if_neg (fun h => h h41)], rfl⟩
          · replace h41 := if_n h41
            refine n_iconst (dat d_F_judge 24 rfl) 4 rfl ?_
            exact q_iret (dat d_F_judge 25 rfl) rfl (show 0 ≤ 0 by decide) (show 0 ≤ 0 by decide) ⟨by rw [jdg, if_neg (fun h => h.elim (fun a => a h4) (fun a => a h11)), if_neg (fun h => h h21), if_neg (fun h => h h31), if_pos h41], rfl⟩
        · replace h31 := if_n h31
          refine n_iconst (dat d_F_judge 18 rfl) 3 rfl ?_
          exact q_iret (dat d_F_judge 19 rfl) rfl (show 0 ≤ 0 by decide) (show 0 ≤ 0 by decide) ⟨by rw [jdg, if_neg (fun h => h.elim (fun a => a h4) (fun a => a h11)), if_neg (fun h => h h21), if_pos h31], rfl⟩
      · replace h21 := if_p0 h21
        refine n_iconst (dat d_F_judge 12 rfl) 2 rfl ?_
        exact q_iret (dat d_F_judge 13 rfl) rfl (show 0 ≤ 0 by decide) (show 0 ≤ 0 by decide) ⟨by rw [jdg, if_neg (fun h => h.elim (fun a => a h4) (fun a => a h11)), if_pos h21], rfl⟩
    · replace h11 := if_n0 h11
      refine n_iconst (dat d_F_judge 6 rfl) 1 rfl ?_
      exact q_iret (dat d_F_judge 7 rfl) rfl (show 0 ≤ 0 by decide) (show 0 ≤ 0 by decide) ⟨by rw [jdg, if_pos (by first | exact Or.inl h4 | exact Or.inr (fun h => h h11))], rfl⟩
theorem t_F_isHeld {E : wE} {m : wM} {f : wF} {w : Int64} {s : Nat} (hW : Wv m) (hC : Rc m f) (hs : s < 64) : Cr E i_F_isHeld 2 [.ref (wB E + 0), .int (nI s)] f w (some (.int (nI (@ite Nat (∀ r, r < m 39 7 → ¬ pasP m s r ∧ ¬ flaP m s r) (Classical.propDecidable _) 0 1)))) f := by
  have h12 := hW.S
  have h8 := hW.R
  refine cr_of rfl rfl rfl (show 2 ≤ 2 by decide) ?_
  refine e_aload_n (dat d_F_isHeld 0 rfl) 0 rfl rfl ?_
  refine e_iload_n (dat d_F_isHeld 1 rfl) 1 rfl rfl ?_
  refine q_call (t_F_holderOfPass hW hC hs) c_F_holderOfPass (dat d_F_isHeld 2 rfl) rfl k_425 rfl rfl (by decide) (by omega) rfl (show 0 ≤ 8 by decide) ⟨show 2 ≤ 2 by decide, show 53 ≤ 60 by decide⟩ ⟨show 0 ≤ 0 by decide, show 0 ≤ 0 by decide⟩ (fun v9 f9 h9 => ?_) (fun X9 h9 => h9.elim)
  obtain ⟨rfl, ⟨r, hr, hp, rfl⟩ | ⟨hn, rfl⟩⟩ := h9
  · refine e_iconst (v := -1) (dat d_F_isHeld 3 rfl) rfl ?_
    refine e_icmp_ne (dat d_F_isHeld 4 rfl) (tgt := 17) (by decide) (fun h6 => ?_) (fun h6 => ?_)
    · refine n_iconst (dat d_F_isHeld 9 rfl) 1 rfl ?_
      refine e_goto (dat d_F_isHeld 10 rfl) (tgt := 22) (by decide) ?_
      exact q_zret (dat d_F_isHeld 12 rfl) rfl (z01 (by decide)) (show 0 ≤ 0 by decide) (show 0 ≤ 0 by decide) ⟨by first | exact wr1 (fun h => (h r hr).1 hp) | exact wr1 (fun h => h14 (bts_zero.mpr (fun q hq => if_neg (h q hq).2))) | exact wr0 (fun q hq => ⟨hn q hq, if_n (bts_zero.mp h14 q hq)⟩), rfl⟩
    · exact absurd h6 (nI_m1 (by omega))
  · refine e_iconst (v := -1) (dat d_F_isHeld 3 rfl) rfl ?_
    refine e_icmp_ne (dat d_F_isHeld 4 rfl) (tgt := 17) (by decide) (fun h6 => ?_) (fun h6 => ?_)
    · exact absurd rfl h6
    · refine e_aload_n (dat d_F_isHeld 5 rfl) 0 rfl rfl ?_
      refine e_iload_n (dat d_F_isHeld 6 rfl) 1 rfl rfl ?_
      refine r_call (t_F_holdersOfFlank hW hC hs) c_F_holdersOfFlank (dat d_F_isHeld 7 rfl) rfl k_429 rfl rfl (by decide) (by omega) rfl (show 0 ≤ 8 by decide) ⟨show 2 ≤ 2 by decide, show 54 ≤ 60 by decide⟩ ⟨show 0 ≤ 0 by decide, show 0 ≤ 0 by decide⟩ ?_
      refine n_if_eq (dat d_F_isHeld 8 rfl) (tgt := 21) (by decide) (Nat.lt_of_lt_of_le (bts_lt (fun j => by split <;> decide) _) (Nat.le_trans (Nat.pow_le_pow_right (by decide) h8) (by decide))) (fun h14 => ?_) (fun h14 => ?_)
      · refine n_iconst (dat d_F_isHeld 11 rfl) 0 rfl ?_
        exact q_zret (dat d_F_isHeld 12 rfl) rfl (z01 (by decide)) (show 0 ≤ 0 by decide) (show 0 ≤ 0 by decide) ⟨by first | exact wr1 (fun h => (h r hr).1 hp) | exact wr1 (fun h => h14 (bts_zero.mpr (fun q hq => if_neg (h q hq).2))) | exact wr0 (fun q hq => ⟨hn q hq, if_n (bts_zero.mp h14 q hq)⟩), rfl⟩
      · refine n_iconst (dat d_F_isHeld 9 rfl) 1 rfl ?_
        refine e_goto (dat d_F_isHeld 10 rfl) (tgt := 22) (by decide) ?_
        exact q_zret (dat d_F_isHeld 12 rfl) rfl (z01 (by decide)) (show 0 ≤ 0 by decide) (show 0 ≤ 0 by decide) ⟨by first | exact wr1 (fun h => (h r hr).1 hp) | exact wr1 (fun h => h14 (bts_zero.mpr (fun q hq => if_neg (h q hq).2))) | exact wr0 (fun q hq => ⟨hn q hq, if_n (bts_zero.mp h14 q hq)⟩), rfl⟩
