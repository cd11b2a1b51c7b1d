theorem of_end {m : wM} {s k b : Nat} {d : Decidable (∀ r, r < m 39 7 → ¬ (m 45 r = s ∧ safe m r))} (hI : b = 0 ↔ ∀ r, r < k → ¬ (m 45 r = s ∧ safe m r)) (hb : b ≤ 1) (hk : m 39 7 = k) : nI b = nI (@ite Nat (∀ r, r < m 39 7 → ¬ (m 45 r = s ∧ safe m r)) d 0 1) := by
  subst hk
  by_cases e : b = 0
  · rw [if_pos (hI.mp e), e]
  · rw [if_neg (fun h => e (hI.mpr h)), show b = 1 by omega]
section OR9
variable {E : wE} {J : jI} {cells slots pc : Nat} {lv : List (Nat × Value)} {st : List Value} {f : wF} {w : Int64}
theorem n_ior8 {X k : Nat} (hd : decode (mb J.1) pc = .ok (.ior, 1)) (hX : X < 2 ^ k) (hk : k < 8) (kk : Ev E J cells slots (pc + 1) lv (.int (nI (X + 2 ^ k)) :: st) f g0 w 57) : Ev E J cells slots pc lv (.int (nI 1 <<< (nI k &&& 31)) :: .int (nI X) :: st) f g0 w 57 := e_ior hd (by rw [i_set8 k hk X hX]; exact kk)
end OR9
theorem t_M_use {E : wE} {m : wM} {f : wF} {w : Int64} {x y z : Int32} (hW : Wv m) (hm : Rm m f)  : Cq E i_M_use 1 0 0 [.ref (wB E + 39), .int x, .int y, .int z] f w (MV f (kUse m x y z) m (useM m (ix x) (ix y) (ix z))) (fun _ => False) := by
  have hm0 := hm
  have h12 := hW.S
  have h8 := hW.R
  replace hm := Rf.of hm
  refine cq_of rfl rfl rfl (show 4 ≤ 6 by decide) ?_
  refine e_aload_n (dat d_M_use 0 rfl) 0 rfl rfl ?_
  refine e_aload_n (dat d_M_use 1 rfl) 0 rfl rfl ?_
  refine e_iload_n (dat d_M_use 2 rfl) 1 rfl rfl ?_
  refine r_call (t_M_noRoute hW hm0) c_M_noRoute (dat d_M_use 3 rfl) rfl k_586 rfl rfl (by decide) (by omega) rfl (show 1 ≤ 8 by decide) ⟨show 1 ≤ 1 by decide, show 21 ≤ 30 by decide⟩ ⟨show 0 ≤ 0 by decide, show 0 ≤ 0 by decide⟩ ?_
  refine n_if_ne (dat d_M_use 4 rfl) (tgt := 17) (by decide) if_lt (fun h6 => ?_) (fun h6 => ?_)
  · replace h6 := if_p h6
    refine n_iconst (dat d_M_use 9 rfl) 1 rfl ?_
    refine e_goto (dat d_M_use 10 rfl) (tgt := 22) (by decide) ?_
    refine m_p0 (dat d_M_use 12 rfl) k_499 hm (fun hm => ?_)
    refine e_aload_n (dat d_M_use 13 rfl) 0 rfl rfl ?_
    refine s_gM (dat d_M_use 14 rfl) 0 k_499 (by decide) rfl rfl up2_eq ?_
    refine n_if_le (dat d_M_use 15 rfl) (tgt := 33) (by decide) (by omega) (fun h29 => ?_) (fun h29 => ?_)
    · first | exact absurd rfl h29 | exact absurd h29 (by decide)
    · exact q_vret (dat d_M_use 16 rfl) rfl (show 0 ≤ 0 by decide) (show 0 ≤ 0 by decide) (mv_x hm up2_eq fr8.rf.p0 (if_pos (by first | exact Or.inl h6 | exact Or.inr h14)) (by decide))
  · replace h6 := if_n h6
    refine e_aload_n (dat d_M_use 5 rfl) 0 rfl rfl ?_
    refine e_iload_n (dat d_M_use 6 rfl) 2 rfl rfl ?_
    refine r_call (t_M_noSection hW hm0) c_M_noSection (dat d_M_use 7 rfl) rfl k_574 rfl rfl (by decide) (by omega) rfl (show 1 ≤ 8 by decide) ⟨show 1 ≤ 1 by decide, show 21 ≤ 30 by decide⟩ ⟨show 0 ≤ 0 by decide, show 0 ≤ 0 by decide⟩ ?_
    refine n_if_eq (dat d_M_use 8 rfl) (tgt := 21) (by decide) if_lt (fun h14 => ?_) (fun h14 => ?_)
    · replace h14 := if_n h14
      obtain ⟨r, hr, rfl⟩ := ix_of (x := x) (N := m 39 7) (by omega) h6
      have hx := ix_nI (show r < 64 by omega)
      have h6r := hW.N hr
      obtain ⟨i, hi, rfl⟩ := ix_of (x := y) (N := m 39 1) (by omega) h14
      have hy := ix_nI (show i < 64 by omega)
      have hn0 : ¬ (noR m (nI r) ∨ noS m (nI i)) := fun h => h.elim (no_ix hr (by omega)) (no_ix hi (by omega))
      refine n_iconst (dat d_M_use 11 rfl) 0 rfl ?_
      refine m_p0 (dat d_M_use 12 rfl) k_499 hm (fun hm => ?_)
      refine e_aload_n (dat d_M_use 13 rfl) 0 rfl rfl ?_
      refine s_gM (dat d_M_use 14 rfl) 0 k_499 (by decide) rfl rfl up2_eq ?_
      refine n_if_le (dat d_M_use 15 rfl) (tgt := 33) (by decide) (by omega) (fun h29 => ?_) (fun h29 => ?_)
      · refine n_iconst (dat d_M_use 17 rfl) 1 rfl ?_
        refine e_istore (dat d_M_use 18 rfl) (show 4 < 6 by decide) (lv2 := [(4, _), (0, _), (1, _), (2, _), (3, _)]) rfl ?_
        refine n_iconst (dat d_M_use 19 rfl) 0 rfl ?_
        refine e_istore (dat d_M_use 20 rfl) (show 5 < 6 by decide) (lv2 := [(5, _), (4, _), (0, _), (1, _), (2, _), (3, _)]) rfl ?_
        have L : ∀ k, k ≤ m 39 7 → ∀ b, b ≤ 1 → (b = 1 ↔ ∀ q, q < k → m 48 q = 0) → Ev E (jq E i_M_use 1 0 0 f w (MV f (kUse m (nI r) (nI i) z) m (useM m (ix (nI r)) (ix (nI i)) (ix z))) (fun _ => False)) 0 0 39 [(5, .int (nI k)), (4, .int (nI b)), (0, .ref (wB E + 39)), (1, .int (nI r)), (2, .int (nI i)), (3, .int z)] [] (up2 f 39 0 (nI 0)) g0 w 57 := by
          apply lp_ind
          intro k hk ih b hb1 hI
          refine e_iload (dat d_M_use 21 rfl) 0 rfl ?_
          refine e_aload_n (dat d_M_use 22 rfl) 2 rfl rfl ?_
          refine s_gM (dat d_M_use 23 rfl) 7 k_506 (by decide) rfl rfl (rmf7 hm) ?_
          refine n_icmp_ge (dat d_M_use 24 rfl) (tgt := 76) (by decide) (by omega) (by omega) (fun h45 => ?_) (fun h45 => ?_)
          · refine e_iload_n (dat d_M_use 38 rfl) 5 rfl rfl ?_
            refine e_if_lt (dat d_M_use 39 rfl) (tgt := 112) (by decide) (fun h77 => ?_) (fun h77 => ?_)
            · refine e_aload_n (dat d_M_use 58 rfl) 2 rfl rfl ?_
              refine n_iconst (dat d_M_use 59 rfl) 2 rfl ?_
              refine m_p0 (dat d_M_use 60 rfl) k_499 hm (fun hm => ?_)
              refine e_goto (dat d_M_use 61 rfl) (tgt := 199) (by decide) ?_
              exact q_vret (dat d_M_use 111 rfl) rfl (show 0 ≤ 0 by decide) (show 0 ≤ 0 by decide) (mv_x hm up2_eq fr8.rf.p0.p0 (by rw [kUse, if_neg hn0, hx, hy, if_pos (by first | exact Or.inl (fun h => h.1 h77) | exact Or.inl (fun h => absurd h82 (Int32.not_lt.mpr h.2.1)) | exact Or.inl (fun h => nfit h) | exact Or.inr h109)]) (by decide))
            · refine e_iload_n (dat d_M_use 40 rfl) 5 rfl rfl ?_
              refine n_iconst (dat d_M_use 41 rfl) 4 rfl ?_
              refine e_icmp_gt (dat d_M_use 42 rfl) (tgt := 112) (by decide) (fun h82 => ?_) (fun h82 => ?_)
              · refine e_aload_n (dat d_M_use 58 rfl) 2 rfl rfl ?_
                refine n_iconst (dat d_M_use 59 rfl) 2 rfl ?_
                refine m_p0 (dat d_M_use 60 rfl) k_499 hm (fun hm => ?_)
                refine e_goto (dat d_M_use 61 rfl) (tgt := 199) (by decide) ?_
                exact q_vret (dat d_M_use 111 rfl) rfl (show 0 ≤ 0 by decide) (show 0 ≤ 0 by decide) (mv_x hm up2_eq fr8.rf.p0.p0 (by rw [kUse, if_neg hn0, hx, hy, if_pos (by first | exact Or.inl (fun h => h.1 h77) | exact Or.inl (fun h => absurd h82 (Int32.not_lt.mpr h.2.1)) | exact Or.inl (fun h => nfit h) | exact Or.inr h109)]) (by decide))
              · refine e_iload_n (dat d_M_use 43 rfl) 5 rfl rfl ?_
                refine e_if_ne (dat d_M_use 44 rfl) (tgt := 93) (by decide) (fun h86 => ?_) (fun h86 => ?_)
                · refine n_iconst (dat d_M_use 47 rfl) 0 rfl ?_
                  refine e_aload_n (dat d_M_use 48 rfl) 2 rfl rfl ?_
                  refine s_qM (t := 40) (dat d_M_use 49 rfl) 2 k_501 (by decide) rfl rfl rfl ?_
                  refine e_iload_n (dat d_M_use 50 rfl) 4 rfl rfl ?_
                  refine s_bld (N := 12) (dat d_M_use 51 rfl) rfl (by decide) rfl rfl (by omega) (rmf hm (by decide)) ?_
                  refine n_icmp_eq (dat d_M_use 52 rfl) (tgt := 112) (by decide) (by decide) (lt64 (hW.b _ _)) (fun h100 => ?_) (fun h100 => ?_)
                  · have nfit : ¬ fitP m z i := by
                      rintro ⟨a1, a2, a3⟩
                      have := (hW.o i).1
                      first
                        | exact absurd (a3.mpr h86) (by omega)
                        | exact h86 (a3.mp (by omega))
                    refine e_aload_n (dat d_M_use 58 rfl) 2 rfl rfl ?_
                    refine n_iconst (dat d_M_use 59 rfl) 2 rfl ?_
                    refine m_p0 (dat d_M_use 60 rfl) k_499 hm (fun hm => ?_)
                    refine e_goto (dat d_M_use 61 rfl) (tgt := 199) (by decide) ?_
                    exact q_vret (dat d_M_use 111 rfl) rfl (show 0 ≤ 0 by decide) (show 0 ≤ 0 by decide) (mv_x hm up2_eq fr8.rf.p0.p0 (by rw [kUse, if_neg hn0, hx, hy, if_pos (by first | exact Or.inl (fun h => h.1 h77) | exact Or.inl (fun h => absurd h82 (Int32.not_lt.mpr h.2.1)) | exact Or.inl (fun h => nfit h) | exact Or.inr h109)]) (by decide))
                  · have fit : fitP m z i := ⟨h77, Int32.not_lt.mp h82, by
                      have := (hW.o i).1
                      first
                        | exact ⟨fun _ => h86, fun _ => by omega⟩
                        | exact ⟨fun h => absurd h (by omega), fun h => absurd h h86⟩⟩
                    refine e_aload_n (dat d_M_use 53 rfl) 2 rfl rfl ?_
                    refine e_iload_n (dat d_M_use 54 rfl) 3 rfl rfl ?_
                    refine e_iload_n (dat d_M_use 55 rfl) 4 rfl rfl ?_
                    refine r_call (t_M_usesAlready hW hm.1 hr (by omega)) c_M_usesAlready (dat d_M_use 56 rfl) rfl k_590 rfl rfl (by decide) (by omega) rfl (show 0 ≤ 8 by decide) ⟨show 1 ≤ 1 by decide, show 24 ≤ 30 by decide⟩ ⟨show 0 ≤ 0 by decide, show 0 ≤ 0 by decide⟩ ?_
                    refine n_if_eq (dat d_M_use 57 rfl) (tgt := 120) (by decide) if_lt0 (fun h109 => ?_) (fun h109 => ?_)
                    · replace h109 := if_n0 h109
                      refine e_aload_n (dat d_M_use 62 rfl) 2 rfl rfl ?_
                      refine s_qM (t := 51) (dat d_M_use 63 rfl) 14 k_513 (by decide) rfl rfl rfl ?_
                      refine e_iload_n (dat d_M_use 64 rfl) 3 rfl rfl ?_
                      refine s_ild (N := 8) (dat d_M_use 65 rfl) rfl (by decide) rfl rfl (by omega) (rmf hm (by decide)) ?_
                      refine n_bipush (dat d_M_use 66 rfl) 6 rfl ?_
                      refine n_icmp_eq (dat d_M_use 67 rfl) (tgt := 136) (by decide) (lt64 (hW.b _ _)) (by decide) (fun h128 => ?_) (fun h128 => ?_)
                      · refine e_aload_n (dat d_M_use 70 rfl) 2 rfl rfl ?_
                        refine n_iconst (dat d_M_use 71 rfl) 3 rfl ?_
                        refine m_p0 (dat d_M_use 72 rfl) k_499 hm (fun hm => ?_)
                        refine e_goto (dat d_M_use 73 rfl) (tgt := 199) (by decide) ?_
                        exact q_vret (dat d_M_use 111 rfl) rfl (show 0 ≤ 0 by decide) (show 0 ≤ 0 by decide) (mv_x hm up2_eq fr8.rf.p0.p0 (by rw [kUse, if_neg hn0, hx, hy, if_neg (fun h => h.elim (fun h => h fit) (fun h => h h109)), if_pos (by first | exact Or.inl h128 | exact Or.inr (fun h => absurd (hI.mpr (fun z9 hz9 => h z9 (by omega))) (by omega)))]) (by decide))
                      · refine e_iload (dat d_M_use 68 rfl) 1 rfl ?_
                        refine n_if_ne (dat d_M_use 69 rfl) (tgt := 144) (by decide) (by omega) (fun h133 => ?_) (fun h133 => ?_)
                        · obtain ⟨c, hc4, rfl⟩ : ∃ c, c ≤ 4 ∧ z = nI c := by
                            obtain ⟨j, hj, e⟩ := nI_of2 (M := nI 4) (n := 4) (by decide) fit.1 fit.2.1
                            exact ⟨j, hj, e⟩
                          have hz := ix_nI (show c < 64 by omega)
                          refine n_bipush (dat d_M_use 74 rfl) 6 rfl ?_
                          refine e_iload_n (dat d_M_use 75 rfl) 3 rfl rfl ?_
                          refine n_imul (dat d_M_use 76 rfl) ?_
                          refine e_aload_n (dat d_M_use 77 rfl) 2 rfl rfl ?_
                          refine s_qM (t := 51) (dat d_M_use 78 rfl) 14 k_513 (by decide) rfl rfl rfl ?_
                          refine e_iload_n (dat d_M_use 79 rfl) 3 rfl rfl ?_
                          refine s_ild (N := 8) (dat d_M_use 80 rfl) rfl (by decide) rfl rfl (by omega) (rmf hm (by decide)) ?_
                          refine n_iadd (dat d_M_use 81 rfl) ?_
                          refine e_istore (dat d_M_use 82 rfl) (show 5 < 6 by decide) (lv2 := [(5, _), (4, _), (0, _), (1, _), (2, _), (3, _)]) rfl ?_
                          refine e_aload_n (dat d_M_use 83 rfl) 2 rfl rfl ?_
                          refine s_qM (t := 52) (dat d_M_use 84 rfl) 15 k_514 (by decide) rfl rfl rfl ?_
                          refine e_iload (dat d_M_use 85 rfl) 0 rfl ?_
                          refine e_iload_n (dat d_M_use 86 rfl) 4 rfl rfl ?_
                          refine m_ist (N := 48) (dat d_M_use 87 rfl) rfl (by decide) rfl rfl (by omega) (by decide) hm (fun hm => ?_)
                          refine e_aload_n (dat d_M_use 88 rfl) 2 rfl rfl ?_
                          refine s_qM (t := 53) (dat d_M_use 89 rfl) 16 k_515 (by decide) rfl rfl rfl ?_
                          refine e_iload (dat d_M_use 90 rfl) 0 rfl ?_
                          refine e_iload_n (dat d_M_use 91 rfl) 5 rfl rfl ?_
                          refine m_ist (N := 48) (dat d_M_use 92 rfl) rfl (by decide) rfl rfl (by omega) (by decide) hm (fun hm => ?_)
                          refine e_aload_n (dat d_M_use 93 rfl) 2 rfl rfl ?_
                          refine s_qM (t := 54) (dat d_M_use 94 rfl) 17 k_516 (by decide) rfl rfl rfl ?_
                          refine e_iload (dat d_M_use 95 rfl) 0 rfl ?_
                          refine n_iconst (dat d_M_use 96 rfl) 0 rfl ?_
                          refine m_bst (N := 48) (dat d_M_use 97 rfl) rfl (by decide) rfl rfl (by omega) (by decide) (by omega) hm (fun hm => ?_)
                          refine e_aload_n (dat d_M_use 98 rfl) 2 rfl rfl ?_
                          refine s_qM (t := 55) (dat d_M_use 99 rfl) 18 k_517 (by decide) rfl rfl rfl ?_
                          refine e_iload (dat d_M_use 100 rfl) 0 rfl ?_
                          refine n_iconst (dat d_M_use 101 rfl) 0 rfl ?_
                          refine m_bst (N := 48) (dat d_M_use 102 rfl) rfl (by decide) rfl rfl (by omega) (by decide) (by omega) hm (fun hm => ?_)
                          refine e_aload_n (dat d_M_use 103 rfl) 2 rfl rfl ?_
                          refine s_qM (t := 51) (dat d_M_use 104 rfl) 14 k_513 (by decide) rfl rfl rfl ?_
                          refine e_iload_n (dat d_M_use 105 rfl) 3 rfl rfl ?_
                          refine e_dup2 (dat d_M_use 106 rfl) rfl rfl ?_
                          refine s_ild (N := 8) (dat d_M_use 107 rfl) rfl (by decide) rfl rfl (by omega) (rmfe (c := m 51 r) hm (by decide) rfl) ?_
                          refine n_iconst (dat d_M_use 108 rfl) 1 rfl ?_
                          refine n_iadd (dat d_M_use 109 rfl) ?_
                          refine m_ist (N := 8) (dat d_M_use 110 rfl) rfl (by decide) rfl rfl (by omega) (by decide) hm (fun hm => ?_)
                          exact q_vret (dat d_M_use 111 rfl) rfl (show 0 ≤ 0 by decide) (show 0 ≤ 0 by decide) (mv_r (by rw [hx, hy, hz, ← use_eq]; exact hm.1) hm.2 up2_eq fr8.rf.p0 (by rw [kUse, if_neg hn0, hx, hy, if_neg (fun h => h.elim (fun h => h fit) (fun h => h h109)), if_neg (fun h => h.elim h128 (fun h => h (fun z9 hz9 => hI.mp (by omega) z9 (by omega))))]))
                        · refine e_aload_n (dat d_M_use 70 rfl) 2 rfl rfl ?_
                          refine n_iconst (dat d_M_use 71 rfl) 3 rfl ?_
                          refine m_p0 (dat d_M_use 72 rfl) k_499 hm (fun hm => ?_)
                          refine e_goto (dat d_M_use 73 rfl) (tgt := 199) (by decide) ?_
                          exact q_vret (dat d_M_use 111 rfl) rfl (show 0 ≤ 0 by decide) (show 0 ≤ 0 by decide) (mv_x hm up2_eq fr8.rf.p0.p0 (by rw [kUse, if_neg hn0, hx, hy, if_neg (fun h => h.elim (fun h => h fit) (fun h => h h109)), if_pos (by first | exact Or.inl h128 | exact Or.inr (fun h => absurd (hI.mpr (fun z9 hz9 => h z9 (by omega))) (by omega)))]) (by decide))
                    · replace h109 := if_p0 h109
                      refine e_aload_n (dat d_M_use 58 rfl) 2 rfl rfl ?_
                      refine n_iconst (dat d_M_use 59 rfl) 2 rfl ?_
                      refine m_p0 (dat d_M_use 60 rfl) k_499 hm (fun hm => ?_)
                      refine e_goto (dat d_M_use 61 rfl) (tgt := 199) (by decide) ?_
                      exact q_vret (dat d_M_use 111 rfl) rfl (show 0 ≤ 0 by decide) (show 0 ≤ 0 by decide) (mv_x hm up2_eq fr8.rf.p0.p0 (by rw [kUse, if_neg hn0, hx, hy, if_pos (by first | exact Or.inl (fun h => h.1 h77) | exact Or.inl (fun h => absurd h82 (Int32.not_lt.mpr h.2.1)) | exact Or.inl (fun h => nfit h) | exact Or.inr h109)]) (by decide))
                · refine n_iconst (dat d_M_use 45 rfl) 1 rfl ?_
                  refine e_goto (dat d_M_use 46 rfl) (tgt := 94) (by decide) ?_
                  refine e_aload_n (dat d_M_use 48 rfl) 2 rfl rfl ?_
                  refine s_qM (t := 40) (dat d_M_use 49 rfl) 2 k_501 (by decide) rfl rfl rfl ?_
                  refine e_iload_n (dat d_M_use 50 rfl) 4 rfl rfl ?_
                  refine s_bld (N := 12) (dat d_M_use 51 rfl) rfl (by decide) rfl rfl (by omega) (rmf hm (by decide)) ?_
                  refine n_icmp_eq (dat d_M_use 52 rfl) (tgt := 112) (by decide) (by decide) (lt64 (hW.b _ _)) (fun h100 => ?_) (fun h100 => ?_)
                  · have nfit : ¬ fitP m z i := by
                      rintro ⟨a1, a2, a3⟩
                      have := (hW.o i).1
                      first
                        | exact absurd (a3.mpr h86) (by omega)
                        | exact h86 (a3.mp (by omega))
                    refine e_aload_n (dat d_M_use 58 rfl) 2 rfl rfl ?_
                    refine n_iconst (dat d_M_use 59 rfl) 2 rfl ?_
                    refine m_p0 (dat d_M_use 60 rfl) k_499 hm (fun hm => ?_)
                    refine e_goto (dat d_M_use 61 rfl) (tgt := 199) (by decide) ?_
                    exact q_vret (dat d_M_use 111 rfl) rfl (show 0 ≤ 0 by decide) (show 0 ≤ 0 by decide) (mv_x hm up2_eq fr8.rf.p0.p0 (by rw [kUse, if_neg hn0, hx, hy, if_pos (by first | exact Or.inl (fun h => h.1 h77) | exact Or.inl (fun h => absurd h82 (Int32.not_lt.mpr h.2.1)) | exact Or.inl (fun h => nfit h) | exact Or.inr h109)]) (by decide))
                  · have fit : fitP m z i := ⟨h77, Int32.not_lt.mp h82, by
                      have := (hW.o i).1
                      first
                        | exact ⟨fun _ => h86, fun _ => by omega⟩
                        | exact ⟨fun h => absurd h (by omega), fun h => absurd h h86⟩⟩
                    refine e_aload_n (dat d_M_use 53 rfl) 2 rfl rfl ?_
                    refine e_iload_n (dat d_M_use 54 rfl) 3 rfl rfl ?_
                    refine e_iload_n (dat d_M_use 55 rfl) 4 rfl rfl ?_
                    refine r_call (t_M_usesAlready hW hm.1 hr (by omega)) c_M_usesAlready (dat d_M_use 56 rfl) rfl k_590 rfl rfl (by decide) (by omega) rfl (show 0 ≤ 8 by decide) ⟨show 1 ≤ 1 by decide, show 24 ≤ 30 by decide⟩ ⟨show 0 ≤ 0 by decide, show 0 ≤ 0 by decide⟩ ?_
                    refine n_if_eq (dat d_M_use 57 rfl) (tgt := 120) (by decide) if_lt0 (fun h109 => ?_) (fun h109 => ?_)
                    · replace h109 := if_n0 h109
                      refine e_aload_n (dat d_M_use 62 rfl) 2 rfl rfl ?_
                      refine s_qM (t := 51) (dat d_M_use 63 rfl) 14 k_513 (by decide) rfl rfl rfl ?_
                      refine e_iload_n (dat d_M_use 64 rfl) 3 rfl rfl ?_
                      refine s_ild (N := 8) (dat d_M_use 65 rfl) rfl (by decide) rfl rfl (by omega) (rmf hm (by decide)) ?_
                      refine n_bipush (dat d_M_use 66 rfl) 6 rfl ?_
                      refine n_icmp_eq (dat d_M_use 67 rfl) (tgt := 136) (by decide) (lt64 (hW.b _ _)) (by decide) (fun h128 => ?_) (fun h128 => ?_)
                      · refine e_aload_n (dat d_M_use 70 rfl) 2 rfl rfl ?_
                        refine n_iconst (dat d_M_use 71 rfl) 3 rfl ?_
                        refine m_p0 (dat d_M_use 72 rfl) k_499 hm (fun hm => ?_)
                        refine e_goto (dat d_M_use 73 rfl) (tgt := 199) (by decide) ?_
                        exact q_vret (dat d_M_use 111 rfl) rfl (show 0 ≤ 0 by decide) (show 0 ≤ 0 by decide) (mv_x hm up2_eq fr8.rf.p0.p0 (by rw [kUse, if_neg hn0, hx, hy, if_neg (fun h => h.elim (fun h => h fit) (fun h => h h109)), if_pos (by first | exact Or.inl h128 | exact Or.inr (fun h => absurd (hI.mpr (fun z9 hz9 => h z9 (by omega))) (by omega)))]) (by decide))
                      · refine e_iload (dat d_M_use 68 rfl) 1 rfl ?_
                        refine n_if_ne (dat d_M_use 69 rfl) (tgt := 144) (by decide) (by omega) (fun h133 => ?_) (fun h133 => ?_)
                        · obtain ⟨c, hc4, rfl⟩ : ∃ c, c ≤ 4 ∧ z = nI c := by
                            obtain ⟨j, hj, e⟩ := nI_of2 (M := nI 4) (n := 4) (by decide) fit.1 fit.2.1
                            exact ⟨j, hj, e⟩
                          have hz := ix_nI (show c < 64 by omega)
                          refine n_bipush (dat d_M_use 74 rfl) 6 rfl ?_
                          refine e_iload_n (dat d_M_use 75 rfl) 3 rfl rfl ?_
                          refine n_imul (dat d_M_use 76 rfl) ?_
                          refine e_aload_n (dat d_M_use 77 rfl) 2 rfl rfl ?_
                          refine s_qM (t := 51) (dat d_M_use 78 rfl) 14 k_513 (by decide) rfl rfl rfl ?_
                          refine e_iload_n (dat d_M_use 79 rfl) 3 rfl rfl ?_
                          refine s_ild (N := 8) (dat d_M_use 80 rfl) rfl (by decide) rfl rfl (by omega) (rmf hm (by decide)) ?_
                          refine n_iadd (dat d_M_use 81 rfl) ?_
                          refine e_istore (dat d_M_use 82 rfl) (show 5 < 6 by decide) (lv2 := [(5, _), (4, _), (0, _), (1, _), (2, _), (3, _)]) rfl ?_
                          refine e_aload_n (dat d_M_use 83 rfl) 2 rfl rfl ?_
                          refine s_qM (t := 52) (dat d_M_use 84 rfl) 15 k_514 (by decide) rfl rfl rfl ?_
                          refine e_iload (dat d_M_use 85 rfl) 0 rfl ?_
                          refine e_iload_n (dat d_M_use 86 rfl) 4 rfl rfl ?_
                          refine m_ist (N := 48) (dat d_M_use 87 rfl) rfl (by decide) rfl rfl (by omega) (by decide) hm (fun hm => ?_)
                          refine e_aload_n (dat d_M_use 88 rfl) 2 rfl rfl ?_
                          refine s_qM (t := 53) (dat d_M_use 89 rfl) 16 k_515 (by decide) rfl rfl rfl ?_
                          refine e_iload (dat d_M_use 90 rfl) 0 rfl ?_
                          refine e_iload_n (dat d_M_use 91 rfl) 5 rfl rfl ?_
                          refine m_ist (N := 48) (dat d_M_use 92 rfl) rfl (by decide) rfl rfl (by omega) (by decide) hm (fun hm => ?_)
                          refine e_aload_n (dat d_M_use 93 rfl) 2 rfl rfl ?_
                          refine s_qM (t := 54) (dat d_M_use 94 rfl) 17 k_516 (by decide) rfl rfl rfl ?_
                          refine e_iload (dat d_M_use 95 rfl) 0 rfl ?_
                          refine n_iconst (dat d_M_use 96 rfl) 0 rfl ?_
                          refine m_bst (N := 48) (dat d_M_use 97 rfl) rfl (by decide) rfl rfl (by omega) (by decide) (by omega) hm (fun hm => ?_)
                          refine e_aload_n (dat d_M_use 98 rfl) 2 rfl rfl ?_
                          refine s_qM (t := 55) (dat d_M_use 99 rfl) 18 k_517 (by decide) rfl rfl rfl ?_
                          refine e_iload (dat d_M_use 100 rfl) 0 rfl ?_
                          refine n_iconst (dat d_M_use 101 rfl) 0 rfl ?_
                          refine m_bst (N := 48) (dat d_M_use 102 rfl) rfl (by decide) rfl rfl (by omega) (by decide) (by omega) hm (fun hm => ?_)
                          refine e_aload_n (dat d_M_use 103 rfl) 2 rfl rfl ?_
                          refine s_qM (t := 51) (dat d_M_use 104 rfl) 14 k_513 (by decide) rfl rfl rfl ?_
                          refine e_iload_n (dat d_M_use 105 rfl) 3 rfl rfl ?_
                          refine e_dup2 (dat d_M_use 106 rfl) rfl rfl ?_
                          refine s_ild (N := 8) (dat d_M_use 107 rfl) rfl (by decide) rfl rfl (by omega) (rmfe (c := m 51 r) hm (by decide) rfl) ?_
                          refine n_iconst (dat d_M_use 108 rfl) 1 rfl ?_
                          refine n_iadd (dat d_M_use 109 rfl) ?_
                          refine m_ist (N := 8) (dat d_M_use 110 rfl) rfl (by decide) rfl rfl (by omega) (by decide) hm (fun hm => ?_)
                          exact q_vret (dat d_M_use 111 rfl) rfl (show 0 ≤ 0 by decide) (show 0 ≤ 0 by decide) (mv_r (by rw [hx, hy, hz, ← use_eq]; exact hm.1) hm.2 up2_eq fr8.rf.p0 (by rw [kUse, if_neg hn0, hx, hy, if_neg (fun h => h.elim (fun h => h fit) (fun h => h h109)), if_neg (fun h => h.elim h128 (fun h => h (fun z9 hz9 => hI.mp (by omega) z9 (by omega))))]))
                        · refine e_aload_n (dat d_M_use 70 rfl) 2 rfl rfl ?_
                          refine n_iconst (dat d_M_use 71 rfl) 3 rfl ?_
                          refine m_p0 (dat d_M_use 72 rfl) k_499 hm (fun hm => ?_)
                          refine e_goto (dat d_M_use 73 rfl) (tgt := 199) (by decide) ?_
                          exact q_vret (dat d_M_use 111 rfl) rfl (show 0 ≤ 0 by decide) (show 0 ≤ 0 by decide) (mv_x hm up2_eq fr8.rf.p0.p0 (by rw [kUse, if_neg hn0, hx, hy, if_neg (fun h => h.elim (fun h => h fit) (fun h => h h109)), if_pos (by first | exact Or.inl h128 | exact Or.inr (fun h => absurd (hI.mpr (fun z9 hz9 => h z9 (by omega))) (by omega)))]) (by decide))
                    · replace h109 := if_p0 h109
                      refine e_aload_n (dat d_M_use 58 rfl) 2 rfl rfl ?_
                      refine n_iconst (dat d_M_use 59 rfl) 2 rfl ?_
                      refine m_p0 (dat d_M_use 60 rfl) k_499 hm (fun hm => ?_)
                      refine e_goto (dat d_M_use 61 rfl) (tgt := 199) (by decide) ?_
                      exact q_vret (dat d_M_use 111 rfl) rfl (show 0 ≤ 0 by decide) (show 0 ≤ 0 by decide) (mv_x hm up2_eq fr8.rf.p0.p0 (by rw [kUse, if_neg hn0, hx, hy, if_pos (by first | exact Or.inl (fun h => h.1 h77) | exact Or.inl (fun h => absurd h82 (Int32.not_lt.mpr h.2.1)) | exact Or.inl (fun h => nfit h) | exact Or.inr h109)]) (by decide))
          · refine e_iload (dat d_M_use 25 rfl) 1 rfl ?_
            refine n_if_eq (dat d_M_use 26 rfl) (tgt := 67) (by decide) (by omega) (fun h50 => ?_) (fun h50 => ?_)
            · refine n_iconst (dat d_M_use 34 rfl) 0 rfl ?_
              refine e_istore (dat d_M_use 35 rfl) (show 4 < 6 by decide) (lv2 := [(4, _), (5, _), (0, _), (1, _), (2, _), (3, _)]) rfl ?_
              refine n_iinc (q := 1) (dat d_M_use 36 rfl) rfl (show 5 < 6 by decide) (lv2 := [(5, _), (4, _), (0, _), (1, _), (2, _), (3, _)]) rfl ?_
              refine e_goto (dat d_M_use 37 rfl) (tgt := 39) (by decide) ?_
              refine ih (by omega) 0 (by decide) ⟨fun h => absurd h (by decide), fun h => ?_⟩
              have h1 := hI.mpr (fun z9 hz9 => h z9 (by omega))
              have h2 := h k (by omega)
              omega
            · refine e_aload_n (dat d_M_use 27 rfl) 2 rfl rfl ?_
              refine s_qM (t := 48) (dat d_M_use 28 rfl) 11 k_510 (by decide) rfl rfl rfl ?_
              refine e_iload (dat d_M_use 29 rfl) 0 rfl ?_
              refine s_ild (N := 8) (dat d_M_use 30 rfl) rfl (by decide) rfl rfl (by omega) (rmf hm (by decide)) ?_
              refine n_if_ne (dat d_M_use 31 rfl) (tgt := 67) (by decide) (lt64 (hW.b _ _)) (fun h60 => ?_) (fun h60 => ?_)
              · refine n_iconst (dat d_M_use 34 rfl) 0 rfl ?_
                refine e_istore (dat d_M_use 35 rfl) (show 4 < 6 by decide) (lv2 := [(4, _), (5, _), (0, _), (1, _), (2, _), (3, _)]) rfl ?_
                refine n_iinc (q := 1) (dat d_M_use 36 rfl) rfl (show 5 < 6 by decide) (lv2 := [(5, _), (4, _), (0, _), (1, _), (2, _), (3, _)]) rfl ?_
                refine e_goto (dat d_M_use 37 rfl) (tgt := 39) (by decide) ?_
                refine ih (by omega) 0 (by decide) ⟨fun h => absurd h (by decide), fun h => ?_⟩
                have h1 := hI.mpr (fun z9 hz9 => h z9 (by omega))
                have h2 := h k (by omega)
                omega
              · refine n_iconst (dat d_M_use 32 rfl) 1 rfl ?_
                refine e_goto (dat d_M_use 33 rfl) (tgt := 68) (by decide) ?_
                refine e_istore (dat d_M_use 35 rfl) (show 4 < 6 by decide) (lv2 := [(4, _), (5, _), (0, _), (1, _), (2, _), (3, _)]) rfl ?_
                refine n_iinc (q := 1) (dat d_M_use 36 rfl) rfl (show 5 < 6 by decide) (lv2 := [(5, _), (4, _), (0, _), (1, _), (2, _), (3, _)]) rfl ?_
                refine e_goto (dat d_M_use 37 rfl) (tgt := 39) (by decide) ?_
                refine ih (by omega) 1 (by decide) ⟨fun _ z9 hz9 => ?_, fun _ => rfl⟩
                by_cases e : z9 = k
                · rw [e]
                  exact h60
                · exact hI.mp (by omega) z9 (by omega)
        exact L 0 (Nat.zero_le _) 1 (by decide) ⟨fun _ q hq => absurd hq (Nat.not_lt_zero _), fun _ => rfl⟩
      · first | exact absurd rfl h29 | exact absurd h29 (by decide)
    · replace h14 := if_p h14
      refine n_iconst (dat d_M_use 9 rfl) 1 rfl ?_
      refine e_goto (dat d_M_use 10 rfl) (tgt := 22) (by decide) ?_
      refine m_p0 (dat d_M_use 12 rfl) k_499 hm (fun hm => ?_)
      refine e_aload_n (dat d_M_use 13 rfl) 0 rfl rfl ?_
      refine s_gM (dat d_M_use 14 rfl) 0 k_499 (by decide) rfl rfl up2_eq ?_
      refine n_if_le (dat d_M_use 15 rfl) (tgt := 33) (by decide) (by omega) (fun h29 => ?_) (fun h29 => ?_)
      · first | exact absurd rfl h29 | exact absurd h29 (by decide)
      · exact q_vret (dat d_M_use 16 rfl) rfl (show 0 ≤ 0 by decide) (show 0 ≤ 0 by decide) (mv_x hm up2_eq fr8.rf.p0 (if_pos (by first | exact Or.inl h6 | exact Or.inr h14)) (by decide))
theorem t_M_off {E : wE} {m : wM} {f : wF} {w : Int64} {x : Int32} (hW : Wv m) (hm : Rm m f)  : Cq E i_M_off 2 0 0 [.ref (wB E + 39), .int x] f w (MO f (kOff x) m m (nI (@ite Nat (∀ r, r < m 39 7 → ¬ (m 45 r = ix x ∧ safe m r)) (Classical.propDecidable _) 0 1))) (fun _ => False) := by
  have hm0 := hm
  have h12 := hW.S
  have h8 := hW.R
  replace hm := Rf.of hm
  refine cq_of rfl rfl rfl (show 2 ≤ 4 by decide) ?_
  refine e_aload_n (dat d_M_off 0 rfl) 0 rfl rfl ?_
  refine e_iload_n (dat d_M_off 1 rfl) 1 rfl rfl ?_
  refine e_if_lt (dat d_M_off 2 rfl) (tgt := 10) (by decide) (fun h2 => ?_) (fun h2 => ?_)
  · refine n_iconst (dat d_M_off 6 rfl) 1 rfl ?_
    refine e_goto (dat d_M_off 7 rfl) (tgt := 15) (by decide) ?_
    refine m_p0 (dat d_M_off 9 rfl) k_499 hm (fun hm => ?_)
    refine n_iconst (dat d_M_off 10 rfl) 0 rfl ?_
    refine e_istore_n (dat d_M_off 11 rfl) rfl (show 2 < 4 by decide) (lv2 := [(2, _), (0, _), (1, _)]) rfl ?_
    refine n_iconst (dat d_M_off 12 rfl) 0 rfl ?_
    refine e_istore_n (dat d_M_off 13 rfl) rfl (show 3 < 4 by decide) (lv2 := [(3, _), (2, _), (0, _), (1, _)]) rfl ?_
    refine e_iload_n (dat d_M_off 14 rfl) 0 rfl rfl ?_
    refine e_aload_n (dat d_M_off 15 rfl) 2 rfl rfl ?_
    refine s_gM (dat d_M_off 16 rfl) 7 k_506 (by decide) rfl rfl (rmf7 hm) ?_
    refine n_icmp_ge (dat d_M_off 17 rfl) (tgt := 71) (by decide) (by omega) (by omega) (fun h27 => ?_) (fun h27 => ?_)
    · refine e_iload_n (dat d_M_off 39 rfl) 1 rfl rfl ?_
      exact q_zret (dat d_M_off 40 rfl) rfl (z01 (by decide)) (show 0 ≤ 0 by decide) (show 0 ≤ 0 by decide) (mo_x hm up2_eq fr8.rf.p0 (if_pos (by first | exact Or.inl h2 | exact Or.inr ((i56 rfl (by decide)).mp (Int32.not_le.mp h7)))) (by decide))
    · refine e_aload_n (dat d_M_off 18 rfl) 2 rfl rfl ?_
      refine s_gM (dat d_M_off 19 rfl) 0 k_499 (by decide) rfl rfl up2_eq ?_
      refine n_if_ne (dat d_M_off 20 rfl) (tgt := 71) (by decide) (by omega) (fun h34 => ?_) (fun h34 => ?_)
      · refine e_iload_n (dat d_M_off 39 rfl) 1 rfl rfl ?_
        exact q_zret (dat d_M_off 40 rfl) rfl (z01 (by decide)) (show 0 ≤ 0 by decide) (show 0 ≤ 0 by decide) (mo_x hm up2_eq fr8.rf.p0 (if_pos (by first | exact Or.inl h2 | exact Or.inr ((i56 rfl (by decide)).mp (Int32.not_le.mp h7)))) (by decide))
      · first | exact absurd rfl h34 | exact absurd h34 (by decide)
  · refine e_iload_n (dat d_M_off 3 rfl) 1 rfl rfl ?_
    refine n_iconst (dat d_M_off 4 rfl) 5 rfl ?_
    refine e_icmp_le (dat d_M_off 5 rfl) (tgt := 14) (by decide) (fun h7 => ?_) (fun h7 => ?_)
    · refine n_iconst (dat d_M_off 8 rfl) 0 rfl ?_
      refine m_p0 (dat d_M_off 9 rfl) k_499 hm (fun hm => ?_)
      refine n_iconst (dat d_M_off 10 rfl) 0 rfl ?_
      refine e_istore_n (dat d_M_off 11 rfl) rfl (show 2 < 4 by decide) (lv2 := [(2, _), (0, _), (1, _)]) rfl ?_
      refine n_iconst (dat d_M_off 12 rfl) 0 rfl ?_
      refine e_istore_n (dat d_M_off 13 rfl) rfl (show 3 < 4 by decide) (lv2 := [(3, _), (2, _), (0, _), (1, _)]) rfl ?_
      obtain ⟨s, hs, rfl⟩ := ix_of (x := x) (N := 6) (by decide) (fun h => h.elim h2 (fun h => absurd h7 (by rw [Int32.not_le]; exact (i56 rfl (by decide)).mpr h)))
      have hx := ix_nI (show s < 64 by omega)
      have hk0 : kOff (nI s) = 0 := if_neg (fun h => h.elim h2 (fun h => absurd h7 (by rw [Int32.not_le]; exact (i56 rfl (by decide)).mpr h)))
      have L : ∀ k, k ≤ m 39 7 → ∀ b, b ≤ 1 → (b = 0 ↔ ∀ r, r < k → ¬ (m 45 r = s ∧ safe m r)) → Ev E (jq E i_M_off 2 0 0 f w (MO f (kOff (nI s)) m m (nI (@ite Nat (∀ r, r < m 39 7 → ¬ (m 45 r = ix (nI s) ∧ safe m r)) (Classical.propDecidable _) 0 1))) (fun _ => False)) 0 0 22 [(3, .int (nI k)), (2, .int (nI b)), (0, .ref (wB E + 39)), (1, .int (nI s))] [] (up2 f 39 0 (nI 0)) g0 w 57 := by
        apply lp_ind
        intro k hk ih b hb1 hI
        refine e_iload_n (dat d_M_off 14 rfl) 0 rfl rfl ?_
        refine e_aload_n (dat d_M_off 15 rfl) 2 rfl rfl ?_
        refine s_gM (dat d_M_off 16 rfl) 7 k_506 (by decide) rfl rfl (rmf7 hm) ?_
        refine n_icmp_ge (dat d_M_off 17 rfl) (tgt := 71) (by decide) (by omega) (by omega) (fun h27 => ?_) (fun h27 => ?_)
        · refine e_iload_n (dat d_M_off 39 rfl) 1 rfl rfl ?_
          exact q_zret (dat d_M_off 40 rfl) rfl (z01 hb1) (show 0 ≤ 0 by decide) (show 0 ≤ 0 by decide) (mo_r hm.1 hm.2 up2_eq fr8.rf.p0 hk0 (by rw [hx]; exact of_end hI hb1 (by omega)))
        · refine e_aload_n (dat d_M_off 18 rfl) 2 rfl rfl ?_
          refine s_gM (dat d_M_off 19 rfl) 0 k_499 (by decide) rfl rfl up2_eq ?_
          refine n_if_ne (dat d_M_off 20 rfl) (tgt := 71) (by decide) (by omega) (fun h34 => ?_) (fun h34 => ?_)
          · first | exact absurd rfl h34 | exact absurd h34 (by decide)
          · refine e_iload_n (dat d_M_off 21 rfl) 1 rfl rfl ?_
            refine n_if_ne (dat d_M_off 22 rfl) (tgt := 59) (by decide) (by omega) (fun h38 => ?_) (fun h38 => ?_)
            · refine n_iconst (dat d_M_off 33 rfl) 1 rfl ?_
              refine e_goto (dat d_M_off 34 rfl) (tgt := 64) (by decide) ?_
              refine e_istore_n (dat d_M_off 36 rfl) rfl (show 2 < 4 by decide) (lv2 := [(2, _), (3, _), (0, _), (1, _)]) rfl ?_
              refine n_iinc (q := 1) (dat d_M_off 37 rfl) rfl (show 3 < 4 by decide) (lv2 := [(3, _), (2, _), (0, _), (1, _)]) rfl ?_
              refine e_goto (dat d_M_off 38 rfl) (tgt := 22) (by decide) ?_
              refine ih (by omega) 1 (by decide) ⟨fun h => absurd h (by decide), fun h => ?_⟩
              exfalso
              first
                | exact h38 (hI.mpr (fun z hz => h z (by omega)))
                | exact h k (by omega) ⟨h48, h56⟩
            · refine e_aload_n (dat d_M_off 23 rfl) 2 rfl rfl ?_
              refine s_qM (t := 45) (dat d_M_off 24 rfl) 8 k_507 (by decide) rfl rfl rfl ?_
              refine e_iload_n (dat d_M_off 25 rfl) 0 rfl rfl ?_
              refine s_ild (N := 8) (dat d_M_off 26 rfl) rfl (by decide) rfl rfl (by omega) (rmf hm (by decide)) ?_
              refine e_iload_n (dat d_M_off 27 rfl) 3 rfl rfl ?_
              refine n_icmp_ne (dat d_M_off 28 rfl) (tgt := 63) (by decide) (lt64 (hW.b _ _)) (by omega) (fun h48 => ?_) (fun h48 => ?_)
              · refine n_iconst (dat d_M_off 35 rfl) 0 rfl ?_
                refine e_istore_n (dat d_M_off 36 rfl) rfl (show 2 < 4 by decide) (lv2 := [(2, _), (3, _), (0, _), (1, _)]) rfl ?_
                refine n_iinc (q := 1) (dat d_M_off 37 rfl) rfl (show 3 < 4 by decide) (lv2 := [(3, _), (2, _), (0, _), (1, _)]) rfl ?_
                refine e_goto (dat d_M_off 38 rfl) (tgt := 22) (by decide) ?_
                refine ih (by omega) 0 (by decide) ⟨fun _ z hz => ?_, fun _ => rfl⟩
                by_cases e : z = k
                · rw [e]
                  rintro ⟨a1, a2⟩
                  first
                    | exact h48 a1
                    | exact h56 a2
                · exact hI.mp h38 z (by omega)
              · refine e_aload_n (dat d_M_off 29 rfl) 2 rfl rfl ?_
                refine e_iload_n (dat d_M_off 30 rfl) 0 rfl rfl ?_
                refine r_call (t_M_safe hW hm.1 (by omega)) c_M_safe (dat d_M_off 31 rfl) rfl k_624 rfl rfl (by decide) (by omega) rfl (show 0 ≤ 8 by decide) ⟨show 2 ≤ 2 by decide, show 53 ≤ 60 by decide⟩ ⟨show 0 ≤ 0 by decide, show 0 ≤ 0 by decide⟩ ?_
                refine n_if_eq (dat d_M_off 32 rfl) (tgt := 63) (by decide) if_lt (fun h56 => ?_) (fun h56 => ?_)
                · replace h56 := if_n h56
                  refine n_iconst (dat d_M_off 35 rfl) 0 rfl ?_
                  refine e_istore_n (dat d_M_off 36 rfl) rfl (show 2 < 4 by decide) (lv2 := [(2, _), (3, _), (0, _), (1, _)]) rfl ?_
                  refine n_iinc (q := 1) (dat d_M_off 37 rfl) rfl (show 3 < 4 by decide) (lv2 := [(3, _), (2, _), (0, _), (1, _)]) rfl ?_
                  refine e_goto (dat d_M_off 38 rfl) (tgt := 22) (by decide) ?_
                  refine ih (by omega) 0 (by decide) ⟨fun _ z hz => ?_, fun _ => rfl⟩
                  by_cases e : z = k
                  · rw [e]
                    rintro ⟨a1, a2⟩
                    first
                      | exact h48 a1
                      | exact h56 a2
                  · exact hI.mp h38 z (by omega)
                · replace h56 := if_p h56
                  refine n_iconst (dat d_M_off 33 rfl) 1 rfl ?_
                  refine e_goto (dat d_M_off 34 rfl) (tgt := 64) (by decide) ?_
                  refine e_istore_n (dat d_M_off 36 rfl) rfl (show 2 < 4 by decide) (lv2 := [(2, _), (3, _), (0, _), (1, _)]) rfl ?_
                  refine n_iinc (q := 1) (dat d_M_off 37 rfl) rfl (show 3 < 4 by decide) (lv2 := [(3, _), (2, _), (0, _), (1, _)]) rfl ?_
                  refine e_goto (dat d_M_off 38 rfl) (tgt := 22) (by decide) ?_
                  refine ih (by omega) 1 (by decide) ⟨fun h => absurd h (by decide), fun h => ?_⟩
                  exfalso
                  first
                    | exact h38 (hI.mpr (fun z hz => h z (by omega)))
                    | exact h k (by omega) ⟨h48, h56⟩
      exact L 0 (Nat.zero_le _) 0 (by decide) ⟨fun _ q hq => absurd hq (Nat.not_lt_zero _), fun _ => rfl⟩
    · refine n_iconst (dat d_M_off 6 rfl) 1 rfl ?_
      refine e_goto (dat d_M_off 7 rfl) (tgt := 15) (by decide) ?_
      refine m_p0 (dat d_M_off 9 rfl) k_499 hm (fun hm => ?_)
      refine n_iconst (dat d_M_off 10 rfl) 0 rfl ?_
      refine e_istore_n (dat d_M_off 11 rfl) rfl (show 2 < 4 by decide) (lv2 := [(2, _), (0, _), (1, _)]) rfl ?_
      refine n_iconst (dat d_M_off 12 rfl) 0 rfl ?_
      refine e_istore_n (dat d_M_off 13 rfl) rfl (show 3 < 4 by decide) (lv2 := [(3, _), (2, _), (0, _), (1, _)]) rfl ?_
      refine e_iload_n (dat d_M_off 14 rfl) 0 rfl rfl ?_
      refine e_aload_n (dat d_M_off 15 rfl) 2 rfl rfl ?_
      refine s_gM (dat d_M_off 16 rfl) 7 k_506 (by decide) rfl rfl (rmf7 hm) ?_
      refine n_icmp_ge (dat d_M_off 17 rfl) (tgt := 71) (by decide) (by omega) (by omega) (fun h27 => ?_) (fun h27 => ?_)
      · refine e_iload_n (dat d_M_off 39 rfl) 1 rfl rfl ?_
        exact q_zret (dat d_M_off 40 rfl) rfl (z01 (by decide)) (show 0 ≤ 0 by decide) (show 0 ≤ 0 by decide) (mo_x hm up2_eq fr8.rf.p0 (if_pos (by first | exact Or.inl h2 | exact Or.inr ((i56 rfl (by decide)).mp (Int32.not_le.mp h7)))) (by decide))
      · refine e_aload_n (dat d_M_off 18 rfl) 2 rfl rfl ?_
        refine s_gM (dat d_M_off 19 rfl) 0 k_499 (by decide) rfl rfl up2_eq ?_
        refine n_if_ne (dat d_M_off 20 rfl) (tgt := 71) (by decide) (by omega) (fun h34 => ?_) (fun h34 => ?_)
        · refine e_iload_n (dat d_M_off 39 rfl) 1 rfl rfl ?_
          exact q_zret (dat d_M_off 40 rfl) rfl (z01 (by decide)) (show 0 ≤ 0 by decide) (show 0 ≤ 0 by decide) (mo_x hm up2_eq fr8.rf.p0 (if_pos (by first | exact Or.inl h2 | exact Or.inr ((i56 rfl (by decide)).mp (Int32.not_le.mp h7)))) (by decide))
        · first | exact absurd rfl h34 | exact absurd h34 (by decide)
