theorem t_M_noSection {E : wE} {m : wM} {f : wF} {w : Int64} {x : Int32} (hW : Wv m) (hm : Rm m f) : Cr E i_M_noSection 0 [.ref (wB E + 39), .int x] f w (some (.int (nI (if noS m x then 1 else 0)))) f := by
  have h12 := hW.S
  have h8 := hW.R
  replace hm := Rf.of hm
  refine cr_of rfl rfl rfl (show 2 ≤ 2 by decide) ?_
  refine e_iload_n (dat d_M_noSection 0 rfl) 1 rfl rfl ?_
  refine e_if_lt (dat d_M_noSection 1 rfl) (tgt := 12) (by decide) (fun h1 => ?_) (fun h1 => ?_)
  · refine n_iconst (dat d_M_noSection 6 rfl) 1 rfl ?_
    refine e_goto (dat d_M_noSection 7 rfl) (tgt := 17) (by decide) ?_
    exact q_zret (dat d_M_noSection 9 rfl) rfl (z01 (by decide)) (show 0 ≤ 0 by decide) (show 0 ≤ 0 by decide) ⟨by first | exact vr1 (Or.inl h1) | exact vr1 (Or.inr h9) | exact vr0 (fun h => h.elim h1 h9), rfl⟩
  · refine e_iload_n (dat d_M_noSection 2 rfl) 1 rfl rfl ?_
    refine e_aload_n (dat d_M_noSection 3 rfl) 0 rfl rfl ?_
    refine s_gM (dat d_M_noSection 4 rfl) 1 k_500 (by decide) rfl rfl (rmf1 hm) ?_
    refine e_icmp_lt (dat d_M_noSection 5 rfl) (tgt := 16) (by decide) (fun h9 => ?_) (fun h9 => ?_)
    · replace h9 := Int32.not_le.mpr h9
      refine n_iconst (dat d_M_noSection 8 rfl) 0 rfl ?_
      exact q_zret (dat d_M_noSection 9 rfl) rfl (z01 (by decide)) (show 0 ≤ 0 by decide) (show 0 ≤ 0 by decide) ⟨by first | exact vr1 (Or.inl h1) | exact vr1 (Or.inr h9) | exact vr0 (fun h => h.elim h1 h9), rfl⟩
    · replace h9 := Int32.not_lt.mp h9
      refine n_iconst (dat d_M_noSection 6 rfl) 1 rfl ?_
      refine e_goto (dat d_M_noSection 7 rfl) (tgt := 17) (by decide) ?_
      exact q_zret (dat d_M_noSection 9 rfl) rfl (z01 (by decide)) (show 0 ≤ 0 by decide) (show 0 ≤ 0 by decide) ⟨by first | exact vr1 (Or.inl h1) | exact vr1 (Or.inr h9) | exact vr0 (fun h => h.elim h1 h9), rfl⟩
theorem t_M_noRoute {E : wE} {m : wM} {f : wF} {w : Int64} {x : Int32} (hW : Wv m) (hm : Rm m f) : Cr E i_M_noRoute 0 [.ref (wB E + 39), .int x] f w (some (.int (nI (if noR m x then 1 else 0)))) f := by
  have h12 := hW.S
  have h8 := hW.R
  replace hm := Rf.of hm
  refine cr_of rfl rfl rfl (show 2 ≤ 2 by decide) ?_
  refine e_iload_n (dat d_M_noRoute 0 rfl) 1 rfl rfl ?_
  refine e_if_lt (dat d_M_noRoute 1 rfl) (tgt := 12) (by decide) (fun h1 => ?_) (fun h1 => ?_)
  · refine n_iconst (dat d_M_noRoute 6 rfl) 1 rfl ?_
    refine e_goto (dat d_M_noRoute 7 rfl) (tgt := 17) (by decide) ?_
    exact q_zret (dat d_M_noRoute 9 rfl) rfl (z01 (by decide)) (show 0 ≤ 0 by decide) (show 0 ≤ 0 by decide) ⟨by first | exact vr1 (Or.inl h1) | exact vr1 (Or.inr h9) | exact vr0 (fun h => h.elim h1 h9), rfl⟩
  · refine e_iload_n (dat d_M_noRoute 2 rfl) 1 rfl rfl ?_
    refine e_aload_n (dat d_M_noRoute 3 rfl) 0 rfl rfl ?_
    refine s_gM (dat d_M_noRoute 4 rfl) 7 k_506 (by decide) rfl rfl (rmf7 hm) ?_
    refine e_icmp_lt (dat d_M_noRoute 5 rfl) (tgt := 16) (by decide) (fun h9 => ?_) (fun h9 => ?_)
    · replace h9 := Int32.not_le.mpr h9
      refine n_iconst (dat d_M_noRoute 8 rfl) 0 rfl ?_
      exact q_zret (dat d_M_noRoute 9 rfl) rfl (z01 (by decide)) (show 0 ≤ 0 by decide) (show 0 ≤ 0 by decide) ⟨by first | exact vr1 (Or.inl h1) | exact vr1 (Or.inr h9) | exact vr0 (fun h => h.elim h1 h9), rfl⟩
    · replace h9 := Int32.not_lt.mp h9
      refine n_iconst (dat d_M_noRoute 6 rfl) 1 rfl ?_
      refine e_goto (dat d_M_noRoute 7 rfl) (tgt := 17) (by decide) ?_
      exact q_zret (dat d_M_noRoute 9 rfl) rfl (z01 (by decide)) (show 0 ≤ 0 by decide) (show 0 ≤ 0 by decide) ⟨by first | exact vr1 (Or.inl h1) | exact vr1 (Or.inr h9) | exact vr0 (fun h => h.elim h1 h9), rfl⟩
theorem t_M_thrown {E : wE} {f : wF} {w : Int64} : Cr E i_M_thrown 0 [.ref (wB E + 39)] f w (some (.int (f 39 0))) f := by
  refine cr_of rfl rfl rfl (show 1 ≤ 1 by decide) ?_
  refine e_aload_n (dat d_M_thrown 0 rfl) 0 rfl rfl ?_
  refine s_gM (dat d_M_thrown 1 rfl) 0 k_499 (by decide) rfl rfl rfl ?_
  exact q_iret (dat d_M_thrown 2 rfl) rfl (show 0 ≤ 0 by decide) (show 0 ≤ 0 by decide) ⟨rfl, rfl⟩
theorem t_M_passes {E : wE} {f : wF} {w : Int64} {a : Nat} (ha : a < 64) : Cr E i_M_passes 0 [.int (nI a)] f w (some (.int (nI (if a < 3 then 1 else 0)))) f := by
  refine cr_of rfl rfl rfl (show 1 ≤ 1 by decide) ?_
  refine e_iload_n (dat d_M_passes 0 rfl) 0 rfl rfl ?_
  refine n_iconst (dat d_M_passes 1 rfl) 3 rfl ?_
  refine n_icmp_ge (dat d_M_passes 2 rfl) (tgt := 9) (by decide) (by omega) (by omega) (fun h2 => ?_) (fun h2 => ?_)
  · refine n_iconst (dat d_M_passes 5 rfl) 0 rfl ?_
    exact q_zret (dat d_M_passes 6 rfl) rfl (z01 (by decide)) (show 0 ≤ 0 by decide) (show 0 ≤ 0 by decide) ⟨by first | exact vr1 h2 | exact vr0 (by omega), rfl⟩
  · refine n_iconst (dat d_M_passes 3 rfl) 1 rfl ?_
    refine e_goto (dat d_M_passes 4 rfl) (tgt := 10) (by decide) ?_
    exact q_zret (dat d_M_passes 6 rfl) rfl (z01 (by decide)) (show 0 ≤ 0 by decide) (show 0 ≤ 0 by decide) ⟨by first | exact vr1 h2 | exact vr0 (by omega), rfl⟩
theorem t_M_positionOf {E : wE} {f : wF} {w : Int64} {a : Nat} (ha : a < 64) : Cr E i_M_positionOf 0 [.int (nI a)] f w (some (.int (posI a))) f := by
  refine cr_of rfl rfl rfl (show 1 ≤ 1 by decide) ?_
  refine e_iload_n (dat d_M_positionOf 0 rfl) 0 rfl rfl ?_
  refine n_if_ne (dat d_M_positionOf 1 rfl) (tgt := 8) (by decide) (by omega) (fun h1 => ?_) (fun h1 => ?_)
  · refine e_iload_n (dat d_M_positionOf 4 rfl) 0 rfl rfl ?_
    refine n_iconst (dat d_M_positionOf 5 rfl) 1 rfl ?_
    refine n_icmp_eq (dat d_M_positionOf 6 rfl) (tgt := 18) (by decide) (by omega) (by omega) (fun h10 => ?_) (fun h10 => ?_)
    · refine n_iconst (dat d_M_positionOf 10 rfl) 0 rfl ?_
      refine e_goto (dat d_M_positionOf 11 rfl) (tgt := 23) (by decide) ?_
      exact q_iret (dat d_M_positionOf 13 rfl) rfl (show 0 ≤ 0 by decide) (show 0 ≤ 0 by decide) ⟨by first | rw [posI, if_pos (by assumption)] | (rw [posI, if_neg h1, psn, if_pos (by omega)]) | (rw [posI, if_neg h1, psn, if_neg (by omega)]), rfl⟩
    · refine e_iload_n (dat d_M_positionOf 7 rfl) 0 rfl rfl ?_
      refine n_iconst (dat d_M_positionOf 8 rfl) 3 rfl ?_
      refine n_icmp_ne (dat d_M_positionOf 9 rfl) (tgt := 22) (by decide) (by omega) (by omega) (fun h15 => ?_) (fun h15 => ?_)
      · refine n_iconst (dat d_M_positionOf 12 rfl) 1 rfl ?_
        exact q_iret (dat d_M_positionOf 13 rfl) rfl (show 0 ≤ 0 by decide) (show 0 ≤ 0 by decide) ⟨by first | rw [posI, if_pos (by assumption)] | (rw [posI, if_neg h1, psn, if_pos (by omega)]) | (rw [posI, if_neg h1, psn, if_neg (by omega)]), rfl⟩
      · refine n_iconst (dat d_M_positionOf 10 rfl) 0 rfl ?_
        refine e_goto (dat d_M_positionOf 11 rfl) (tgt := 23) (by decide) ?_
        exact q_iret (dat d_M_positionOf 13 rfl) rfl (show 0 ≤ 0 by decide) (show 0 ≤ 0 by decide) ⟨by first | rw [posI, if_pos (by assumption)] | (rw [posI, if_neg h1, psn, if_pos (by omega)]) | (rw [posI, if_neg h1, psn, if_neg (by omega)]), rfl⟩
  · refine e_iconst (v := -1) (dat d_M_positionOf 2 rfl) rfl ?_
    refine e_goto (dat d_M_positionOf 3 rfl) (tgt := 23) (by decide) ?_
    exact q_iret (dat d_M_positionOf 13 rfl) rfl (show 0 ≤ 0 by decide) (show 0 ≤ 0 by decide) ⟨by first | rw [posI, if_pos (by assumption)] | (rw [posI, if_neg h1, psn, if_pos (by omega)]) | (rw [posI, if_neg h1, psn, if_neg (by omega)]), rfl⟩
theorem t_M_release {E : wE} {m : wM} {f : wF} {w : Int64} {r : Nat} (hW : Wv m) (hm : Rm m f) (hr : r < 8) : Cq E i_M_release 0 0 0 [.ref (wB E + 39), .int (nI r)] f w (fun v9 f9 => v9 = none ∧ Rm (rel m r) f9 ∧ fr9 f f9) (fun _ => False) := by
  have h12 := hW.S
  have h8 := hW.R
  replace hm := Rf.of hm
  refine cq_of rfl rfl rfl (show 2 ≤ 3 by decide) ?_
  have L : ∀ k, k ≤ 6 → ∀ f1, Rf (relN m r k) f f1 → Ev E (jq E i_M_release 0 0 0 f w (fun v9 f9 => v9 = none ∧ Rm (rel m r) f9 ∧ fr9 f f9) (fun _ => False)) 0 0 26 [(2, .int (nI (6 * r + k))), (0, .ref (wB E + 39)), (1, .int (nI r))] [] f1 g0 w 57 := by
    apply lp_ind
    intro k hk ih f1 hm
    refine e_iload_n (dat d_M_release 19 rfl) 0 rfl rfl ?_
    refine n_bipush (dat d_M_release 20 rfl) 6 rfl ?_
    refine e_iload_n (dat d_M_release 21 rfl) 2 rfl rfl ?_
    refine n_imul (dat d_M_release 22 rfl) ?_
    refine n_bipush (dat d_M_release 23 rfl) 6 rfl ?_
    refine n_iadd (dat d_M_release 24 rfl) ?_
    refine n_icmp_ge (dat d_M_release 25 rfl) (tgt := 57) (by decide) (by omega) (by omega) (fun h34 => ?_) (fun h34 => ?_)
    · exact q_vret (dat d_M_release 38 rfl) rfl (show 0 ≤ 0 by decide) (show 0 ≤ 0 by decide) ⟨rfl, by (have e : k = 6 := by omega); subst e; exact hm.1, hm.2⟩
    · refine e_aload_n (dat d_M_release 26 rfl) 1 rfl rfl ?_
      refine s_qM (t := 54) (dat d_M_release 27 rfl) 17 k_516 (by decide) rfl rfl rfl ?_
      refine e_iload_n (dat d_M_release 28 rfl) 0 rfl rfl ?_
      refine n_iconst (dat d_M_release 29 rfl) 0 rfl ?_
      refine m_bst (N := 48) (dat d_M_release 30 rfl) rfl (by decide) rfl rfl (by omega) (by decide) (by omega) hm (fun hm => ?_)
      refine e_aload_n (dat d_M_release 31 rfl) 1 rfl rfl ?_
      refine s_qM (t := 55) (dat d_M_release 32 rfl) 18 k_517 (by decide) rfl rfl rfl ?_
      refine e_iload_n (dat d_M_release 33 rfl) 0 rfl rfl ?_
      refine n_iconst (dat d_M_release 34 rfl) 0 rfl ?_
      refine m_bst (N := 48) (dat d_M_release 35 rfl) rfl (by decide) rfl rfl (by omega) (by decide) (by omega) hm (fun hm => ?_)
      refine n_iinc (q := 0) (dat d_M_release 36 rfl) rfl (show 2 < 3 by decide) (lv2 := [(2, _), (0, _), (1, _)]) rfl ?_
      refine e_goto (dat d_M_release 37 rfl) (tgt := 26) (by decide) ?_
      rw [relN_s] at hm
      exact ih (by omega) _ hm
  refine e_aload_n (dat d_M_release 0 rfl) 0 rfl rfl ?_
  refine s_qM (t := 48) (dat d_M_release 1 rfl) 11 k_510 (by decide) rfl rfl rfl ?_
  refine e_iload_n (dat d_M_release 2 rfl) 1 rfl rfl ?_
  refine n_iconst (dat d_M_release 3 rfl) 0 rfl ?_
  refine m_ist (N := 8) (dat d_M_release 4 rfl) rfl (by decide) rfl rfl (by omega) (by decide) hm (fun hm => ?_)
  refine e_aload_n (dat d_M_release 5 rfl) 0 rfl rfl ?_
  refine s_qM (t := 49) (dat d_M_release 6 rfl) 12 k_511 (by decide) rfl rfl rfl ?_
  refine e_iload_n (dat d_M_release 7 rfl) 1 rfl rfl ?_
  refine n_iconst (dat d_M_release 8 rfl) 0 rfl ?_
  refine m_ist (N := 8) (dat d_M_release 9 rfl) rfl (by decide) rfl rfl (by omega) (by decide) hm (fun hm => ?_)
  refine e_aload_n (dat d_M_release 10 rfl) 0 rfl rfl ?_
  refine s_qM (t := 50) (dat d_M_release 11 rfl) 13 k_512 (by decide) rfl rfl rfl ?_
  refine e_iload_n (dat d_M_release 12 rfl) 1 rfl rfl ?_
  refine n_iconst (dat d_M_release 13 rfl) 0 rfl ?_
  refine m_bst (N := 8) (dat d_M_release 14 rfl) rfl (by decide) rfl rfl (by omega) (by decide) (by omega) hm (fun hm => ?_)
  refine n_bipush (dat d_M_release 15 rfl) 6 rfl ?_
  refine e_iload_n (dat d_M_release 16 rfl) 1 rfl rfl ?_
  refine n_imul (dat d_M_release 17 rfl) ?_
  refine e_istore_n (dat d_M_release 18 rfl) rfl (show 2 < 3 by decide) (lv2 := [(2, _), (0, _), (1, _)]) rfl ?_
  rw [relN_0] at hm
  exact L 0 (Nat.zero_le _) _ hm
theorem t_M_usesAlready {E : wE} {m : wM} {f : wF} {w : Int64} {r s : Nat} (hW : Wv m) (hm : Rm m f) (hr : r < m 39 7) (hs : s < 64) : Cr E i_M_usesAlready 0 [.ref (wB E + 39), .int (nI r), .int (nI s)] f w (some (.int (nI (@ite Nat (∀ k, k < m 51 r → m 52 (6 * r + k) ≠ s) (Classical.propDecidable _) 0 1)))) f := by
  have h12 := hW.S
  have h8 := hW.R
  replace hm := Rf.of hm
  refine cr_of rfl rfl rfl (show 3 ≤ 5 by decide) ?_
  have h6 := hW.N hr
  have L : ∀ k, k ≤ m 51 r → Ev E (jr E i_M_usesAlready 0 f w (some (.int (nI (@ite Nat (∀ k, k < m 51 r → m 52 (6 * r + k) ≠ s) (Classical.propDecidable _) 0 1)))) f) 0 0 8 [(4, .int (nI (6 * r + k))), (3, .int (nI (@ite Nat (∀ z, z < k → m 52 (6 * r + z) ≠ s) (Classical.propDecidable _) 0 1))), (0, .ref (wB E + 39)), (1, .int (nI r)), (2, .int (nI s))] [] f g0 w 57 := by
    apply lp_ind
    intro k hk ih
    refine e_iload (dat d_M_usesAlready 6 rfl) 0 rfl ?_
    refine n_bipush (dat d_M_usesAlready 7 rfl) 6 rfl ?_
    refine e_iload_n (dat d_M_usesAlready 8 rfl) 3 rfl rfl ?_
    refine n_imul (dat d_M_usesAlready 9 rfl) ?_
    refine e_aload_n (dat d_M_usesAlready 10 rfl) 2 rfl rfl ?_
    refine s_qM (t := 51) (dat d_M_usesAlready 11 rfl) 14 k_513 (by decide) rfl rfl rfl ?_
    refine e_iload_n (dat d_M_usesAlready 12 rfl) 3 rfl rfl ?_
    refine s_ild (N := 8) (dat d_M_usesAlready 13 rfl) rfl (by decide) rfl rfl (by omega) (rmf hm (by decide)) ?_
    refine n_iadd (dat d_M_usesAlready 14 rfl) ?_
    refine n_icmp_ge (dat d_M_usesAlready 15 rfl) (tgt := 51) (by decide) (by have := hW.b 51 r; omega) (by have := hW.b 51 r; omega) (fun h21 => ?_) (fun h21 => ?_)
    · refine e_iload_n (dat d_M_usesAlready 30 rfl) 1 rfl rfl ?_
      exact q_zret (dat d_M_usesAlready 31 rfl) rfl (by split <;> exact z01 (by decide)) (show 0 ≤ 0 by decide) (show 0 ≤ 0 by decide) ⟨by rw [show m 51 r = k by omega], rfl⟩
    · refine e_iload_n (dat d_M_usesAlready 16 rfl) 1 rfl rfl ?_
      refine n_if_ne (dat d_M_usesAlready 17 rfl) (tgt := 39) (by decide) if_lt0 (fun h25 => ?_) (fun h25 => ?_)
      · replace h25 := if_p0 h25
        refine n_iconst (dat d_M_usesAlready 24 rfl) 1 rfl ?_
        refine e_goto (dat d_M_usesAlready 25 rfl) (tgt := 44) (by decide) ?_
        refine e_istore_n (dat d_M_usesAlready 27 rfl) rfl (show 3 < 5 by decide) (lv2 := [(3, _), (4, _), (0, _), (1, _), (2, _)]) rfl ?_
        refine n_iinc (q := 1) (dat d_M_usesAlready 28 rfl) rfl (show 4 < 5 by decide) (lv2 := [(4, _), (3, _), (0, _), (1, _), (2, _)]) rfl ?_
        refine e_goto (dat d_M_usesAlready 29 rfl) (tgt := 8) (by decide) ?_
        have e9 : (@ite Nat (∀ z, z < k + 1 → m 52 (6 * r + z) ≠ s) (Classical.propDecidable _) 0 1) = 1 := by
          first
            | (rw [if_neg (fun h => h25 (fun z hz => h z (by omega)))])
            | (rw [if_neg (fun h => h k (by omega) h36)])
        have ih9 := ih (by omega)
        rw [e9] at ih9
        exact ih9
      · replace h25 := if_n0 h25
        refine e_aload_n (dat d_M_usesAlready 18 rfl) 2 rfl rfl ?_
        refine s_qM (t := 52) (dat d_M_usesAlready 19 rfl) 15 k_514 (by decide) rfl rfl rfl ?_
        refine e_iload (dat d_M_usesAlready 20 rfl) 0 rfl ?_
        refine s_ild (N := 48) (dat d_M_usesAlready 21 rfl) rfl (by decide) rfl rfl (by omega) (rmf hm (by decide)) ?_
        refine e_iload_n (dat d_M_usesAlready 22 rfl) 4 rfl rfl ?_
        refine n_icmp_ne (dat d_M_usesAlready 23 rfl) (tgt := 43) (by decide) (lt64 (hW.b _ _)) (by omega) (fun h36 => ?_) (fun h36 => ?_)
        · refine n_iconst (dat d_M_usesAlready 26 rfl) 0 rfl ?_
          refine e_istore_n (dat d_M_usesAlready 27 rfl) rfl (show 3 < 5 by decide) (lv2 := [(3, _), (4, _), (0, _), (1, _), (2, _)]) rfl ?_
          refine n_iinc (q := 1) (dat d_M_usesAlready 28 rfl) rfl (show 4 < 5 by decide) (lv2 := [(4, _), (3, _), (0, _), (1, _), (2, _)]) rfl ?_
          refine e_goto (dat d_M_usesAlready 29 rfl) (tgt := 8) (by decide) ?_
          have e9 : (@ite Nat (∀ z, z < k + 1 → m 52 (6 * r + z) ≠ s) (Classical.propDecidable _) 0 1) = 0 := by
            rw [if_pos (fun z hz => ?_)]
            by_cases e : z = k
            · rw [e]
              exact h36
            · exact h25 z (by omega)
          have ih9 := ih (by omega)
          rw [e9] at ih9
          exact ih9
        · refine n_iconst (dat d_M_usesAlready 24 rfl) 1 rfl ?_
          refine e_goto (dat d_M_usesAlready 25 rfl) (tgt := 44) (by decide) ?_
          refine e_istore_n (dat d_M_usesAlready 27 rfl) rfl (show 3 < 5 by decide) (lv2 := [(3, _), (4, _), (0, _), (1, _), (2, _)]) rfl ?_
          refine n_iinc (q := 1) (dat d_M_usesAlready 28 rfl) rfl (show 4 < 5 by decide) (lv2 := [(4, _), (3, _), (0, _), (1, _), (2, _)]) rfl ?_
          refine e_goto (dat d_M_usesAlready 29 rfl) (tgt := 8) (by decide) ?_
          have e9 : (@ite Nat (∀ z, z < k + 1 → m 52 (6 * r + z) ≠ s) (Classical.propDecidable _) 0 1) = 1 := by
            first
              | (rw [if_neg (fun h => h25 (fun z hz => h z (by omega)))])
              | (rw [if_neg (fun h => h k (by omega) h36)])
          have ih9 := ih (by omega)
          rw [e9] at ih9
          exact ih9
  refine n_iconst (dat d_M_usesAlready 0 rfl) 0 rfl ?_
  refine e_istore_n (dat d_M_usesAlready 1 rfl) rfl (show 3 < 5 by decide) (lv2 := [(3, _), (0, _), (1, _), (2, _)]) rfl ?_
  refine n_bipush (dat d_M_usesAlready 2 rfl) 6 rfl ?_
  refine e_iload_n (dat d_M_usesAlready 3 rfl) 2 rfl rfl ?_
  refine n_imul (dat d_M_usesAlready 4 rfl) ?_
  refine e_istore (dat d_M_usesAlready 5 rfl) (show 4 < 5 by decide) (lv2 := [(4, _), (3, _), (0, _), (1, _), (2, _)]) rfl ?_
  have L0 := L 0 (Nat.zero_le _)
  rw [if_pos (fun z hz => absurd hz (Nat.not_lt_zero _))] at L0
  exact L0
theorem t_M_found {E : wE} {m : wM} {f : wF} {w : Int64} {s : Nat} {x : Int32} (hW : Wv m) (hm : Rm m f) (hs : s < 12) : Cr E i_M_found 0 [.ref (wB E + 39), .int (nI s), .int x] f w (some (.int (nI (@ite Nat (nI (m 42 s) = x ∧ m 43 s = 0 ∧ m 44 s = 0) (Classical.propDecidable _) 1 0)))) f := by
  have h12 := hW.S
  have h8 := hW.R
  replace hm := Rf.of hm
  refine cr_of rfl rfl rfl (show 3 ≤ 3 by decide) ?_
  refine e_aload_n (dat d_M_found 0 rfl) 0 rfl rfl ?_
  refine s_qM (t := 42) (dat d_M_found 1 rfl) 4 k_503 (by decide) rfl rfl rfl ?_
  refine e_iload_n (dat d_M_found 2 rfl) 1 rfl rfl ?_
  refine s_ild (N := 12) (dat d_M_found 3 rfl) rfl (by decide) rfl rfl (by omega) (rmf hm (by decide)) ?_
  refine e_iload_n (dat d_M_found 4 rfl) 2 rfl rfl ?_
  refine e_icmp_ne (dat d_M_found 5 rfl) (tgt := 32) (by decide) (fun h7 => ?_) (fun h7 => ?_)
  · refine n_iconst (dat d_M_found 18 rfl) 0 rfl ?_
    exact q_zret (dat d_M_found 19 rfl) rfl (z01 (by decide)) (show 0 ≤ 0 by decide) (show 0 ≤ 0 by decide) ⟨by first | exact vr1 ⟨h7, h16, h25⟩ | exact vr0 (fun h => h25 h.2.2) | exact vr0 (fun h => h16 h.2.1) | exact vr0 (fun h => h7 h.1), rfl⟩
  · refine e_aload_n (dat d_M_found 6 rfl) 0 rfl rfl ?_
    refine s_qM (t := 43) (dat d_M_found 7 rfl) 5 k_504 (by decide) rfl rfl rfl ?_
    refine e_iload_n (dat d_M_found 8 rfl) 1 rfl rfl ?_
    refine s_ild (N := 12) (dat d_M_found 9 rfl) rfl (by decide) rfl rfl (by omega) (rmf hm (by decide)) ?_
    refine n_if_ne (dat d_M_found 10 rfl) (tgt := 32) (by decide) (lt64 (hW.b _ _)) (fun h16 => ?_) (fun h16 => ?_)
    · refine n_iconst (dat d_M_found 18 rfl) 0 rfl ?_
      exact q_zret (dat d_M_found 19 rfl) rfl (z01 (by decide)) (show 0 ≤ 0 by decide) (show 0 ≤ 0 by decide) ⟨by first | exact vr1 ⟨h7, h16, h25⟩ | exact vr0 (fun h => h25 h.2.2) | exact vr0 (fun h => h16 h.2.1) | exact vr0 (fun h => h7 h.1), rfl⟩
    · refine e_aload_n (dat d_M_found 11 rfl) 0 rfl rfl ?_
      refine s_qM (t := 44) (dat d_M_found 12 rfl) 6 k_505 (by decide) rfl rfl rfl ?_
      refine e_iload_n (dat d_M_found 13 rfl) 1 rfl rfl ?_
      refine s_bld (N := 12) (dat d_M_found 14 rfl) rfl (by decide) rfl rfl (by omega) (rmf hm (by decide)) ?_
      refine n_if_ne (dat d_M_found 15 rfl) (tgt := 32) (by decide) (lt64 (hW.b _ _)) (fun h25 => ?_) (fun h25 => ?_)
      · refine n_iconst (dat d_M_found 18 rfl) 0 rfl ?_
        exact q_zret (dat d_M_found 19 rfl) rfl (z01 (by decide)) (show 0 ≤ 0 by decide) (show 0 ≤ 0 by decide) ⟨by first | exact vr1 ⟨h7, h16, h25⟩ | exact vr0 (fun h => h25 h.2.2) | exact vr0 (fun h => h16 h.2.1) | exact vr0 (fun h => h7 h.1), rfl⟩
      · refine n_iconst (dat d_M_found 16 rfl) 1 rfl ?_
        refine e_goto (dat d_M_found 17 rfl) (tgt := 33) (by decide) ?_
        exact q_zret (dat d_M_found 19 rfl) rfl (z01 (by decide)) (show 0 ≤ 0 by decide) (show 0 ≤ 0 by decide) ⟨by first | exact vr1 ⟨h7, h16, h25⟩ | exact vr0 (fun h => h25 h.2.2) | exact vr0 (fun h => h16 h.2.1) | exact vr0 (fun h => h7 h.1), rfl⟩
theorem t_M_want {E : wE} {m : wM} {f : wF} {w : Int64} {s p : Nat} (hW : Wv m) (hm : Rm m f) (hs : s < 12) (hp : p < 64) : Cq E i_M_want 0 0 0 [.ref (wB E + 39), .int (nI s), .int (nI p)] f w (fun v9 f9 => v9 = none ∧ Rm (wnt m s p) f9 ∧ fr9 f f9) (fun _ => False) := by
  have h12 := hW.S
  have h8 := hW.R
  replace hm := Rf.of hm
  refine cq_of rfl rfl rfl (show 3 ≤ 3 by decide) ?_
  refine e_aload_n (dat d_M_want 0 rfl) 0 rfl rfl ?_
  refine s_qM (t := 42) (dat d_M_want 1 rfl) 4 k_503 (by decide) rfl rfl rfl ?_
  refine e_iload_n (dat d_M_want 2 rfl) 1 rfl rfl ?_
  refine s_ild (N := 12) (dat d_M_want 3 rfl) rfl (by decide) rfl rfl (by omega) (rmf hm (by decide)) ?_
  refine e_iload_n (dat d_M_want 4 rfl) 2 rfl rfl ?_
  refine n_icmp_eq (dat d_M_want 5 rfl) (tgt := 24) (by decide) (lt64 (hW.b _ _)) (by omega) (fun h7 => ?_) (fun h7 => ?_)
  · exact q_vret (dat d_M_want 16 rfl) rfl (show 0 ≤ 0 by decide) (show 0 ≤ 0 by decide) ⟨rfl, by first | exact wnt_eq h7 ▸ hm.1 | exact wnt_ne h7 ▸ hm.1, hm.2⟩
  · refine e_aload_n (dat d_M_want 6 rfl) 0 rfl rfl ?_
    refine s_qM (t := 42) (dat d_M_want 7 rfl) 4 k_503 (by decide) rfl rfl rfl ?_
    refine e_iload_n (dat d_M_want 8 rfl) 1 rfl rfl ?_
    refine e_iload_n (dat d_M_want 9 rfl) 2 rfl rfl ?_
    refine m_ist (N := 12) (dat d_M_want 10 rfl) rfl (by decide) rfl rfl (by omega) (by decide) hm (fun hm => ?_)
    refine e_aload_n (dat d_M_want 11 rfl) 0 rfl rfl ?_
    refine s_qM (t := 43) (dat d_M_want 12 rfl) 5 k_504 (by decide) rfl rfl rfl ?_
    refine e_iload_n (dat d_M_want 13 rfl) 1 rfl rfl ?_
    refine n_iconst (dat d_M_want 14 rfl) 3 rfl ?_
    refine m_ist (N := 12) (dat d_M_want 15 rfl) rfl (by decide) rfl rfl (by omega) (by decide) hm (fun hm => ?_)
    exact q_vret (dat d_M_want 16 rfl) rfl (show 0 ≤ 0 by decide) (show 0 ≤ 0 by decide) ⟨rfl, by first | exact wnt_eq h7 ▸ hm.1 | exact wnt_ne h7 ▸ hm.1, hm.2⟩
theorem t_M_meet {E : wE} {m : wM} {f : wF} {w : Int64} {u v : Nat} (hW : Wv m) (hm : Rm m f) (hu : u < 48) (hv : v < 48) : Cr E i_M_meet 1 [.ref (wB E + 39), .int (nI u), .int (nI v)] f w (some (.int (nI (@ite Nat (meetP m u v) (Classical.propDecidable _) 1 0)))) f := by
  have h12 := hW.S
  have h8 := hW.R
  replace hm := Rf.of hm
  refine cr_of rfl rfl rfl (show 3 ≤ 3 by decide) ?_
  refine e_aload_n (dat d_M_meet 0 rfl) 0 rfl rfl ?_
  refine s_qM (t := 52) (dat d_M_meet 1 rfl) 15 k_514 (by decide) rfl rfl rfl ?_
  refine e_iload_n (dat d_M_meet 2 rfl) 1 rfl rfl ?_
  refine s_ild (N := 48) (dat d_M_meet 3 rfl) rfl (by decide) rfl rfl (by omega) (rmf hm (by decide)) ?_
  refine e_aload_n (dat d_M_meet 4 rfl) 0 rfl rfl ?_
  refine s_qM (t := 52) (dat d_M_meet 5 rfl) 15 k_514 (by decide) rfl rfl rfl ?_
  refine e_iload_n (dat d_M_meet 6 rfl) 2 rfl rfl ?_
  refine s_ild (N := 48) (dat d_M_meet 7 rfl) rfl (by decide) rfl rfl (by omega) (rmf hm (by decide)) ?_
  refine n_icmp_eq (dat d_M_meet 8 rfl) (tgt := 17) (by decide) (lt64 (hW.b _ _)) (lt64 (hW.b _ _)) (fun h12 => ?_) (fun h12 => ?_)
  · refine e_aload_n (dat d_M_meet 11 rfl) 0 rfl rfl ?_
    refine s_qM (t := 53) (dat d_M_meet 12 rfl) 16 k_515 (by decide) rfl rfl rfl ?_
    refine e_iload_n (dat d_M_meet 13 rfl) 1 rfl rfl ?_
    refine s_ild (N := 48) (dat d_M_meet 14 rfl) rfl (by decide) rfl rfl (by omega) (rmf hm (by decide)) ?_
    refine r_callS (t_M_passes (hW.b _ _)) c_M_passes (dat d_M_meet 15 rfl) rfl k_602 rfl (show 0 ≤ 8 by decide) ⟨show 1 ≤ 1 by decide, show 20 ≤ 30 by decide⟩ ⟨show 0 ≤ 0 by decide, show 0 ≤ 0 by decide⟩ ?_
    refine n_if_eq (dat d_M_meet 16 rfl) (tgt := 41) (by decide) if_lt (fun h26 => ?_) (fun h26 => ?_)
    · replace h26 := if_n h26
      refine e_aload_n (dat d_M_meet 23 rfl) 0 rfl rfl ?_
      refine s_qM (t := 53) (dat d_M_meet 24 rfl) 16 k_515 (by decide) rfl rfl rfl ?_
      refine e_iload_n (dat d_M_meet 25 rfl) 1 rfl rfl ?_
      refine s_ild (N := 48) (dat d_M_meet 26 rfl) rfl (by decide) rfl rfl (by omega) (rmf hm (by decide)) ?_
      refine n_if_le (dat d_M_meet 27 rfl) (tgt := 75) (by decide) (lt64 (hW.b _ _)) (fun h47 => ?_) (fun h47 => ?_)
      · refine n_iconst (dat d_M_meet 41 rfl) 0 rfl ?_
        exact q_zret (dat d_M_meet 42 rfl) rfl (z01 (by decide)) (show 0 ≤ 0 by decide) (show 0 ≤ 0 by decide) ⟨by first | exact vr1 ⟨h12, Or.inl ⟨h26, h38⟩⟩ | exact vr1 ⟨h12, Or.inr ⟨by omega, h68⟩⟩ | exact vr0 (fun h => h.2.elim (fun h => by first | exact h26 h.1 | exact h38 h.2) (fun h => by first | exact h.1 (by omega) | exact h.2 h68)), rfl⟩
      · refine e_aload_n (dat d_M_meet 28 rfl) 0 rfl rfl ?_
        refine s_qM (t := 53) (dat d_M_meet 29 rfl) 16 k_515 (by decide) rfl rfl rfl ?_
        refine e_iload_n (dat d_M_meet 30 rfl) 1 rfl rfl ?_
        refine s_ild (N := 48) (dat d_M_meet 31 rfl) rfl (by decide) rfl rfl (by omega) (rmf hm (by decide)) ?_
        refine r_callS (t_M_positionOf (hW.b _ _)) c_M_positionOf (dat d_M_meet 32 rfl) rfl k_605 rfl (show 0 ≤ 8 by decide) ⟨show 1 ≤ 1 by decide, show 20 ≤ 30 by decide⟩ ⟨show 0 ≤ 0 by decide, show 0 ≤ 0 by decide⟩ ?_
        refine e_aload_n (dat d_M_meet 33 rfl) 0 rfl rfl ?_
        refine s_qM (t := 53) (dat d_M_meet 34 rfl) 16 k_515 (by decide) rfl rfl rfl ?_
        refine e_iload_n (dat d_M_meet 35 rfl) 2 rfl rfl ?_
        refine s_ild (N := 48) (dat d_M_meet 36 rfl) rfl (by decide) rfl rfl (by omega) (rmf hm (by decide)) ?_
        refine r_callS (t_M_positionOf (hW.b _ _)) c_M_positionOf (dat d_M_meet 37 rfl) rfl k_605 rfl (show 1 ≤ 8 by decide) ⟨show 1 ≤ 1 by decide, show 20 ≤ 30 by decide⟩ ⟨show 0 ≤ 0 by decide, show 0 ≤ 0 by decide⟩ ?_
        refine e_icmp_eq (dat d_M_meet 38 rfl) (tgt := 75) (by decide) (fun h68 => ?_) (fun h68 => ?_)
        · refine n_iconst (dat d_M_meet 41 rfl) 0 rfl ?_
          exact q_zret (dat d_M_meet 42 rfl) rfl (z01 (by decide)) (show 0 ≤ 0 by decide) (show 0 ≤ 0 by decide) ⟨by first | exact vr1 ⟨h12, Or.inl ⟨h26, h38⟩⟩ | exact vr1 ⟨h12, Or.inr ⟨by omega, h68⟩⟩ | exact vr0 (fun h => h.2.elim (fun h => by first | exact h26 h.1 | exact h38 h.2) (fun h => by first | exact h.1 (by omega) | exact h.2 h68)), rfl⟩
        · refine n_iconst (dat d_M_meet 39 rfl) 1 rfl ?_
          refine e_goto (dat d_M_meet 40 rfl) (tgt := 76) (by decide) ?_
          exact q_zret (dat d_M_meet 42 rfl) rfl (z01 (by decide)) (show 0 ≤ 0 by decide) (show 0 ≤ 0 by decide) ⟨by first | exact vr1 ⟨h12, Or.inl ⟨h26, h38⟩⟩ | exact vr1 ⟨h12, Or.inr ⟨by omega, h68⟩⟩ | exact vr0 (fun h => h.2.elim (fun h => by first | exact h26 h.1 | exact h38 h.2) (fun h => by first | exact h.1 (by omega) | exact h.2 h68)), rfl⟩
    · replace h26 := if_p h26
      refine e_aload_n (dat d_M_meet 17 rfl) 0 rfl rfl ?_
      refine s_qM (t := 53) (dat d_M_meet 18 rfl) 16 k_515 (by decide) rfl rfl rfl ?_
      refine e_iload_n (dat d_M_meet 19 rfl) 2 rfl rfl ?_
      refine s_ild (N := 48) (dat d_M_meet 20 rfl) rfl (by decide) rfl rfl (by omega) (rmf hm (by decide)) ?_
      refine r_callS (t_M_passes (hW.b _ _)) c_M_passes (dat d_M_meet 21 rfl) rfl k_602 rfl (show 0 ≤ 8 by decide) ⟨show 1 ≤ 1 by decide, show 20 ≤ 30 by decide⟩ ⟨show 0 ≤ 0 by decide, show 0 ≤ 0 by decide⟩ ?_
      refine n_if_ne (dat d_M_meet 22 rfl) (tgt := 71) (by decide) if_lt (fun h38 => ?_) (fun h38 => ?_)
      · replace h38 := if_p h38
        refine n_iconst (dat d_M_meet 39 rfl) 1 rfl ?_
        refine e_goto (dat d_M_meet 40 rfl) (tgt := 76) (by decide) ?_
        exact q_zret (dat d_M_meet 42 rfl) rfl (z01 (by decide)) (show 0 ≤ 0 by decide) (show 0 ≤ 0 by decide) ⟨by first | exact vr1 ⟨h12, Or.inl ⟨h26, h38⟩⟩ | exact vr1 ⟨h12, Or.inr ⟨by omega, h68⟩⟩ | exact vr0 (fun h => h.2.elim (fun h => by first | exact h26 h.1 | exact h38 h.2) (fun h => by first | exact h.1 (by omega) | exact h.2 h68)), rfl⟩
      · replace h38 := if_n h38
        refine e_aload_n (dat d_M_meet 23 rfl) 0 rfl rfl ?_
        refine s_qM (t := 53) (dat d_M_meet 24 rfl) 16 k_515 (by decide) rfl rfl rfl ?_
        refine e_iload_n (dat d_M_meet 25 rfl) 1 rfl rfl ?_
        refine s_ild (N := 48) (dat d_M_meet 26 rfl) rfl (by decide) rfl rfl (by omega) (rmf hm (by decide)) ?_
        refine n_if_le (dat d_M_meet 27 rfl) (tgt := 75) (by decide) (lt64 (hW.b _ _)) (fun h47 => ?_) (fun h47 => ?_)
        · refine n_iconst (dat d_M_meet 41 rfl) 0 rfl ?_
          exact q_zret (dat d_M_meet 42 rfl) rfl (z01 (by decide)) (show 0 ≤ 0 by decide) (show 0 ≤ 0 by decide) ⟨by first | exact vr1 ⟨h12, Or.inl ⟨h26, h38⟩⟩ | exact vr1 ⟨h12, Or.inr ⟨by omega, h68⟩⟩ | exact vr0 (fun h => h.2.elim (fun h => by first | exact h26 h.1 | exact h38 h.2) (fun h => by first | exact h.1 (by omega) | exact h.2 h68)), rfl⟩
        · refine e_aload_n (dat d_M_meet 28 rfl) 0 rfl rfl ?_
          refine s_qM (t := 53) (dat d_M_meet 29 rfl) 16 k_515 (by decide) rfl rfl rfl ?_
          refine e_iload_n (dat d_M_meet 30 rfl) 1 rfl rfl ?_
          refine s_ild (N := 48) (dat d_M_meet 31 rfl) rfl (by decide) rfl rfl (by omega) (rmf hm (by decide)) ?_
          refine r_callS (t_M_positionOf (hW.b _ _)) c_M_positionOf (dat d_M_meet 32 rfl) rfl k_605 rfl (show 0 ≤ 8 by decide) ⟨show 1 ≤ 1 by decide, show 20 ≤ 30 by decide⟩ ⟨show 0 ≤ 0 by decide, show 0 ≤ 0 by decide⟩ ?_
          refine e_aload_n (dat d_M_meet 33 rfl) 0 rfl rfl ?_
          refine s_qM (t := 53) (dat d_M_meet 34 rfl) 16 k_515 (by decide) rfl rfl rfl ?_
          refine e_iload_n (dat d_M_meet 35 rfl) 2 rfl rfl ?_
          refine s_ild (N := 48) (dat d_M_meet 36 rfl) rfl (by decide) rfl rfl (by omega) (rmf hm (by decide)) ?_
          refine r_callS (t_M_positionOf (hW.b _ _)) c_M_positionOf (dat d_M_meet 37 rfl) rfl k_605 rfl (show 1 ≤ 8 by decide) ⟨show 1 ≤ 1 by decide, show 20 ≤ 30 by decide⟩ ⟨show 0 ≤ 0 by decide, show 0 ≤ 0 by decide⟩ ?_
          refine e_icmp_eq (dat d_M_meet 38 rfl) (tgt := 75) (by decide) (fun h68 => ?_) (fun h68 => ?_)
          · refine n_iconst (dat d_M_meet 41 rfl) 0 rfl ?_
            exact q_zret (dat d_M_meet 42 rfl) rfl (z01 (by decide)) (show 0 ≤ 0 by decide) (show 0 ≤ 0 by decide) ⟨by first | exact vr1 ⟨h12, Or.inl ⟨h26, h38⟩⟩ | exact vr1 ⟨h12, Or.inr ⟨by omega, h68⟩⟩ | exact vr0 (fun h => h.2.elim (fun h => by first | exact h26 h.1 | exact h38 h.2) (fun h => by first | exact h.1 (by omega) | exact h.2 h68)), rfl⟩
          · refine n_iconst (dat d_M_meet 39 rfl) 1 rfl ?_
            refine e_goto (dat d_M_meet 40 rfl) (tgt := 76) (by decide) ?_
            exact q_zret (dat d_M_meet 42 rfl) rfl (z01 (by decide)) (show 0 ≤ 0 by decide) (show 0 ≤ 0 by decide) ⟨by first | exact vr1 ⟨h12, Or.inl ⟨h26, h38⟩⟩ | exact vr1 ⟨h12, Or.inr ⟨by omega, h68⟩⟩ | exact vr0 (fun h => h.2.elim (fun h => by first | exact h26 h.1 | exact h38 h.2) (fun h => by first | exact h.1 (by omega) | exact h.2 h68)), rfl⟩
  · refine n_iconst (dat d_M_meet 9 rfl) 0 rfl ?_
    exact q_zret (dat d_M_meet 10 rfl) rfl (z01 (by decide)) (show 0 ≤ 0 by decide) (show 0 ≤ 0 by decide) ⟨by exact vr0 (fun h => h12 h.1), rfl⟩
