theorem t_M_clear {E : wE} {m : wM} {f : wF} {w : Int64}  (hW : Wv m) (hm : Rm m f)  : Cq E i_M_clear 0 0 0 [.ref (wB E + 39)] f w (MV f 0 m (clrM m)) (fun _ => False) := by
  have h12 := hW.S
  have h8 := hW.R
  replace hm := Rf.of hm
  refine cq_of rfl rfl rfl (show 1 ≤ 1 by decide) ?_
  refine e_aload_n (dat d_M_clear 0 rfl) 0 rfl rfl ?_
  refine n_iconst (dat d_M_clear 1 rfl) 0 rfl ?_
  refine m_p0 (dat d_M_clear 2 rfl) k_499 hm (fun hm => ?_)
  refine e_aload_n (dat d_M_clear 3 rfl) 0 rfl rfl ?_
  refine n_iconst (dat d_M_clear 4 rfl) 0 rfl ?_
  refine m_p1 (dat d_M_clear 5 rfl) k_500 hm (fun hm => ?_)
  refine e_aload_n (dat d_M_clear 6 rfl) 0 rfl rfl ?_
  refine n_iconst (dat d_M_clear 7 rfl) 0 rfl ?_
  refine m_p7 (dat d_M_clear 8 rfl) k_506 hm (fun hm => ?_)
  exact q_vret (dat d_M_clear 9 rfl) rfl (show 0 ≤ 0 by decide) (show 0 ≤ 0 by decide) (mv_r (clr_eq ▸ hm.1) (hm.2) up2_eq fr8.rf.p0 (rfl))
theorem t_M_section {E : wE} {m : wM} {f : wF} {w : Int64} {b : Nat} (hW : Wv m) (hm : Rm m f) (hb : b ≤ 1) : Cq E i_M_section 0 0 0 [.ref (wB E + 39), .int (nI b)] f w (MO f (if m 39 1 = 12 then 1 else 0) m (secM m b) (nI (m 39 1))) (fun _ => False) := by
  have h12 := hW.S
  have h8 := hW.R
  replace hm := Rf.of hm
  refine cq_of rfl rfl rfl (show 2 ≤ 2 by decide) ?_
  refine e_aload_n (dat d_M_section 0 rfl) 0 rfl rfl ?_
  refine e_aload_n (dat d_M_section 1 rfl) 0 rfl rfl ?_
  refine s_gM (dat d_M_section 2 rfl) 1 k_500 (by decide) rfl rfl (rmf1 hm) ?_
  refine n_bipush (dat d_M_section 3 rfl) 12 rfl ?_
  refine n_icmp_ne (dat d_M_section 4 rfl) (tgt := 14) (by decide) (by omega) (by omega) (fun h7 => ?_) (fun h7 => ?_)
  · refine n_iconst (dat d_M_section 7 rfl) 0 rfl ?_
    refine m_p0 (dat d_M_section 8 rfl) k_499 hm (fun hm => ?_)
    refine e_aload_n (dat d_M_section 9 rfl) 0 rfl rfl ?_
    refine s_gM (dat d_M_section 10 rfl) 0 k_499 (by decide) rfl rfl up2_eq ?_
    refine n_if_le (dat d_M_section 11 rfl) (tgt := 27) (by decide) (by omega) (fun h22 => ?_) (fun h22 => ?_)
    · refine e_aload_n (dat d_M_section 14 rfl) 0 rfl rfl ?_
      refine s_qM (t := 40) (dat d_M_section 15 rfl) 2 k_501 (by decide) rfl rfl rfl ?_
      refine e_aload_n (dat d_M_section 16 rfl) 0 rfl rfl ?_
      refine s_gM (dat d_M_section 17 rfl) 1 k_500 (by decide) rfl rfl (rmf1e (a := m 39 1) hm rfl) ?_
      refine e_iload_n (dat d_M_section 18 rfl) 1 rfl rfl ?_
      refine m_bst (N := 12) (dat d_M_section 19 rfl) rfl (by decide) rfl rfl (by omega) (by decide) (by omega) hm (fun hm => ?_)
      refine e_aload_n (dat d_M_section 20 rfl) 0 rfl rfl ?_
      refine s_qM (t := 41) (dat d_M_section 21 rfl) 3 k_502 (by decide) rfl rfl rfl ?_
      refine e_aload_n (dat d_M_section 22 rfl) 0 rfl rfl ?_
      refine s_gM (dat d_M_section 23 rfl) 1 k_500 (by decide) rfl rfl (rmf1e (a := m 39 1) hm rfl) ?_
      refine n_iconst (dat d_M_section 24 rfl) 0 rfl ?_
      refine m_bst (N := 12) (dat d_M_section 25 rfl) rfl (by decide) rfl rfl (by omega) (by decide) (by omega) hm (fun hm => ?_)
      refine e_aload_n (dat d_M_section 26 rfl) 0 rfl rfl ?_
      refine s_qM (t := 42) (dat d_M_section 27 rfl) 4 k_503 (by decide) rfl rfl rfl ?_
      refine e_aload_n (dat d_M_section 28 rfl) 0 rfl rfl ?_
      refine s_gM (dat d_M_section 29 rfl) 1 k_500 (by decide) rfl rfl (rmf1e (a := m 39 1) hm rfl) ?_
      refine n_iconst (dat d_M_section 30 rfl) 0 rfl ?_
      refine m_ist (N := 12) (dat d_M_section 31 rfl) rfl (by decide) rfl rfl (by omega) (by decide) hm (fun hm => ?_)
      refine e_aload_n (dat d_M_section 32 rfl) 0 rfl rfl ?_
      refine s_qM (t := 43) (dat d_M_section 33 rfl) 5 k_504 (by decide) rfl rfl rfl ?_
      refine e_aload_n (dat d_M_section 34 rfl) 0 rfl rfl ?_
      refine s_gM (dat d_M_section 35 rfl) 1 k_500 (by decide) rfl rfl (rmf1e (a := m 39 1) hm rfl) ?_
      refine n_iconst (dat d_M_section 36 rfl) 0 rfl ?_
      refine m_ist (N := 12) (dat d_M_section 37 rfl) rfl (by decide) rfl rfl (by omega) (by decide) hm (fun hm => ?_)
      refine e_aload_n (dat d_M_section 38 rfl) 0 rfl rfl ?_
      refine s_qM (t := 44) (dat d_M_section 39 rfl) 6 k_505 (by decide) rfl rfl rfl ?_
      refine e_aload_n (dat d_M_section 40 rfl) 0 rfl rfl ?_
      refine s_gM (dat d_M_section 41 rfl) 1 k_500 (by decide) rfl rfl (rmf1e (a := m 39 1) hm rfl) ?_
      refine n_iconst (dat d_M_section 42 rfl) 0 rfl ?_
      refine m_bst (N := 12) (dat d_M_section 43 rfl) rfl (by decide) rfl rfl (by omega) (by decide) (by omega) hm (fun hm => ?_)
      refine e_aload_n (dat d_M_section 44 rfl) 0 rfl rfl ?_
      refine e_dup (dat d_M_section 45 rfl) rfl ?_
      refine s_gM (dat d_M_section 46 rfl) 1 k_500 (by decide) rfl rfl (rmf1e (a := m 39 1) hm rfl) ?_
      refine n_iconst (dat d_M_section 47 rfl) 1 rfl ?_
      refine n_iadd (dat d_M_section 48 rfl) ?_
      refine m_p1 (dat d_M_section 49 rfl) k_500 hm (fun hm => ?_)
      refine e_aload_n (dat d_M_section 50 rfl) 0 rfl rfl ?_
      refine s_gM (dat d_M_section 51 rfl) 1 k_500 (by decide) rfl rfl (rmf1e (a := m 39 1 + 1) hm rfl) ?_
      refine n_iconst (dat d_M_section 52 rfl) 1 rfl ?_
      refine n_isub1 (dat d_M_section 53 rfl) ?_
      exact q_iret (dat d_M_section 54 rfl) rfl (show 0 ≤ 0 by decide) (show 0 ≤ 0 by decide) (mo_r (sec_eq ▸ hm.1) (hm.2) up2_eq fr8.rf.p0 (if_neg h7) (rfl))
    · first | exact absurd rfl h22 | exact absurd h22 (by decide)
  · refine n_iconst (dat d_M_section 5 rfl) 1 rfl ?_
    refine e_goto (dat d_M_section 6 rfl) (tgt := 15) (by decide) ?_
    refine m_p0 (dat d_M_section 8 rfl) k_499 hm (fun hm => ?_)
    refine e_aload_n (dat d_M_section 9 rfl) 0 rfl rfl ?_
    refine s_gM (dat d_M_section 10 rfl) 0 k_499 (by decide) rfl rfl up2_eq ?_
    refine n_if_le (dat d_M_section 11 rfl) (tgt := 27) (by decide) (by omega) (fun h22 => ?_) (fun h22 => ?_)
    · first | exact absurd rfl h22 | exact absurd h22 (by decide)
    · refine n_iconst (dat d_M_section 12 rfl) 0 rfl ?_
      exact q_iret (dat d_M_section 13 rfl) rfl (show 0 ≤ 0 by decide) (show 0 ≤ 0 by decide) (mo_x hm up2_eq fr8.rf.p0 (if_pos h7) (by decide))
theorem t_M_cancel {E : wE} {m : wM} {f : wF} {w : Int64} {x : Int32} (hW : Wv m) (hm : Rm m f)  : Cq E i_M_cancel 3 0 0 [.ref (wB E + 39), .int x] f w (MO f (kR1 m x) m (canM2 m (ix x)) (nI (canA m (ix x)))) (fun _ => False) := by
  have hm0 := hm
  have h12 := hW.S
  have h8 := hW.R
  replace hm := Rf.of hm
  refine cq_of rfl rfl rfl (show 2 ≤ 2 by decide) ?_
  refine e_aload_n (dat d_M_cancel 0 rfl) 0 rfl rfl ?_
  refine e_aload_n (dat d_M_cancel 1 rfl) 0 rfl rfl ?_
  refine e_iload_n (dat d_M_cancel 2 rfl) 1 rfl rfl ?_
  refine r_call (t_M_noRoute hW hm0) c_M_noRoute (dat d_M_cancel 3 rfl) rfl k_586 rfl rfl (by decide) (by omega) rfl (show 1 ≤ 8 by decide) ⟨show 1 ≤ 3 by decide, show 21 ≤ 90 by decide⟩ ⟨show 0 ≤ 0 by decide, show 0 ≤ 0 by decide⟩ ?_
  refine n_if_eq (dat d_M_cancel 4 rfl) (tgt := 13) (by decide) if_lt (fun h6 => ?_) (fun h6 => ?_)
  · replace h6 := if_n h6
    obtain ⟨r, hr, rfl⟩ := ix_of (x := x) (N := m 39 7) (by omega) h6
    have hx := ix_nI (show r < 64 by omega)
    refine n_iconst (dat d_M_cancel 7 rfl) 0 rfl ?_
    refine m_p0 (dat d_M_cancel 8 rfl) k_499 hm (fun hm => ?_)
    refine e_aload_n (dat d_M_cancel 9 rfl) 0 rfl rfl ?_
    refine s_gM (dat d_M_cancel 10 rfl) 0 k_499 (by decide) rfl rfl up2_eq ?_
    refine n_if_le (dat d_M_cancel 11 rfl) (tgt := 26) (by decide) (by omega) (fun h21 => ?_) (fun h21 => ?_)
    · refine e_aload_n (dat d_M_cancel 14 rfl) 0 rfl rfl ?_
      refine s_qM (t := 48) (dat d_M_cancel 15 rfl) 11 k_510 (by decide) rfl rfl rfl ?_
      refine e_iload_n (dat d_M_cancel 16 rfl) 1 rfl rfl ?_
      refine s_ild (N := 8) (dat d_M_cancel 17 rfl) rfl (by decide) rfl rfl (by omega) (rmf hm (by decide)) ?_
      refine n_iconst (dat d_M_cancel 18 rfl) 1 rfl ?_
      refine n_icmp_eq (dat d_M_cancel 19 rfl) (tgt := 38) (by decide) (lt64 (hW.b _ _)) (by decide) (fun h33 => ?_) (fun h33 => ?_)
      · refine e_aload_n (dat d_M_cancel 22 rfl) 0 rfl rfl ?_
        refine s_qM (t := 50) (dat d_M_cancel 23 rfl) 13 k_512 (by decide) rfl rfl rfl ?_
        refine e_iload_n (dat d_M_cancel 24 rfl) 1 rfl rfl ?_
        refine s_bld (N := 8) (dat d_M_cancel 25 rfl) rfl (by decide) rfl rfl (by omega) (rmf hm (by decide)) ?_
        refine n_if_eq (dat d_M_cancel 26 rfl) (tgt := 68) (by decide) (lt64 (hW.b _ _)) (fun h44 => ?_) (fun h44 => ?_)
        · refine e_aload_n (dat d_M_cancel 42 rfl) 0 rfl rfl ?_
          refine e_iload_n (dat d_M_cancel 43 rfl) 1 rfl rfl ?_
          refine q_call (t_M_release hW hm.1 (by omega)) c_M_release (dat d_M_cancel 44 rfl) rfl k_578 rfl rfl (by decide) (by omega) rfl (show 0 ≤ 8 by decide) ⟨show 1 ≤ 3 by decide, show 22 ≤ 90 by decide⟩ ⟨show 0 ≤ 0 by decide, show 0 ≤ 0 by decide⟩ (fun v9 f9 h9 => ?_) (fun X9 h9 => h9.elim)
          obtain ⟨rfl, hm9, hf9⟩ := h9
          replace hm : Rf (rel m r) _ f9 := ⟨hm9, hm.2.tr hf9⟩
          refine e_aload_n (dat d_M_cancel 45 rfl) 0 rfl rfl ?_
          refine q_call (t_M_look (wv_rel hW) hm.1) c_M_look (dat d_M_cancel 46 rfl) rfl k_620 rfl rfl (by decide) (by omega) rfl (show 0 ≤ 8 by decide) ⟨show 3 ≤ 3 by decide, show 82 ≤ 90 by decide⟩ ⟨show 0 ≤ 0 by decide, show 0 ≤ 0 by decide⟩ (fun v9 f9 h9 => ?_) (fun X9 h9 => h9.elim)
          obtain ⟨rfl, hm9, hf9⟩ := h9
          refine n_iconst (dat d_M_cancel 47 rfl) 0 rfl ?_
          exact q_iret (dat d_M_cancel 48 rfl) rfl (show 0 ≤ 0 by decide) (show 0 ≤ 0 by decide) (mo_r (by rw [hx, canM2, if_pos h33, if_pos h44]; exact hm9) (hm.2.tr hf9) up2_eq fr8.rf.p0 (if_neg h6) (by rw [hx, canA, if_pos h33, if_pos h44]))
        · refine e_aload_n (dat d_M_cancel 27 rfl) 0 rfl rfl ?_
          refine s_qM (t := 48) (dat d_M_cancel 28 rfl) 11 k_510 (by decide) rfl rfl rfl ?_
          refine e_iload_n (dat d_M_cancel 29 rfl) 1 rfl rfl ?_
          refine n_iconst (dat d_M_cancel 30 rfl) 3 rfl ?_
          refine m_ist (N := 8) (dat d_M_cancel 31 rfl) rfl (by decide) rfl rfl (by omega) (by decide) hm (fun hm => ?_)
          refine e_aload_n (dat d_M_cancel 32 rfl) 0 rfl rfl ?_
          refine s_qM (t := 49) (dat d_M_cancel 33 rfl) 12 k_511 (by decide) rfl rfl rfl ?_
          refine e_iload_n (dat d_M_cancel 34 rfl) 1 rfl rfl ?_
          refine e_aload_n (dat d_M_cancel 35 rfl) 0 rfl rfl ?_
          refine s_qM (t := 47) (dat d_M_cancel 36 rfl) 10 k_509 (by decide) rfl rfl rfl ?_
          refine e_iload_n (dat d_M_cancel 37 rfl) 1 rfl rfl ?_
          refine s_ild (N := 8) (dat d_M_cancel 38 rfl) rfl (by decide) rfl rfl (by omega) (rmfe (c := m 47 r) hm (by decide) rfl) ?_
          refine m_ist (N := 8) (dat d_M_cancel 39 rfl) rfl (by decide) rfl rfl (by omega) (by decide) hm (fun hm => ?_)
          refine n_iconst (dat d_M_cancel 40 rfl) 1 rfl ?_
          exact q_iret (dat d_M_cancel 41 rfl) rfl (show 0 ≤ 0 by decide) (show 0 ≤ 0 by decide) (mo_r (by rw [hx, canM2, if_pos h33, if_neg h44, ← tim_eq]; exact hm.1) hm.2 up2_eq fr8.rf.p0 (if_neg h6) (by rw [hx, canA, if_pos h33, if_neg h44]))
      · refine n_iconst (dat d_M_cancel 20 rfl) 2 rfl ?_
        exact q_iret (dat d_M_cancel 21 rfl) rfl (show 0 ≤ 0 by decide) (show 0 ≤ 0 by decide) (mo_r (by rw [hx, canM2, if_neg h33]; exact hm.1) hm.2 up2_eq fr8.rf.p0 (if_neg h6) (by rw [hx, canA, if_neg h33]))
    · first | exact absurd rfl h21 | exact absurd h21 (by decide)
  · replace h6 := if_p h6
    refine n_iconst (dat d_M_cancel 5 rfl) 1 rfl ?_
    refine e_goto (dat d_M_cancel 6 rfl) (tgt := 14) (by decide) ?_
    refine m_p0 (dat d_M_cancel 8 rfl) k_499 hm (fun hm => ?_)
    refine e_aload_n (dat d_M_cancel 9 rfl) 0 rfl rfl ?_
    refine s_gM (dat d_M_cancel 10 rfl) 0 k_499 (by decide) rfl rfl up2_eq ?_
    refine n_if_le (dat d_M_cancel 11 rfl) (tgt := 26) (by decide) (by omega) (fun h21 => ?_) (fun h21 => ?_)
    · first | exact absurd rfl h21 | exact absurd h21 (by decide)
    · refine n_iconst (dat d_M_cancel 12 rfl) 0 rfl ?_
      exact q_iret (dat d_M_cancel 13 rfl) rfl (show 0 ≤ 0 by decide) (show 0 ≤ 0 by decide) (mo_x hm up2_eq fr8.rf.p0 (if_pos h6) (by decide))
