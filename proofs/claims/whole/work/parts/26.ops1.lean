theorem t_F_clear {E : wE} {m : wM} {f : wF} {w : Int64}  (hW : Wv m) (hC : Rc m f)  : Cq E i_F_clear 0 0 0 [.ref (wB E + 0)] f w (fun v9 f9 => v9 = none ∧ Rc (clrM m) f9 ∧ kp f f9) (fun _ => False) := by
  have h12 := hW.S
  have h8 := hW.R
  refine cq_of rfl rfl rfl (show 1 ≤ 1 by decide) ?_
  refine e_aload_n (dat d_F_clear 0 rfl) 0 rfl rfl ?_
  refine n_iconst (dat d_F_clear 1 rfl) 0 rfl ?_
  refine s_pF (dat d_F_clear 2 rfl) 2 k_104 (by decide) rfl rfl rfl rfl ?_
  refine e_aload_n (dat d_F_clear 3 rfl) 0 rfl rfl ?_
  refine n_iconst (dat d_F_clear 4 rfl) 0 rfl ?_
  refine s_pF (dat d_F_clear 5 rfl) 3 k_105 (by decide) rfl rfl rfl rfl ?_
  exact q_vret (dat d_F_clear 6 rfl) rfl (show 0 ≤ 0 by decide) (show 0 ≤ 0 by decide) ⟨rfl, rc_clr, (kp.rf.up (by decide)).up (by decide)⟩
theorem t_F_section {E : wE} {m : wM} {f : wF} {w : Int64} {b : Nat} (hW : Wv m) (hC : Rc m f) (hb : b ≤ 1) (hE : (wl E).stackTraces = false) : Cq E i_F_section 6 1 6 [.ref (wB E + 0), .int (nI b)] f w (fun v9 f9 => (if m 39 1 = 12 then 3 else 0) = 0 ∧ v9 = (some (.int (nI (m 39 1)))) ∧ Rc (secM m b) f9 ∧ kp f f9) (fun X9 => ex3 (if m 39 1 = 12 then 3 else 0) X9) := by
  have h12 := hW.S
  have h8 := hW.R
  refine cq_of rfl rfl rfl (show 2 ≤ 3 by decide) ?_
  refine e_aload_n (dat d_F_section 0 rfl) 0 rfl rfl ?_
  refine s_gF (dat d_F_section 1 rfl) 2 k_104 (by decide) rfl rfl (cF2 hC) ?_
  refine n_bipush (dat d_F_section 2 rfl) 12 rfl ?_
  refine n_icmp_lt (dat d_F_section 3 rfl) (tgt := 19) (by decide) (by omega) (by omega) (fun h6 => ?_) (fun h6 => ?_)
  · refine e_aload_n (dat d_F_section 9 rfl) 0 rfl rfl ?_
    refine s_gF (dat d_F_section 10 rfl) 2 k_104 (by decide) rfl rfl (cF2 hC) ?_
    refine e_istore_n (dat d_F_section 11 rfl) rfl (show 2 < 3 by decide) (lv2 := [(2, _), (0, _), (1, _)]) rfl ?_
    refine e_aload_n (dat d_F_section 12 rfl) 1 rfl rfl ?_
    refine s_qF (dat d_F_section 13 rfl) 0 k_102 (by decide) rfl rfl rfl ?_
    refine e_iload_n (dat d_F_section 14 rfl) 0 rfl rfl ?_
    refine s_aS (dat d_F_section 15 rfl) rfl (by omega) ?_
    refine e_iload_n (dat d_F_section 16 rfl) 2 rfl rfl ?_
    refine r_call (t_S_begin (by omega) (z01 hb)) c_S_begin (dat d_F_section 17 rfl) rfl k_195 rfl (kd_S _ (by omega)) (by decide) (by omega) rfl (show 0 ≤ 8 by decide) ⟨show 1 ≤ 6 by decide, show 21 ≤ 180 by decide⟩ ⟨show 0 ≤ 1 by decide, show 0 ≤ 6 by decide⟩ ?_
    refine e_aload_n (dat d_F_section 18 rfl) 1 rfl rfl ?_
    refine e_dup (dat d_F_section 19 rfl) rfl ?_
    refine s_gF (dat d_F_section 20 rfl) 2 k_104 (by decide) rfl rfl (((((((up2_ne (by omega)).trans (up2_ne (by omega))).trans (up2_ne (by omega))).trans (up2_ne (by omega))).trans (up2_ne (by omega))).trans (up2_ne (by omega))).trans (cF2 hC)) ?_
    refine n_iconst (dat d_F_section 21 rfl) 1 rfl ?_
    refine n_iadd (dat d_F_section 22 rfl) ?_
    refine s_pF (dat d_F_section 23 rfl) 2 k_104 (by decide) rfl rfl rfl rfl ?_
    refine e_iload_n (dat d_F_section 24 rfl) 0 rfl rfl ?_
    exact q_iret (dat d_F_section 25 rfl) rfl (show 0 ≤ 1 by decide) (show 0 ≤ 6 by decide) ⟨if_neg (by omega), rfl, rc_sec hW hC h6, (((((((kp.rf.up (by omega)).up (by omega)).up (by omega)).up (by omega)).up (by omega)).up (by omega)).up (by omega))⟩
  · exact q_throw th_30 hE (is := 32) (text := "there are 12 sections") (by decide +kernel) rfl (dat d_F_section 4 rfl) (dat d_F_section 5 rfl) (dat d_F_section 6 rfl) (dat d_F_section 7 rfl) (dat d_F_section 8 rfl) rfl (show 5 < 6 by decide) (show 0 + 82 ≤ 180 by decide) (show 1 ≤ 1 by decide) (show 6 ≤ 6 by decide) (Or.inr (Or.inr ⟨if_pos (by omega), rfl⟩))
theorem t_F_route {E : wE} {m : wM} {f : wF} {w : Int64} {x y z : Int32} (hW : Wv m) (hC : Rc m f) (hE : (wl E).stackTraces = false) : Cq E i_F_route 6 1 6 [.ref (wB E + 0), .int x, .int y, .int z] f w (fun v9 f9 => (kRte m x y z) = 0 ∧ ∃ sg ap dl, x = nI sg ∧ y = apI ap ∧ z = nI dl ∧ sg ≤ 5 ∧ ap ≤ m 39 1 ∧ 1 ≤ dl ∧ dl ≤ 9 ∧ m 39 7 < 8 ∧ v9 = some (.int (nI (m 39 7))) ∧ Rc (rteM m sg ap dl) f9 ∧ kp f f9) (fun X9 => ex3 (kRte m x y z) X9) := by
  have h12 := hW.S
  have h8 := hW.R
  refine cq_of rfl rfl rfl (show 4 ≤ 5 by decide) ?_
  refine e_iload_n (dat d_F_route 0 rfl) 2 rfl rfl ?_
  refine e_iconst (v := -1) (dat d_F_route 1 rfl) rfl ?_
  refine e_icmp_eq (dat d_F_route 2 rfl) (tgt := 23) (by decide) (fun h2 => ?_) (fun h2 => ?_)
  · have n1 : ¬ (y ≠ -1 ∧ noS m y) := by first | exact fun h => h.1 h2 | exact fun h => h10 h.2
    refine e_iload_n (dat d_F_route 12 rfl) 1 rfl rfl ?_
    refine r_callS t_F_isSignal c_F_isSignal (dat d_F_route 13 rfl) rfl k_228 rfl (show 0 ≤ 8 by decide) ⟨show 1 ≤ 6 by decide, show 20 ≤ 180 by decide⟩ ⟨show 0 ≤ 1 by decide, show 0 ≤ 6 by decide⟩ ?_
    refine n_if_eq (dat d_F_route 14 rfl) (tgt := 41) (by decide) if_lt0 (fun h27 => ?_) (fun h27 => ?_)
    · replace h27 := if_n0 h27
      exact q_throw th_53 hE (is := 55) (text := "signal is not 0 .. 5 or delay not 1 .. 9") (by decide +kernel) rfl (dat d_F_route 21 rfl) (dat d_F_route 22 rfl) (dat d_F_route 23 rfl) (dat d_F_route 24 rfl) (dat d_F_route 25 rfl) rfl (show 5 < 6 by decide) (show 0 + 82 ≤ 180 by decide) (show 1 ≤ 1 by decide) (show 6 ≤ 6 by decide) (Or.inr (Or.inl ⟨by rw [kRte, if_neg n1, if_pos (by first | exact Or.inl h27 | exact Or.inr (Or.inl h32) | exact Or.inr (Or.inr h38))], rfl⟩))
    · replace h27 := if_p0 h27
      refine e_iload_n (dat d_F_route 15 rfl) 3 rfl rfl ?_
      refine n_iconst (dat d_F_route 16 rfl) 1 rfl ?_
      refine e_icmp_lt (dat d_F_route 17 rfl) (tgt := 41) (by decide) (fun h32 => ?_) (fun h32 => ?_)
      · exact q_throw th_53 hE (is := 55) (text := "signal is not 0 .. 5 or delay not 1 .. 9") (by decide +kernel) rfl (dat d_F_route 21 rfl) (dat d_F_route 22 rfl) (dat d_F_route 23 rfl) (dat d_F_route 24 rfl) (dat d_F_route 25 rfl) rfl (show 5 < 6 by decide) (show 0 + 82 ≤ 180 by decide) (show 1 ≤ 1 by decide) (show 6 ≤ 6 by decide) (Or.inr (Or.inl ⟨by rw [kRte, if_neg n1, if_pos (by first | exact Or.inl h27 | exact Or.inr (Or.inl h32) | exact Or.inr (Or.inr h38))], rfl⟩))
      · refine e_iload_n (dat d_F_route 18 rfl) 3 rfl rfl ?_
        refine n_bipush (dat d_F_route 19 rfl) 9 rfl ?_
        refine e_icmp_le (dat d_F_route 20 rfl) (tgt := 51) (by decide) (fun h38 => ?_) (fun h38 => ?_)
        · refine e_aload_n (dat d_F_route 26 rfl) 0 rfl rfl ?_
          refine s_gF (dat d_F_route 27 rfl) 3 k_105 (by decide) rfl rfl (cF3 hC) ?_
          refine n_bipush (dat d_F_route 28 rfl) 8 rfl ?_
          refine n_icmp_lt (dat d_F_route 29 rfl) (tgt := 70) (by decide) (by omega) (by omega) (fun h57 => ?_) (fun h57 => ?_)
          · have n2 : ¬ ((x < 0 ∨ nI 6 ≤ x) ∨ z < nI 1 ∨ ¬ z ≤ nI 9) := fun h => h.elim h27 (fun h => h.elim h32 (fun h => h h38))
            obtain ⟨sg, hsg, rfl⟩ := ix_of (N := 6) (by decide) h27
            obtain ⟨dl, hd1, hd9, rfl⟩ := dl_of (N := 9) (by decide) h32 h38
            obtain ⟨ap, hap, rfl⟩ : ∃ ap, ap ≤ m 39 1 ∧ y = apI ap := by
              by_cases e : y = -1
              · exact ⟨0, Nat.zero_le _, e⟩
              · obtain ⟨i, hi, rfl⟩ := ix_of (N := m 39 1) (by omega) (fun h => n1 ⟨e, h⟩)
                exact ⟨i + 1, hi, rfl⟩
            refine e_aload_n (dat d_F_route 35 rfl) 0 rfl rfl ?_
            refine s_gF (dat d_F_route 36 rfl) 3 k_105 (by decide) rfl rfl (cF3 hC) ?_
            refine e_istore (dat d_F_route 37 rfl) (show 4 < 5 by decide) (lv2 := [(4, _), (0, _), (1, _), (2, _), (3, _)]) rfl ?_
            refine e_aload_n (dat d_F_route 38 rfl) 1 rfl rfl ?_
            refine s_qF (dat d_F_route 39 rfl) 1 k_103 (by decide) rfl rfl rfl ?_
            refine e_iload (dat d_F_route 40 rfl) 0 rfl ?_
            refine s_aR (dat d_F_route 41 rfl) rfl (by omega) ?_
            refine e_iload_n (dat d_F_route 42 rfl) 2 rfl rfl ?_
            refine e_iload_n (dat d_F_route 43 rfl) 3 rfl rfl ?_
            refine e_iload_n (dat d_F_route 44 rfl) 4 rfl rfl ?_
            refine r_call (t_R_begin (by omega)) c_R_begin (dat d_F_route 45 rfl) rfl k_248 rfl (kd_R _ (by omega)) (by decide) (by omega) rfl (show 0 ≤ 8 by decide) ⟨show 2 ≤ 6 by decide, show 53 ≤ 180 by decide⟩ ⟨show 0 ≤ 1 by decide, show 0 ≤ 6 by decide⟩ ?_
            refine e_aload_n (dat d_F_route 46 rfl) 1 rfl rfl ?_
            refine e_dup (dat d_F_route 47 rfl) rfl ?_
            refine s_gF (dat d_F_route 48 rfl) 3 k_105 (by decide) rfl rfl ((((((((((up2_ne (by omega)).trans (up2_ne (by omega))).trans (up2_ne (by omega))).trans (up2_ne (by omega))).trans (up2_ne (by omega))).trans (up2_ne (by omega))).trans (up2_ne (by omega))).trans (up2_ne (by omega))).trans (up2_ne (by omega))).trans (cF3 hC)) ?_
            refine n_iconst (dat d_F_route 49 rfl) 1 rfl ?_
            refine n_iadd (dat d_F_route 50 rfl) ?_
            refine s_pF (dat d_F_route 51 rfl) 3 k_105 (by decide) rfl rfl rfl rfl ?_
            refine e_iload (dat d_F_route 52 rfl) 0 rfl ?_
            exact q_iret (dat d_F_route 53 rfl) rfl (show 0 ≤ 1 by decide) (show 0 ≤ 6 by decide) ⟨by rw [kRte, if_neg n1, if_neg n2, if_neg (by omega)], sg, ap, dl, rfl, rfl, rfl, by omega, hap, hd1, hd9, h57, rfl, rc_rte hW hC h57, ((((((((((kp.rf.up (by omega)).up (by omega)).up (by omega)).up (by omega)).up (by omega)).up (by omega)).up (by omega)).up (by omega)).up (by omega)).up (by omega))⟩
          · exact q_throw th_30 hE (is := 58) (text := "there are 8 routes") (by decide +kernel) rfl (dat d_F_route 30 rfl) (dat d_F_route 31 rfl) (dat d_F_route 32 rfl) (dat d_F_route 33 rfl) (dat d_F_route 34 rfl) rfl (show 5 < 6 by decide) (show 0 + 82 ≤ 180 by decide) (show 1 ≤ 1 by decide) (show 6 ≤ 6 by decide) (Or.inr (Or.inr ⟨by rw [kRte, if_neg n1, if_neg (fun h => h.elim h27 (fun h => h.elim h32 (fun h => h h38))), if_pos (by omega)], rfl⟩))
        · exact q_throw th_53 hE (is := 55) (text := "signal is not 0 .. 5 or delay not 1 .. 9") (by decide +kernel) rfl (dat d_F_route 21 rfl) (dat d_F_route 22 rfl) (dat d_F_route 23 rfl) (dat d_F_route 24 rfl) (dat d_F_route 25 rfl) rfl (show 5 < 6 by decide) (show 0 + 82 ≤ 180 by decide) (show 1 ≤ 1 by decide) (show 6 ≤ 6 by decide) (Or.inr (Or.inl ⟨by rw [kRte, if_neg n1, if_pos (by first | exact Or.inl h27 | exact Or.inr (Or.inl h32) | exact Or.inr (Or.inr h38))], rfl⟩))
  · refine e_aload_n (dat d_F_route 3 rfl) 0 rfl rfl ?_
    refine e_iload_n (dat d_F_route 4 rfl) 2 rfl rfl ?_
    refine r_call (t_F_isSection hW hC) c_F_isSection (dat d_F_route 5 rfl) rfl k_208 rfl rfl (by decide) (by omega) rfl (show 0 ≤ 8 by decide) ⟨show 1 ≤ 6 by decide, show 21 ≤ 180 by decide⟩ ⟨show 0 ≤ 1 by decide, show 0 ≤ 6 by decide⟩ ?_
    refine n_if_ne (dat d_F_route 6 rfl) (tgt := 23) (by decide) if_lt0 (fun h10 => ?_) (fun h10 => ?_)
    · replace h10 := if_p0 h10
      have n1 : ¬ (y ≠ -1 ∧ noS m y) := by first | exact fun h => h.1 h2 | exact fun h => h10 h.2
      refine e_iload_n (dat d_F_route 12 rfl) 1 rfl rfl ?_
      refine r_callS t_F_isSignal c_F_isSignal (dat d_F_route 13 rfl) rfl k_228 rfl (show 0 ≤ 8 by decide) ⟨show 1 ≤ 6 by decide, show 20 ≤ 180 by decide⟩ ⟨show 0 ≤ 1 by decide, show 0 ≤ 6 by decide⟩ ?_
      refine n_if_eq (dat d_F_route 14 rfl) (tgt := 41) (by decide) if_lt0 (fun h27 => ?_) (fun h27 => ?_)
      · replace h27 := if_n0 h27
        exact q_throw th_53 hE (is := 55) (text := "signal is not 0 .. 5 or delay not 1 .. 9") (by decide +kernel) rfl (dat d_F_route 21 rfl) (dat d_F_route 22 rfl) (dat d_F_route 23 rfl) (dat d_F_route 24 rfl) (dat d_F_route 25 rfl) rfl (show 5 < 6 by decide) (show 0 + 82 ≤ 180 by decide) (show 1 ≤ 1 by decide) (show 6 ≤ 6 by decide) (Or.inr (Or.inl ⟨by rw [kRte, if_neg n1, if_pos (by first | exact Or.inl h27 | exact Or.inr (Or.inl h32) | exact Or.inr (Or.inr h38))], rfl⟩))
      · replace h27 := if_p0 h27
        refine e_iload_n (dat d_F_route 15 rfl) 3 rfl rfl ?_
        refine n_iconst (dat d_F_route 16 rfl) 1 rfl ?_
        refine e_icmp_lt (dat d_F_route 17 rfl) (tgt := 41) (by decide) (fun h32 => ?_) (fun h32 => ?_)
        · exact q_throw th_53 hE (is := 55) (text := "signal is not 0 .. 5 or delay not 1 .. 9") (by decide +kernel) rfl (dat d_F_route 21 rfl) (dat d_F_route 22 rfl) (dat d_F_route 23 rfl) (dat d_F_route 24 rfl) (dat d_F_route 25 rfl) rfl (show 5 < 6 by decide) (show 0 + 82 ≤ 180 by decide) (show 1 ≤ 1 by decide) (show 6 ≤ 6 by decide) (Or.inr (Or.inl ⟨by rw [kRte, if_neg n1, if_pos (by first | exact Or.inl h27 | exact Or.inr (Or.inl h32) | exact Or.inr (Or.inr h38))], rfl⟩))
        · refine e_iload_n (dat d_F_route 18 rfl) 3 rfl rfl ?_
          refine n_bipush (dat d_F_route 19 rfl) 9 rfl ?_
          refine e_icmp_le (dat d_F_route 20 rfl) (tgt := 51) (by decide) (fun h38 => ?_) (fun h38 => ?_)
          · refine e_aload_n (dat d_F_route 26 rfl) 0 rfl rfl ?_
            refine s_gF (dat d_F_route 27 rfl) 3 k_105 (by decide) rfl rfl (cF3 hC) ?_
            refine n_bipush (dat d_F_route 28 rfl) 8 rfl ?_
            refine n_icmp_lt (dat d_F_route 29 rfl) (tgt := 70) (by decide) (by omega) (by omega) (fun h57 => ?_) (fun h57 => ?_)
            · have n2 : ¬ ((x < 0 ∨ nI 6 ≤ x) ∨ z < nI 1 ∨ ¬ z ≤ nI 9) := fun h => h.elim h27 (fun h => h.elim h32 (fun h => h h38))
              obtain ⟨sg, hsg, rfl⟩ := ix_of (N := 6) (by decide) h27
              obtain ⟨dl, hd1, hd9, rfl⟩ := dl_of (N := 9) (by decide) h32 h38
              obtain ⟨ap, hap, rfl⟩ : ∃ ap, ap ≤ m 39 1 ∧ y = apI ap := by
                by_cases e : y = -1
                · exact ⟨0, Nat.zero_le _, e⟩
                · obtain ⟨i, hi, rfl⟩ := ix_of (N := m 39 1) (by omega) (fun h => n1 ⟨e, h⟩)
                  exact ⟨i + 1, hi, rfl⟩
              refine e_aload_n (dat d_F_route 35 rfl) 0 rfl rfl ?_
              refine s_gF (dat d_F_route 36 rfl) 3 k_105 (by decide) rfl rfl (cF3 hC) ?_
              refine e_istore (dat d_F_route 37 rfl) (show 4 < 5 by decide) (lv2 := [(4, _), (0, _), (1, _), (2, _), (3, _)]) rfl ?_
              refine e_aload_n (dat d_F_route 38 rfl) 1 rfl rfl ?_
              refine s_qF (dat d_F_route 39 rfl) 1 k_103 (by decide) rfl rfl rfl ?_
              refine e_iload (dat d_F_route 40 rfl) 0 rfl ?_
              refine s_aR (dat d_F_route 41 rfl) rfl (by omega) ?_
              refine e_iload_n (dat d_F_route 42 rfl) 2 rfl rfl ?_
              refine e_iload_n (dat d_F_route 43 rfl) 3 rfl rfl ?_
              refine e_iload_n (dat d_F_route 44 rfl) 4 rfl rfl ?_
              refine r_call (t_R_begin (by omega)) c_R_begin (dat d_F_route 45 rfl) rfl k_248 rfl (kd_R _ (by omega)) (by decide) (by omega) rfl (show 0 ≤ 8 by decide) ⟨show 2 ≤ 6 by decide, show 53 ≤ 180 by decide⟩ ⟨show 0 ≤ 1 by decide, show 0 ≤ 6 by decide⟩ ?_
              refine e_aload_n (dat d_F_route 46 rfl) 1 rfl rfl ?_
              refine e_dup (dat d_F_route 47 rfl) rfl ?_
              refine s_gF (dat d_F_route 48 rfl) 3 k_105 (by decide) rfl rfl ((((((((((up2_ne (by omega)).trans (up2_ne (by omega))).trans (up2_ne (by omega))).trans (up2_ne (by omega))).trans (up2_ne (by omega))).trans (up2_ne (by omega))).trans (up2_ne (by omega))).trans (up2_ne (by omega))).trans (up2_ne (by omega))).trans (cF3 hC)) ?_
              refine n_iconst (dat d_F_route 49 rfl) 1 rfl ?_
              refine n_iadd (dat d_F_route 50 rfl) ?_
              refine s_pF (dat d_F_route 51 rfl) 3 k_105 (by decide) rfl rfl rfl rfl ?_
              refine e_iload (dat d_F_route 52 rfl) 0 rfl ?_
              exact q_iret (dat d_F_route 53 rfl) rfl (show 0 ≤ 1 by decide) (show 0 ≤ 6 by decide) ⟨by rw [kRte, if_neg n1, if_neg n2, if_neg (by omega)], sg, ap, dl, rfl, rfl, rfl, by omega, hap, hd1, hd9, h57, rfl, rc_rte hW hC h57, ((((((((((kp.rf.up (by omega)).up (by omega)).up (by omega)).up (by omega)).up (by omega)).up (by omega)).up (by omega)).up (by omega)).up (by omega)).up (by omega))⟩
            · exact q_throw th_30 hE (is := 58) (text := "there are 8 routes") (by decide +kernel) rfl (dat d_F_route 30 rfl) (dat d_F_route 31 rfl) (dat d_F_route 32 rfl) (dat d_F_route 33 rfl) (dat d_F_route 34 rfl) rfl (show 5 < 6 by decide) (show 0 + 82 ≤ 180 by decide) (show 1 ≤ 1 by decide) (show 6 ≤ 6 by decide) (Or.inr (Or.inr ⟨by rw [kRte, if_neg n1, if_neg (fun h => h.elim h27 (fun h => h.elim h32 (fun h => h h38))), if_pos (by omega)], rfl⟩))
          · exact q_throw th_53 hE (is := 55) (text := "signal is not 0 .. 5 or delay not 1 .. 9") (by decide +kernel) rfl (dat d_F_route 21 rfl) (dat d_F_route 22 rfl) (dat d_F_route 23 rfl) (dat d_F_route 24 rfl) (dat d_F_route 25 rfl) rfl (show 5 < 6 by decide) (show 0 + 82 ≤ 180 by decide) (show 1 ≤ 1 by decide) (show 6 ≤ 6 by decide) (Or.inr (Or.inl ⟨by rw [kRte, if_neg n1, if_pos (by first | exact Or.inl h27 | exact Or.inr (Or.inl h32) | exact Or.inr (Or.inr h38))], rfl⟩))
    · replace h10 := if_n0 h10
      exact q_throw th_45 hE (is := 47) (text := "no such section") (by decide +kernel) rfl (dat d_F_route 7 rfl) (dat d_F_route 8 rfl) (dat d_F_route 9 rfl) (dat d_F_route 10 rfl) (dat d_F_route 11 rfl) rfl (show 5 < 6 by decide) (show 0 + 82 ≤ 180 by decide) (show 1 ≤ 1 by decide) (show 6 ≤ 6 by decide) (Or.inl ⟨if_pos ⟨h2, h10⟩, rfl⟩)
theorem t_F_use {E : wE} {m : wM} {f : wF} {w : Int64} {x y z : Int32} (hW : Wv m) (hC : Rc m f) (hF : ∀ r k, r < m 39 7 → k < m 51 r → m 48 r = 0 → m 54 (6 * r + k) = 0) (hE : (wl E).stackTraces = false) : Cq E i_F_use 7 3 18 [.ref (wB E + 0), .int x, .int y, .int z] f w (fun v9 f9 => (kUse m x y z) = 0 ∧ ∃ r i c, r < m 39 7 ∧ i < m 39 1 ∧ c ≤ 4 ∧ x = nI r ∧ y = nI i ∧ z = nI c ∧ m 51 r < 6 ∧ v9 = none ∧ Rc (useM m r i c) f9 ∧ kp f f9) (fun X9 => ex3 (kUse m x y z) X9) := by
  have h12 := hW.S
  have h8 := hW.R
  refine cq_of rfl rfl rfl (show 4 ≤ 6 by decide) ?_
  refine e_aload_n (dat d_F_use 0 rfl) 0 rfl rfl ?_
  refine e_iload_n (dat d_F_use 1 rfl) 1 rfl rfl ?_
  refine q_call (t_F_existingRoute hW hC hE) c_F_existingRoute (dat d_F_use 2 rfl) rfl k_263 rfl rfl (by decide) (by omega) rfl (show 0 ≤ 8 by decide) ⟨show 7 ≤ 7 by decide, show 201 ≤ 210 by decide⟩ ⟨show 1 ≤ 3 by decide, show 6 ≤ 18 by decide⟩ (fun v9 f9 h9 => ?_) (fun X9 h9 => ?_)
  · obtain ⟨e8, r, hr, rfl, rfl⟩ := h9
    subst f9
    refine e_astore (dat d_F_use 3 rfl) (show 4 < 6 by decide) (lv2 := [(4, _), (0, _), (1, _), (2, _), (3, _)]) rfl ?_
    refine e_aload_n (dat d_F_use 4 rfl) 1 rfl rfl ?_
    refine e_iload_n (dat d_F_use 5 rfl) 3 rfl rfl ?_
    refine q_call (t_F_existingSection hW hC hE) c_F_existingSection (dat d_F_use 6 rfl) rfl k_268 rfl rfl (by decide) (by omega) rfl (show 0 ≤ 8 by decide) ⟨show 7 ≤ 7 by decide, show 201 ≤ 210 by decide⟩ ⟨show 2 ≤ 3 by decide, show 12 ≤ 18 by decide⟩ (fun v9 f9 h9 => ?_) (fun X9 h9 => ?_)
    · obtain ⟨e8, i, hi, rfl, rfl⟩ := h9
      subst f9
      refine e_astore (dat d_F_use 7 rfl) (show 5 < 6 by decide) (lv2 := [(5, _), (4, _), (0, _), (1, _), (2, _), (3, _)]) rfl ?_
      refine e_iload_n (dat d_F_use 8 rfl) 5 rfl rfl ?_
      refine e_aload (dat d_F_use 9 rfl) 0 rfl ?_
      refine r_callS (t_F_fits hW hC hi) c_F_fits (dat d_F_use 10 rfl) rfl k_272 rfl (show 0 ≤ 8 by decide) ⟨show 1 ≤ 7 by decide, show 21 ≤ 210 by decide⟩ ⟨show 2 ≤ 3 by decide, show 12 ≤ 18 by decide⟩ ?_
      refine n_if_eq (dat d_F_use 11 rfl) (tgt := 33) (by decide) if_lt (fun h20 => ?_) (fun h20 => ?_)
      · replace h20 := if_n h20
        exact q_throw th_53 hE (is := 79) (text := "how does not fit, or the route uses the section already") (by decide +kernel) rfl (dat d_F_use 17 rfl) (dat d_F_use 18 rfl) (dat d_F_use 19 rfl) (dat d_F_use 20 rfl) (dat d_F_use 21 rfl) rfl (show 5 < 7 by decide) (show 0 + 82 ≤ 210 by decide) (show 3 ≤ 3 by decide) (show 18 ≤ 18 by decide) (Or.inr (Or.inl ⟨by rw [kUse, if_neg (fun h => h.elim (no_ix hr (by omega)) (no_ix hi (by omega))), ix_nI (show r < 64 by omega), ix_nI (show i < 64 by omega), if_pos (by first | exact Or.inl h20 | exact Or.inr (fun h => h j hj hj2))], rfl⟩))
      · replace h20 := if_p h20
        refine e_aload (dat d_F_use 12 rfl) 1 rfl ?_
        refine e_iload_n (dat d_F_use 13 rfl) 4 rfl rfl ?_
        refine q_call (t_R_useOf hW hC hr (by omega)) c_R_useOf (dat d_F_use 14 rfl) rfl k_275 rfl (kd_R _ (by omega)) (by decide) (by omega) rfl (show 0 ≤ 8 by decide) ⟨show 1 ≤ 7 by decide, show 22 ≤ 210 by decide⟩ ⟨show 2 ≤ 3 by decide, show 12 ≤ 18 by decide⟩ (fun v9 f9 h9 => ?_) (fun X9 h9 => h9.elim)
        obtain ⟨e8, ⟨j, hj, hj2, rfl⟩ | ⟨hn, rfl⟩⟩ := h9
        · subst f9
          have h6 := hW.N hr
          refine e_iconst (v := -1) (dat d_F_use 15 rfl) rfl ?_
          refine e_icmp_eq (dat d_F_use 16 rfl) (tgt := 43) (by decide) (fun h30 => ?_) (fun h30 => ?_)
          · exact absurd h30 (nI_m1 (by omega))
          · exact q_throw th_53 hE (is := 79) (text := "how does not fit, or the route uses the section already") (by decide +kernel) rfl (dat d_F_use 17 rfl) (dat d_F_use 18 rfl) (dat d_F_use 19 rfl) (dat d_F_use 20 rfl) (dat d_F_use 21 rfl) rfl (show 5 < 7 by decide) (show 0 + 82 ≤ 210 by decide) (show 3 ≤ 3 by decide) (show 18 ≤ 18 by decide) (Or.inr (Or.inl ⟨by rw [kUse, if_neg (fun h => h.elim (no_ix hr (by omega)) (no_ix hi (by omega))), ix_nI (show r < 64 by omega), ix_nI (show i < 64 by omega), if_pos (by first | exact Or.inl h20 | exact Or.inr (fun h => h j hj hj2))], rfl⟩))
        · subst f9
          refine e_iconst (v := -1) (dat d_F_use 15 rfl) rfl ?_
          refine e_icmp_eq (dat d_F_use 16 rfl) (tgt := 43) (by decide) (fun h30 => ?_) (fun h30 => ?_)
          · have h6 := hW.N hr
            refine e_aload (dat d_F_use 22 rfl) 1 rfl ?_
            refine s_gR (dat d_F_use 23 rfl) 2 k_62 (by decide) rfl rfl (by omega) (cR2 hC (by omega)) ?_
            refine n_bipush (dat d_F_use 24 rfl) 6 rfl ?_
            refine n_icmp_ge (dat d_F_use 25 rfl) (tgt := 60) (by decide) (by omega) (by omega) (fun h50 => ?_) (fun h50 => ?_)
            · exact q_throw th_30 hE (is := 88) (text := "the route has 6 uses, or a route is not free") (by decide +kernel) rfl (dat d_F_use 29 rfl) (dat d_F_use 30 rfl) (dat d_F_use 31 rfl) (dat d_F_use 32 rfl) (dat d_F_use 33 rfl) rfl (show 5 < 7 by decide) (show 0 + 82 ≤ 210 by decide) (show 3 ≤ 3 by decide) (show 18 ≤ 18 by decide) (Or.inr (Or.inr ⟨by rw [kUse, if_neg (fun h => h.elim (no_ix hr (by omega)) (no_ix hi (by omega))), ix_nI (show r < 64 by omega), ix_nI (show i < 64 by omega), if_neg (fun h => h.elim (fun h => h h20) (fun h => h hn)), if_pos (by first | exact Or.inl (by omega) | exact Or.inr h57)], rfl⟩))
            · refine e_aload_n (dat d_F_use 26 rfl) 2 rfl rfl ?_
              refine r_call (t_F_allRoutesFree hW hC) c_F_allRoutesFree (dat d_F_use 27 rfl) rfl k_280 rfl rfl (by decide) (by omega) rfl (show 0 ≤ 8 by decide) ⟨show 1 ≤ 7 by decide, show 21 ≤ 210 by decide⟩ ⟨show 2 ≤ 3 by decide, show 12 ≤ 18 by decide⟩ ?_
              refine n_if_ne (dat d_F_use 28 rfl) (tgt := 70) (by decide) if_lt (fun h57 => ?_) (fun h57 => ?_)
              · replace h57 := if_p h57
                refine e_aload (dat d_F_use 34 rfl) 1 rfl ?_
                refine e_iload_n (dat d_F_use 35 rfl) 4 rfl rfl ?_
                refine e_iload_n (dat d_F_use 36 rfl) 5 rfl rfl ?_
                obtain ⟨c, hc1, hc2, rfl⟩ : ∃ c, 0 ≤ c ∧ c ≤ 4 ∧ z = nI c := by
                  obtain ⟨j, hj, e⟩ := nI_of2 (M := nI 4) (n := 4) (by decide) h20.1 h20.2.1
                  exact ⟨j, Nat.zero_le _, hj, e⟩
                refine r_call (t_R_addUse (by omega) (cR2 hC hr) (by omega)) c_R_addUse (dat d_F_use 37 rfl) rfl k_285 rfl (kd_R _ (by omega)) (by decide) (by omega) rfl (show 0 ≤ 8 by decide) ⟨show 1 ≤ 7 by decide, show 22 ≤ 210 by decide⟩ ⟨show 2 ≤ 3 by decide, show 12 ≤ 18 by decide⟩ ?_
                exact q_vret (dat d_F_use 38 rfl) rfl (show 2 ≤ 3 by decide) (show 12 ≤ 18 by decide) ⟨by rw [kUse, if_neg (fun h => h.elim (no_ix hr (by omega)) (no_ix hi (by omega))), ix_nI (show r < 64 by omega), ix_nI (show i < 64 by omega), if_neg (fun h => h.elim (fun h => h h20) (fun h => h hn)), if_neg (fun h => h.elim (by omega) (fun h => h h57))], r, i, c, hr, hi, hc2, rfl, rfl, rfl, h50, rfl, rc_use hW hC hr h50 (fun k hk => hF r k hr hk (h57 r hr)), (((kp.rf.up (by omega)).up (by omega)).up (by omega))⟩
              · replace h57 := if_n h57
                exact q_throw th_30 hE (is := 88) (text := "the route has 6 uses, or a route is not free") (by decide +kernel) rfl (dat d_F_use 29 rfl) (dat d_F_use 30 rfl) (dat d_F_use 31 rfl) (dat d_F_use 32 rfl) (dat d_F_use 33 rfl) rfl (show 5 < 7 by decide) (show 0 + 82 ≤ 210 by decide) (show 3 ≤ 3 by decide) (show 18 ≤ 18 by decide) (Or.inr (Or.inr ⟨by rw [kUse, if_neg (fun h => h.elim (no_ix hr (by omega)) (no_ix hi (by omega))), ix_nI (show r < 64 by omega), ix_nI (show i < 64 by omega), if_neg (fun h => h.elim (fun h => h h20) (fun h => h hn)), if_pos (by first | exact Or.inl (by omega) | exact Or.inr h57)], rfl⟩))
          · exact absurd rfl h30
    · exact q_out rfl (show 2 ≤ 3 by decide) (show 12 ≤ 18 by decide) (Or.inl ⟨if_pos (Or.inr h9.2), h9.1⟩)
  · exact q_out rfl (show 1 ≤ 3 by decide) (show 6 ≤ 18 by decide) (Or.inl ⟨if_pos (Or.inl h9.2), h9.1⟩)
