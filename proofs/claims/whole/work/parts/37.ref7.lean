theorem rel_um {m : wM} {r v : Nat} : rel (um m 49 r v) r = rel m r := by
  funext a b
  unfold rel um
  by_cases h9 : (48 ≤ a ∧ a ≤ 50 ∧ b = r) ∨ ((a = 54 ∨ a = 55) ∧ 6 * r ≤ b ∧ b < 6 * r + 6)
  · rw [if_pos h9, if_pos h9]
  · rw [if_neg h9, if_neg h9, if_neg (by omega)]
theorem wv_u49 {m : wM} {r v : Nat} (h : Wv m) (hv : v < 64) : Wv (um m 49 r v) := by
  refine wv_k h (fun a b h9 => ?_) (fun a b => ?_) (fun b => ?_)
  · unfold um
    rw [if_neg (by omega)]
  · unfold um
    split
    · exact hv
    · exact h.b a b
  · have := h.o b
    unfold um
    simp
    omega
theorem t_M_tick {E : wE} {m : wM} {f : wF} {w : Int64} {x : Int32} (hW : Wv m) (hm : Rm m f) (hJ : Jv m) : Cq E i_M_tick 3 0 0 [.ref (wB E + 39), .int x] f w (MV f (if kTck x = 0 then 0 else 1) m (look (tks m (ix x)))) (fun _ => False) := by
  have h12 := hW.S
  have h8 := hW.R
  replace hm := Rf.of hm
  refine cq_of rfl rfl rfl (show 2 ≤ 4 by decide) ?_
  refine e_aload_n (dat d_M_tick 0 rfl) 0 rfl rfl ?_
  refine e_iload_n (dat d_M_tick 1 rfl) 1 rfl rfl ?_
  refine n_iconst (dat d_M_tick 2 rfl) 1 rfl ?_
  refine e_icmp_lt (dat d_M_tick 3 rfl) (tgt := 12) (by decide) (fun h3 => ?_) (fun h3 => ?_)
  · refine n_iconst (dat d_M_tick 7 rfl) 1 rfl ?_
    refine e_goto (dat d_M_tick 8 rfl) (tgt := 17) (by decide) ?_
    refine m_p0 (dat d_M_tick 10 rfl) k_499 hm (fun hm => ?_)
    refine e_aload_n (dat d_M_tick 11 rfl) 0 rfl rfl ?_
    refine s_gM (dat d_M_tick 12 rfl) 0 k_499 (by decide) rfl rfl up2_eq ?_
    refine n_if_le (dat d_M_tick 13 rfl) (tgt := 28) (by decide) (by omega) (fun h24 => ?_) (fun h24 => ?_)
    · first | exact absurd rfl h24 | exact absurd h24 (by decide)
    · exact q_vret (dat d_M_tick 14 rfl) rfl (show 0 ≤ 0 by decide) (show 0 ≤ 0 by decide) (mv_x hm up2_eq fr8.rf.p0 (if_neg (fun h => by rw [kTck, if_pos (by first | exact Or.inl h3 | exact Or.inr h9)] at h; exact absurd h (by decide))) (by decide))
  · refine e_iload_n (dat d_M_tick 4 rfl) 1 rfl rfl ?_
    refine n_bipush (dat d_M_tick 5 rfl) 20 rfl ?_
    refine e_icmp_le (dat d_M_tick 6 rfl) (tgt := 16) (by decide) (fun h9 => ?_) (fun h9 => ?_)
    · refine n_iconst (dat d_M_tick 9 rfl) 0 rfl ?_
      refine m_p0 (dat d_M_tick 10 rfl) k_499 hm (fun hm => ?_)
      refine e_aload_n (dat d_M_tick 11 rfl) 0 rfl rfl ?_
      refine s_gM (dat d_M_tick 12 rfl) 0 k_499 (by decide) rfl rfl up2_eq ?_
      refine n_if_le (dat d_M_tick 13 rfl) (tgt := 28) (by decide) (by omega) (fun h24 => ?_) (fun h24 => ?_)
      · refine n_iconst (dat d_M_tick 15 rfl) 0 rfl ?_
        refine e_istore_n (dat d_M_tick 16 rfl) rfl (show 2 < 4 by decide) (lv2 := [(2, _), (0, _), (1, _)]) rfl ?_
        obtain ⟨d, hd1, hd2, rfl⟩ := dl_of (z := x) (N := 20) (by decide) h3 h9
        have hx := ix_nI (show d < 64 by omega)
        have hk0 : kTck (nI d) = 0 := if_neg (fun h => h.elim h3 (fun h => h h9))
        have L : ∀ k, k ≤ d → ∀ f1, Rf (tks m k) (up2 f 39 0 (nI 0)) f1 → Ev E (jq E i_M_tick 3 0 0 f w (MV f (if kTck (nI d) = 0 then 0 else 1) m (look (tks m (ix (nI d))))) (fun _ => False)) 0 0 30 [(2, .int (nI k)), (0, .ref (wB E + 39)), (1, .int (nI d))] [] f1 g0 w 57 := by
          apply lp_ind
          intro k hk ih f1 hm
          have hJ1 : Jv (tks m k) := jv_tks hJ k
          refine e_iload_n (dat d_M_tick 17 rfl) 0 rfl rfl ?_
          refine e_iload_n (dat d_M_tick 18 rfl) 2 rfl rfl ?_
          refine n_icmp_ge (dat d_M_tick 19 rfl) (tgt := 134) (by decide) (by omega) (by omega) (fun h32 => ?_) (fun h32 => ?_)
          · refine e_aload_n (dat d_M_tick 77 rfl) 1 rfl rfl ?_
            refine q_call (t_M_look hJ1.W hm.1) c_M_look (dat d_M_tick 78 rfl) rfl k_620 rfl rfl (by decide) (by omega) rfl (show 0 ≤ 8 by decide) ⟨show 3 ≤ 3 by decide, show 82 ≤ 90 by decide⟩ ⟨show 0 ≤ 0 by decide, show 0 ≤ 0 by decide⟩ (fun v9 f9 h9 => ?_) (fun X9 h9 => h9.elim)
            obtain ⟨rfl, hm9, hf9⟩ := h9
            exact q_vret (dat d_M_tick 79 rfl) rfl (show 0 ≤ 0 by decide) (show 0 ≤ 0 by decide) (mv_r (by rw [hx, show d = k by omega]; exact hm9) (hm.2.tr hf9) up2_eq fr8.rf.p0 (if_pos hk0))
          · refine n_iconst (dat d_M_tick 20 rfl) 0 rfl ?_
            refine e_istore_n (dat d_M_tick 21 rfl) rfl (show 3 < 4 by decide) (lv2 := [(3, _), (2, _), (0, _), (1, _)]) rfl ?_
            have L3 : ∀ j, j ≤ m 39 7 → ∀ f2, Rf (cdN (tkN (tks m k) (tks m k 39 1)) j) (up2 f 39 0 (nI 0)) f2 → Ev E (jq E i_M_tick 3 0 0 f w (MV f (if kTck (nI d) = 0 then 0 else 1) m (look (tks m (ix (nI d))))) (fun _ => False)) 0 0 80 [(3, .int (nI j)), (2, .int (nI k)), (0, .ref (wB E + 39)), (1, .int (nI d))] [] f2 g0 w 57 := by
              apply lp_ind
              intro j hj ihj f2 hm
              have hW2 : Wv (cdN (tkN (tks m k) (tks m k 39 1)) j) := wv_cdN (wv_tkN hJ1.W) j
              have g7 : cdN (tkN (tks m k) (tks m k 39 1)) j 39 7 = m 39 7 := by
                rw [cdo (by decide), tkN, if_neg (fun h => absurd h.1 (by decide)), tks_39]
              have ht3 : j < m 39 7 → cdN (tkN (tks m k) (tks m k 39 1)) j 48 j = 3 → 1 ≤ cdN (tkN (tks m k) (tks m k 39 1)) j 49 j := by
                intro hj7
                rw [cdk (Nat.le_refl _) (Or.inl rfl), cdk (Nat.le_refl _) (Or.inr rfl)]
                simp only [tkN]
                intro h9
                simp at h9 ⊢
                exact jv_T hJ1 j (by rw [tks_39]; exact hj7) h9
              generalize hM2 : cdN (tkN (tks m k) (tks m k 39 1)) j = M2 at hm hW2 g7 ht3
              have h82 := hW2.R
              refine e_iload_n (dat d_M_tick 47 rfl) 0 rfl rfl ?_
              refine e_aload_n (dat d_M_tick 48 rfl) 2 rfl rfl ?_
              refine s_gM (dat d_M_tick 49 rfl) 7 k_506 (by decide) rfl rfl (rmf7 hm) ?_
              refine n_icmp_ge (dat d_M_tick 50 rfl) (tgt := 128) (by decide) (by omega) (by omega) (fun h85 => ?_) (fun h85 => ?_)
              · refine n_iinc (q := 1) (dat d_M_tick 75 rfl) rfl (show 2 < 4 by decide) (lv2 := [(2, _), (3, _), (0, _), (1, _)]) rfl ?_
                refine e_goto (dat d_M_tick 76 rfl) (tgt := 30) (by decide) ?_
                refine e_lv [0, 2, 3] rfl ?_
                have hs : cdN (tkN (tks m k) (tks m k 39 1)) j = tks m (k + 1) := by
                  show _ = tk1 (tks m k)
                  rw [tk1, show j = tks m k 39 7 by rw [tks_39]; omega]
                rw [← hM2, hs] at hm
                exact ih (by omega) _ hm
              · refine e_aload_n (dat d_M_tick 51 rfl) 2 rfl rfl ?_
                refine s_qM (t := 48) (dat d_M_tick 52 rfl) 11 k_510 (by decide) rfl rfl rfl ?_
                refine e_iload_n (dat d_M_tick 53 rfl) 0 rfl rfl ?_
                refine s_ild (N := 8) (dat d_M_tick 54 rfl) rfl (by decide) rfl rfl (by omega) (rmf hm (by decide)) ?_
                refine n_iconst (dat d_M_tick 55 rfl) 3 rfl ?_
                refine n_icmp_ne (dat d_M_tick 56 rfl) (tgt := 122) (by decide) (lt64 (hW2.b _ _)) (by decide) (fun h95 => ?_) (fun h95 => ?_)
                · refine n_iinc (q := 0) (dat d_M_tick 73 rfl) rfl (show 3 < 4 by decide) (lv2 := [(3, _), (2, _), (0, _), (1, _)]) rfl ?_
                  refine e_goto (dat d_M_tick 74 rfl) (tgt := 80) (by decide) ?_
                  have hs : cdN (tkN (tks m k) (tks m k 39 1)) (j + 1) = M2 := by
                    show cdR (cdN (tkN (tks m k) (tks m k 39 1)) j) j = M2
                    rw [hM2, cdR, if_neg h95]
                  rw [← hs] at hm
                  exact ihj (by omega) _ hm
                · obtain ⟨q9, hq9⟩ : ∃ q9, M2 49 j = q9 + 1 := ⟨M2 49 j - 1, by have := ht3 (by omega) h95; omega⟩
                  have hq : M2 49 j - 1 = q9 := by omega
                  refine e_aload_n (dat d_M_tick 57 rfl) 2 rfl rfl ?_
                  refine s_qM (t := 49) (dat d_M_tick 58 rfl) 12 k_511 (by decide) rfl rfl rfl ?_
                  refine e_iload_n (dat d_M_tick 59 rfl) 0 rfl rfl ?_
                  refine e_dup2 (dat d_M_tick 60 rfl) rfl rfl ?_
                  refine s_ild (N := 8) (dat d_M_tick 61 rfl) rfl (by decide) rfl rfl (by omega) (rmfe (c := q9 + 1) hm (by decide) hq9) ?_
                  refine n_iconst (dat d_M_tick 62 rfl) 1 rfl ?_
                  refine n_isub1 (dat d_M_tick 63 rfl) ?_
                  refine m_ist (N := 8) (dat d_M_tick 64 rfl) rfl (by decide) rfl rfl (by omega) (by decide) hm (fun hm => ?_)
                  refine e_aload_n (dat d_M_tick 65 rfl) 2 rfl rfl ?_
                  refine s_qM (t := 49) (dat d_M_tick 66 rfl) 12 k_511 (by decide) rfl rfl rfl ?_
                  refine e_iload_n (dat d_M_tick 67 rfl) 0 rfl rfl ?_
                  refine s_ild (N := 8) (dat d_M_tick 68 rfl) rfl (by decide) rfl rfl (by omega) (rmfe (c := q9) hm (by decide) (by simp [um])) ?_
                  refine n_if_ne (dat d_M_tick 69 rfl) (tgt := 122) (by decide) (by have := hW2.b 49 j; omega) (fun h114 => ?_) (fun h114 => ?_)
                  · refine n_iinc (q := 0) (dat d_M_tick 73 rfl) rfl (show 3 < 4 by decide) (lv2 := [(3, _), (2, _), (0, _), (1, _)]) rfl ?_
                    refine e_goto (dat d_M_tick 74 rfl) (tgt := 80) (by decide) ?_
                    have hs : cdN (tkN (tks m k) (tks m k 39 1)) (j + 1) = um M2 49 j (M2 49 j - 1) := by
                      show cdR (cdN (tkN (tks m k) (tks m k 39 1)) j) j = _
                      rw [hM2, cdR, if_pos h95, if_neg (by omega)]
                    rw [hs] at ihj
                    exact ihj (by omega) _ (by rw [hq]; exact hm)
                  · refine e_aload_n (dat d_M_tick 70 rfl) 2 rfl rfl ?_
                    refine e_iload_n (dat d_M_tick 71 rfl) 0 rfl rfl ?_
                    refine q_call (t_M_release (wv_u49 hW2 (by have := hW2.b 49 j; omega)) hm.1 (by omega)) c_M_release (dat d_M_tick 72 rfl) rfl k_578 rfl rfl (by decide) (by omega) rfl (show 0 ≤ 8 by decide) ⟨show 1 ≤ 3 by decide, show 22 ≤ 90 by decide⟩ ⟨show 0 ≤ 0 by decide, show 0 ≤ 0 by decide⟩ (fun v9 f9 h9 => ?_) (fun X9 h9 => h9.elim)
                    obtain ⟨rfl, hm9, hf9⟩ := h9
                    refine n_iinc (q := 0) (dat d_M_tick 73 rfl) rfl (show 3 < 4 by decide) (lv2 := [(3, _), (2, _), (0, _), (1, _)]) rfl ?_
                    refine e_goto (dat d_M_tick 74 rfl) (tgt := 80) (by decide) ?_
                    have hs : Rm (cdN (tkN (tks m k) (tks m k 39 1)) (j + 1)) f9 := by
                      show Rm (cdR (cdN (tkN (tks m k) (tks m k 39 1)) j) j) f9
                      rw [hM2, cdR, if_pos h95, if_pos (by omega), ← rel_um]
                      exact hm9
                    exact ihj (by omega) _ (Rf.tr hm hs hf9)
            have L2 : ∀ j, j ≤ m 39 1 → ∀ f2, Rf (tkN (tks m k) j) (up2 f 39 0 (nI 0)) f2 → Ev E (jq E i_M_tick 3 0 0 f w (MV f (if kTck (nI d) = 0 then 0 else 1) m (look (tks m (ix (nI d))))) (fun _ => False)) 0 0 37 [(3, .int (nI j)), (2, .int (nI k)), (0, .ref (wB E + 39)), (1, .int (nI d))] [] f2 g0 w 57 := by
              apply lp_ind
              intro j hj ihj f2 hm
              have hW2 : Wv (tkN (tks m k) j) := wv_tkN hJ1.W
              have g1 : tkN (tks m k) j 39 1 = m 39 1 := by
                rw [tkN, if_neg (fun h => absurd h.1 (by decide)), tks_39]
              have hts := tk_s (m := tks m k) (k := j)
              have h122 := hW2.S
              refine e_iload_n (dat d_M_tick 22 rfl) 0 rfl rfl ?_
              refine e_aload_n (dat d_M_tick 23 rfl) 2 rfl rfl ?_
              refine s_gM (dat d_M_tick 24 rfl) 1 k_500 (by decide) rfl rfl (rmf1 hm) ?_
              refine n_icmp_ge (dat d_M_tick 25 rfl) (tgt := 78) (by decide) (by omega) (by omega) (fun h42 => ?_) (fun h42 => ?_)
              · refine n_iconst (dat d_M_tick 45 rfl) 0 rfl ?_
                refine e_istore_n (dat d_M_tick 46 rfl) rfl (show 3 < 4 by decide) (lv2 := [(3, _), (2, _), (0, _), (1, _)]) rfl ?_
                refine L3 0 (Nat.zero_le _) f2 ?_
                have e1 : tks m k 39 1 = j := by rw [tks_39]; omega
                rw [e1]
                exact hm
              · refine e_aload_n (dat d_M_tick 26 rfl) 2 rfl rfl ?_
                refine s_qM (t := 43) (dat d_M_tick 27 rfl) 5 k_504 (by decide) rfl rfl rfl ?_
                refine e_iload_n (dat d_M_tick 28 rfl) 0 rfl rfl ?_
                refine e_aload_n (dat d_M_tick 29 rfl) 2 rfl rfl ?_
                refine s_qM (t := 43) (dat d_M_tick 30 rfl) 5 k_504 (by decide) rfl rfl rfl ?_
                refine e_iload_n (dat d_M_tick 31 rfl) 0 rfl rfl ?_
                refine s_ild (N := 12) (dat d_M_tick 32 rfl) rfl (by decide) rfl rfl (by omega) (rmf hm (by decide)) ?_
                refine n_if_le (dat d_M_tick 33 rfl) (tgt := 70) (by decide) (lt64 (hW2.b _ _)) (fun h56 => ?_) (fun h56 => ?_)
                · refine n_iconst (dat d_M_tick 41 rfl) 0 rfl ?_
                  refine m_ist (N := 12) (dat d_M_tick 42 rfl) rfl (by decide) rfl rfl (by omega) (by decide) hm (fun hm => ?_)
                  refine n_iinc (q := 0) (dat d_M_tick 43 rfl) rfl (show 3 < 4 by decide) (lv2 := [(3, _), (2, _), (0, _), (1, _)]) rfl ?_
                  refine e_goto (dat d_M_tick 44 rfl) (tgt := 37) (by decide) ?_
                  rw [← hts] at ihj
                  exact ihj (by omega) _ (by first | (rw [h56]; exact hm) | (rw [hq9]; exact hm))
                · obtain ⟨q9, hq9⟩ : ∃ q9, tkN (tks m k) j 43 j = q9 + 1 := ⟨tkN (tks m k) j 43 j - 1, by omega⟩
                  refine e_aload_n (dat d_M_tick 34 rfl) 2 rfl rfl ?_
                  refine s_qM (t := 43) (dat d_M_tick 35 rfl) 5 k_504 (by decide) rfl rfl rfl ?_
                  refine e_iload_n (dat d_M_tick 36 rfl) 0 rfl rfl ?_
                  refine s_ild (N := 12) (dat d_M_tick 37 rfl) rfl (by decide) rfl rfl (by omega) (rmfe (c := q9 + 1) hm (by decide) hq9) ?_
                  refine n_iconst (dat d_M_tick 38 rfl) 1 rfl ?_
                  refine n_isub1 (dat d_M_tick 39 rfl) ?_
                  refine e_goto (dat d_M_tick 40 rfl) (tgt := 71) (by decide) ?_
                  refine m_ist (N := 12) (dat d_M_tick 42 rfl) rfl (by decide) rfl rfl (by omega) (by decide) hm (fun hm => ?_)
                  refine n_iinc (q := 0) (dat d_M_tick 43 rfl) rfl (show 3 < 4 by decide) (lv2 := [(3, _), (2, _), (0, _), (1, _)]) rfl ?_
                  refine e_goto (dat d_M_tick 44 rfl) (tgt := 37) (by decide) ?_
                  rw [← hts] at ihj
                  exact ihj (by omega) _ (by first | (rw [h56]; exact hm) | (rw [hq9]; exact hm))
            exact L2 0 (Nat.zero_le _) f1 (by rw [tk_0]; exact hm)
        exact L 0 (Nat.zero_le _) _ hm
      · first | exact absurd rfl h24 | exact absurd h24 (by decide)
    · refine n_iconst (dat d_M_tick 7 rfl) 1 rfl ?_
      refine e_goto (dat d_M_tick 8 rfl) (tgt := 17) (by decide) ?_
      refine m_p0 (dat d_M_tick 10 rfl) k_499 hm (fun hm => ?_)
      refine e_aload_n (dat d_M_tick 11 rfl) 0 rfl rfl ?_
      refine s_gM (dat d_M_tick 12 rfl) 0 k_499 (by decide) rfl rfl up2_eq ?_
      refine n_if_le (dat d_M_tick 13 rfl) (tgt := 28) (by decide) (by omega) (fun h24 => ?_) (fun h24 => ?_)
      · first | exact absurd rfl h24 | exact absurd h24 (by decide)
      · exact q_vret (dat d_M_tick 14 rfl) rfl (show 0 ≤ 0 by decide) (show 0 ≤ 0 by decide) (mv_x hm up2_eq fr8.rf.p0 (if_neg (fun h => by rw [kTck, if_pos (by first | exact Or.inl h3 | exact Or.inr h9)] at h; exact absurd h (by decide))) (by decide))
