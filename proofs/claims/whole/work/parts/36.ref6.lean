abbrev freP (m : wM) (s : Nat) : Prop := m 41 s = 0 ∧ ∀ z, z < 6 * m 39 7 → ¬ (z % 6 < m 51 (z / 6) ∧ m 54 z = 1 ∧ m 52 z = s)
noncomputable def movM2 (m : wM) (s p : Nat) : wM := @ite wM (freP m s) (Classical.propDecidable _) (look (wnt m s p)) (look m)
noncomputable def movA2 (m : wM) (s : Nat) : Nat := @ite Nat (freP m s) (Classical.propDecidable _) 1 0
noncomputable def claA2 (m : wM) (r q : Nat) : Nat := @ite Nat (r ≠ q ∧ ¬ (m 45 r ≠ m 45 q ∧ ∀ z, z < m 51 r → ∀ j, j < m 51 q → ¬ meetP m (6 * r + z) (6 * q + j))) (Classical.propDecidable _) 1 0
theorem wv_wnt {m : wM} {s p : Nat} (h : Wv m) (hp : p ≤ 1) : Wv (wnt m s p) := by
  refine wv_k h (fun a b h9 => wnt_o (by omega) (by omega)) (fun a b => ?_) (fun b => ?_)
  · have := h.b a b
    unfold wnt
    repeat' split
    all_goals omega
  · rw [wnt_o (by decide) (by decide), wnt_o (by decide) (by decide), wnt_o (by decide) (by decide), wnt_o (by decide) (by decide), wnt_o (by decide) (by decide), wnt_o (by decide) (by decide)]
    exact h.o b
theorem mv_y {y : Int32} : (¬ y < 0 ∧ y ≤ nI 1) ↔ (y = 0 ∨ y = nI 1) := by
  constructor
  · rintro ⟨h1, h2⟩
    obtain ⟨j, hj, rfl⟩ := nI_of2 (M := nI 1) (n := 1) (by decide) h1 h2
    have h3 : j = 0 ∨ j = 1 := by omega
    rcases h3 with rfl | rfl
    · exact Or.inl rfl
    · exact Or.inr rfl
  · rintro (rfl | rfl)
    · exact ⟨by decide, by decide⟩
    · exact ⟨by decide, by decide⟩
theorem mv_n {y : Int32} (h : ¬ (¬ y < 0 ∧ y ≤ nI 1)) : y ≠ 0 ∧ y ≠ nI 1 := ⟨fun h2 => h (mv_y.mpr (Or.inl h2)), fun h2 => h (mv_y.mpr (Or.inr h2))⟩
theorem cl_end {m : wM} {r q k b : Nat} (hI : b = 0 ↔ (m 45 r ≠ m 45 q ∧ ∀ z, z < k → ∀ j, j < m 51 q → ¬ meetP m (6 * r + z) (6 * q + j))) (hb : b ≤ 1) (hne : r ≠ q) (hk : m 51 r = k) : nI b = nI (claA2 m r q) := by
  subst hk
  by_cases e : b = 0
  · rw [claA2, if_neg (fun h => h.2 (hI.mp e)), e]
  · rw [claA2, if_pos ⟨hne, fun h => e (hI.mpr h)⟩, show b = 1 by omega]
theorem ab_end {m : wM} {r c k : Nat} {t : Int32} (hk : m 51 r = k) (h : (c = 0 ∧ t = nI (m 48 r)) ∨ (c = 1 ∧ t = nI (m 49 r)) ∨ (c = 2 ∧ t = nI (m 50 r)) ∨ (c = 3 ∧ t = nI (bts (fun z => m 54 (6 * r + z)) k)) ∨ ((c ≠ 0 ∧ c ≠ 1 ∧ c ≠ 2 ∧ c ≠ 3) ∧ t = nI (bts (fun z => m 54 (6 * r + z) * m 55 (6 * r + z)) k))) : t = nI (abtA m r c) := by
  subst hk
  unfold abtA
  rcases h with ⟨rfl, rfl⟩ | ⟨rfl, rfl⟩ | ⟨rfl, rfl⟩ | ⟨rfl, rfl⟩ | ⟨⟨h1, h2, h3, h4⟩, rfl⟩
  · rfl
  · rfl
  · rfl
  · rfl
  · rw [if_neg h1, if_neg h2, if_neg h3, if_neg h4]
    rfl
theorem t_M_move {E : wE} {m : wM} {f : wF} {w : Int64} {x y : Int32} (hW : Wv m) (hm : Rm m f)  : Cq E i_M_move 3 0 0 [.ref (wB E + 39), .int x, .int y] f w (MO f (kMov m x y) m (movM2 m (ix x) (ix y)) (nI (movA2 m (ix x)))) (fun _ => False) := by
  have hm0 := hm
  have h12 := hW.S
  have h8 := hW.R
  replace hm := Rf.of hm
  refine cq_of rfl rfl rfl (show 3 ≤ 5 by decide) ?_
  refine e_aload_n (dat d_M_move 0 rfl) 0 rfl rfl ?_
  refine e_aload_n (dat d_M_move 1 rfl) 0 rfl rfl ?_
  refine e_iload_n (dat d_M_move 2 rfl) 1 rfl rfl ?_
  refine r_call (t_M_noSection hW hm0) c_M_noSection (dat d_M_move 3 rfl) rfl k_574 rfl rfl (by decide) (by omega) rfl (show 1 ≤ 8 by decide) ⟨show 1 ≤ 3 by decide, show 21 ≤ 90 by decide⟩ ⟨show 0 ≤ 0 by decide, show 0 ≤ 0 by decide⟩ ?_
  refine n_if_eq (dat d_M_move 4 rfl) (tgt := 13) (by decide) if_lt (fun h6 => ?_) (fun h6 => ?_)
  · replace h6 := if_n h6
    obtain ⟨i, hi, rfl⟩ := ix_of (x := x) (N := m 39 1) (by omega) h6
    have hx := ix_nI (show i < 64 by omega)
    refine e_aload_n (dat d_M_move 7 rfl) 0 rfl rfl ?_
    refine s_qM (t := 40) (dat d_M_move 8 rfl) 2 k_501 (by decide) rfl rfl rfl ?_
    refine e_iload_n (dat d_M_move 9 rfl) 1 rfl rfl ?_
    refine s_bld (N := 12) (dat d_M_move 10 rfl) rfl (by decide) rfl rfl (by omega) (rmf hm (by decide)) ?_
    refine n_if_eq (dat d_M_move 11 rfl) (tgt := 31) (by decide) (lt64 (hW.b _ _)) (fun h19 => ?_) (fun h19 => ?_)
    · refine n_iconst (dat d_M_move 17 rfl) 2 rfl ?_
      refine e_goto (dat d_M_move 18 rfl) (tgt := 36) (by decide) ?_
      refine m_p0 (dat d_M_move 20 rfl) k_499 hm (fun hm => ?_)
      refine e_aload_n (dat d_M_move 21 rfl) 0 rfl rfl ?_
      refine s_gM (dat d_M_move 22 rfl) 0 k_499 (by decide) rfl rfl up2_eq ?_
      refine n_if_le (dat d_M_move 23 rfl) (tgt := 48) (by decide) (by omega) (fun h43 => ?_) (fun h43 => ?_)
      · first | exact absurd rfl h43 | exact absurd h43 (by decide)
      · refine n_iconst (dat d_M_move 24 rfl) 0 rfl ?_
        exact q_zret (dat d_M_move 25 rfl) rfl (z01 (by decide)) (show 0 ≤ 0 by decide) (show 0 ≤ 0 by decide) (mo_x hm up2_eq fr8.rf.p0 (by rw [kMov, if_neg h6, hx, if_pos (by first | exact Or.inl h19 | exact Or.inr (mv_n (fun h => h.1 h23)) | exact Or.inr (mv_n (fun h => h28 h.2)))]) (by decide))
    · refine e_iload_n (dat d_M_move 12 rfl) 2 rfl rfl ?_
      refine e_if_lt (dat d_M_move 13 rfl) (tgt := 31) (by decide) (fun h23 => ?_) (fun h23 => ?_)
      · refine n_iconst (dat d_M_move 17 rfl) 2 rfl ?_
        refine e_goto (dat d_M_move 18 rfl) (tgt := 36) (by decide) ?_
        refine m_p0 (dat d_M_move 20 rfl) k_499 hm (fun hm => ?_)
        refine e_aload_n (dat d_M_move 21 rfl) 0 rfl rfl ?_
        refine s_gM (dat d_M_move 22 rfl) 0 k_499 (by decide) rfl rfl up2_eq ?_
        refine n_if_le (dat d_M_move 23 rfl) (tgt := 48) (by decide) (by omega) (fun h43 => ?_) (fun h43 => ?_)
        · first | exact absurd rfl h43 | exact absurd h43 (by decide)
        · refine n_iconst (dat d_M_move 24 rfl) 0 rfl ?_
          exact q_zret (dat d_M_move 25 rfl) rfl (z01 (by decide)) (show 0 ≤ 0 by decide) (show 0 ≤ 0 by decide) (mo_x hm up2_eq fr8.rf.p0 (by rw [kMov, if_neg h6, hx, if_pos (by first | exact Or.inl h19 | exact Or.inr (mv_n (fun h => h.1 h23)) | exact Or.inr (mv_n (fun h => h28 h.2)))]) (by decide))
      · refine e_iload_n (dat d_M_move 14 rfl) 2 rfl rfl ?_
        refine n_iconst (dat d_M_move 15 rfl) 1 rfl ?_
        refine e_icmp_le (dat d_M_move 16 rfl) (tgt := 35) (by decide) (fun h28 => ?_) (fun h28 => ?_)
        · have hyy := (mv_y (y := y)).mp ⟨h23, h28⟩
          obtain ⟨p, hp, rfl⟩ : ∃ p, p ≤ 1 ∧ y = nI p := hyy.elim (fun h => ⟨0, by decide, h.trans nI_0.symm⟩) (fun h => ⟨1, by decide, h⟩)
          have hy := ix_nI (show p < 64 by omega)
          have hk0 : kMov m (nI i) (nI p) = 0 := by
            rw [kMov, if_neg h6, hx, if_neg (fun h => h.elim h19 (fun h2 => hyy.elim h2.1 h2.2))]
          refine n_iconst (dat d_M_move 19 rfl) 0 rfl ?_
          refine m_p0 (dat d_M_move 20 rfl) k_499 hm (fun hm => ?_)
          refine e_aload_n (dat d_M_move 21 rfl) 0 rfl rfl ?_
          refine s_gM (dat d_M_move 22 rfl) 0 k_499 (by decide) rfl rfl up2_eq ?_
          refine n_if_le (dat d_M_move 23 rfl) (tgt := 48) (by decide) (by omega) (fun h43 => ?_) (fun h43 => ?_)
          · refine e_aload_n (dat d_M_move 26 rfl) 0 rfl rfl ?_
            refine s_qM (t := 41) (dat d_M_move 27 rfl) 3 k_502 (by decide) rfl rfl rfl ?_
            refine e_iload_n (dat d_M_move 28 rfl) 1 rfl rfl ?_
            refine s_bld (N := 12) (dat d_M_move 29 rfl) rfl (by decide) rfl rfl (by omega) (rmf hm (by decide)) ?_
            refine n_if_ne (dat d_M_move 30 rfl) (tgt := 61) (by decide) (lt64 (hW.b _ _)) (fun h54 => ?_) (fun h54 => ?_)
            · refine n_iconst (dat d_M_move 33 rfl) 0 rfl ?_
              refine e_istore_n (dat d_M_move 34 rfl) rfl (show 3 < 5 by decide) (lv2 := [(3, _), (0, _), (1, _), (2, _)]) rfl ?_
              refine n_iconst (dat d_M_move 35 rfl) 0 rfl ?_
              refine e_istore (dat d_M_move 36 rfl) (show 4 < 5 by decide) (lv2 := [(4, _), (3, _), (0, _), (1, _), (2, _)]) rfl ?_
              have L : ∀ k, k ≤ 6 * m 39 7 → ∀ b, b ≤ 1 → (b = 1 ↔ (m 41 i = 0 ∧ ∀ z, z < k → ¬ (z % 6 < m 51 (z / 6) ∧ m 54 z = 1 ∧ m 52 z = i))) → Ev E (jq E i_M_move 3 0 0 f w (MO f (kMov m (nI i) (nI p)) m (movM2 m (ix (nI i)) (ix (nI p))) (nI (movA2 m (ix (nI i))))) (fun _ => False)) 0 0 66 [(4, .int (nI k)), (3, .int (nI b)), (0, .ref (wB E + 39)), (1, .int (nI i)), (2, .int (nI p))] [] (up2 f 39 0 (nI 0)) g0 w 57 := by
                apply lp_ind
                intro k hk ih b hb1 hI
                refine e_iload (dat d_M_move 37 rfl) 0 rfl ?_
                refine n_bipush (dat d_M_move 38 rfl) 6 rfl ?_
                refine e_aload_n (dat d_M_move 39 rfl) 2 rfl rfl ?_
                refine s_gM (dat d_M_move 40 rfl) 7 k_506 (by decide) rfl rfl (rmf7 hm) ?_
                refine n_imul (dat d_M_move 41 rfl) ?_
                refine n_icmp_ge (dat d_M_move 42 rfl) (tgt := 133) (by decide) (by omega) (by omega) (fun h75 => ?_) (fun h75 => ?_)
                · refine e_iload_n (dat d_M_move 72 rfl) 1 rfl rfl ?_
                  refine n_if_eq (dat d_M_move 73 rfl) (tgt := 143) (by decide) (by omega) (fun h134 => ?_) (fun h134 => ?_)
                  · have hfr : ¬ freP m i := fun h => absurd (hI.mpr ⟨h.1, fun z hz => h.2 z (by omega)⟩) (by omega)
                    refine e_aload_n (dat d_M_move 78 rfl) 2 rfl rfl ?_
                    refine q_call (t_M_look hW hm.1) c_M_look (dat d_M_move 79 rfl) rfl k_620 rfl rfl (by decide) (by omega) rfl (show 0 ≤ 8 by decide) ⟨show 3 ≤ 3 by decide, show 82 ≤ 90 by decide⟩ ⟨show 0 ≤ 0 by decide, show 0 ≤ 0 by decide⟩ (fun v9 f9 h9 => ?_) (fun X9 h9 => h9.elim)
                    obtain ⟨rfl, hm8, hf8⟩ := h9
                    refine e_iload_n (dat d_M_move 80 rfl) 1 rfl rfl ?_
                    exact q_zret (dat d_M_move 81 rfl) rfl (z01 hb1) (show 0 ≤ 0 by decide) (show 0 ≤ 0 by decide) (mo_r (by rw [hx, hy, movM2, if_neg hfr]; exact hm8) (hm.2.tr hf8) up2_eq fr8.rf.p0 hk0 (by rw [hx, movA2, if_neg hfr, show b = 0 by omega]))
                  · have hfr : freP m i := ⟨(hI.mp (by omega)).1, fun z hz => (hI.mp (by omega)).2 z (by omega)⟩
                    refine e_aload_n (dat d_M_move 74 rfl) 2 rfl rfl ?_
                    refine e_iload_n (dat d_M_move 75 rfl) 3 rfl rfl ?_
                    refine e_iload_n (dat d_M_move 76 rfl) 4 rfl rfl ?_
                    refine q_call (t_M_want hW hm.1 (by omega) (by omega)) c_M_want (dat d_M_move 77 rfl) rfl k_616 rfl rfl (by decide) (by omega) rfl (show 0 ≤ 8 by decide) ⟨show 1 ≤ 3 by decide, show 22 ≤ 90 by decide⟩ ⟨show 0 ≤ 0 by decide, show 0 ≤ 0 by decide⟩ (fun v9 f9 h9 => ?_) (fun X9 h9 => h9.elim)
                    obtain ⟨rfl, hm9, hf9⟩ := h9
                    replace hm := Rf.tr hm hm9 hf9
                    have hW9 : Wv (wnt m i p) := wv_wnt hW hp
                    refine e_aload_n (dat d_M_move 78 rfl) 2 rfl rfl ?_
                    refine q_call (t_M_look hW9 hm.1) c_M_look (dat d_M_move 79 rfl) rfl k_620 rfl rfl (by decide) (by omega) rfl (show 0 ≤ 8 by decide) ⟨show 3 ≤ 3 by decide, show 82 ≤ 90 by decide⟩ ⟨show 0 ≤ 0 by decide, show 0 ≤ 0 by decide⟩ (fun v9 f9 h9 => ?_) (fun X9 h9 => h9.elim)
                    obtain ⟨rfl, hm8, hf8⟩ := h9
                    refine e_iload_n (dat d_M_move 80 rfl) 1 rfl rfl ?_
                    exact q_zret (dat d_M_move 81 rfl) rfl (z01 hb1) (show 0 ≤ 0 by decide) (show 0 ≤ 0 by decide) (mo_r (by rw [hx, hy, movM2, if_pos hfr]; exact hm8) (hm.2.tr hf8) up2_eq fr8.rf.p0 hk0 (by rw [hx, movA2, if_pos hfr, show b = 1 by omega]))
                · have hk6 : k < 48 := by omega
                  refine e_iload_n (dat d_M_move 43 rfl) 1 rfl rfl ?_
                  refine n_if_eq (dat d_M_move 44 rfl) (tgt := 125) (by decide) (by omega) (fun h79 => ?_) (fun h79 => ?_)
                  · refine n_iconst (dat d_M_move 68 rfl) 0 rfl ?_
                    refine e_istore_n (dat d_M_move 69 rfl) rfl (show 3 < 5 by decide) (lv2 := [(3, _), (4, _), (0, _), (1, _), (2, _)]) rfl ?_
                    refine n_iinc (q := 1) (dat d_M_move 70 rfl) rfl (show 4 < 5 by decide) (lv2 := [(4, _), (3, _), (0, _), (1, _), (2, _)]) rfl ?_
                    refine e_goto (dat d_M_move 71 rfl) (tgt := 66) (by decide) ?_
                    refine ih (by omega) 0 (by decide) ⟨fun h => absurd h (by decide), fun h => ?_⟩
                    have h1 := hI.mpr ⟨h.1, fun z hz => h.2 z (by omega)⟩
                    first
                      | omega
                      | exact (h.2 k (by omega) ⟨h97, by have := (hW.o k).2.2.2.2.1; omega, h118⟩).elim
                  · refine e_iload (dat d_M_move 45 rfl) 0 rfl ?_
                    refine n_bipush (dat d_M_move 46 rfl) 6 rfl ?_
                    refine n_irem (dat d_M_move 47 rfl) (by omega) ?_
                    refine e_aload_n (dat d_M_move 48 rfl) 2 rfl rfl ?_
                    refine s_qM (t := 51) (dat d_M_move 49 rfl) 14 k_513 (by decide) rfl rfl rfl ?_
                    refine e_iload (dat d_M_move 50 rfl) 0 rfl ?_
                    refine n_bipush (dat d_M_move 51 rfl) 6 rfl ?_
                    refine n_idiv (dat d_M_move 52 rfl) (by omega) ?_
                    refine s_ild (N := 8) (dat d_M_move 53 rfl) rfl (by decide) rfl rfl (by omega) (rmf hm (by decide)) ?_
                    refine n_icmp_ge (dat d_M_move 54 rfl) (tgt := 121) (by decide) (by omega) (lt64 (hW.b _ _)) (fun h97 => ?_) (fun h97 => ?_)
                    · refine n_iconst (dat d_M_move 66 rfl) 1 rfl ?_
                      refine e_goto (dat d_M_move 67 rfl) (tgt := 126) (by decide) ?_
                      refine e_istore_n (dat d_M_move 69 rfl) rfl (show 3 < 5 by decide) (lv2 := [(3, _), (4, _), (0, _), (1, _), (2, _)]) rfl ?_
                      refine n_iinc (q := 1) (dat d_M_move 70 rfl) rfl (show 4 < 5 by decide) (lv2 := [(4, _), (3, _), (0, _), (1, _), (2, _)]) rfl ?_
                      refine e_goto (dat d_M_move 71 rfl) (tgt := 66) (by decide) ?_
                      refine ih (by omega) 1 (by decide) ⟨fun _ => ⟨(hI.mp (by omega)).1, fun z hz => ?_⟩, fun _ => rfl⟩
                      by_cases e : z = k
                      · rw [e]
                        rintro ⟨a1, a2, a3⟩
                        first
                          | omega
                          | exact h118 a3
                      · exact (hI.mp (by omega)).2 z (by omega)
                    · refine e_aload_n (dat d_M_move 55 rfl) 2 rfl rfl ?_
                      refine s_qM (t := 54) (dat d_M_move 56 rfl) 17 k_516 (by decide) rfl rfl rfl ?_
                      refine e_iload (dat d_M_move 57 rfl) 0 rfl ?_
                      refine s_bld (N := 48) (dat d_M_move 58 rfl) rfl (by decide) rfl rfl (by omega) (rmf hm (by decide)) ?_
                      refine n_if_eq (dat d_M_move 59 rfl) (tgt := 121) (by decide) (lt64 (hW.b _ _)) (fun h107 => ?_) (fun h107 => ?_)
                      · refine n_iconst (dat d_M_move 66 rfl) 1 rfl ?_
                        refine e_goto (dat d_M_move 67 rfl) (tgt := 126) (by decide) ?_
                        refine e_istore_n (dat d_M_move 69 rfl) rfl (show 3 < 5 by decide) (lv2 := [(3, _), (4, _), (0, _), (1, _), (2, _)]) rfl ?_
                        refine n_iinc (q := 1) (dat d_M_move 70 rfl) rfl (show 4 < 5 by decide) (lv2 := [(4, _), (3, _), (0, _), (1, _), (2, _)]) rfl ?_
                        refine e_goto (dat d_M_move 71 rfl) (tgt := 66) (by decide) ?_
                        refine ih (by omega) 1 (by decide) ⟨fun _ => ⟨(hI.mp (by omega)).1, fun z hz => ?_⟩, fun _ => rfl⟩
                        by_cases e : z = k
                        · rw [e]
                          rintro ⟨a1, a2, a3⟩
                          first
                            | omega
                            | exact h118 a3
                        · exact (hI.mp (by omega)).2 z (by omega)
                      · refine e_aload_n (dat d_M_move 60 rfl) 2 rfl rfl ?_
                        refine s_qM (t := 52) (dat d_M_move 61 rfl) 15 k_514 (by decide) rfl rfl rfl ?_
                        refine e_iload (dat d_M_move 62 rfl) 0 rfl ?_
                        refine s_ild (N := 48) (dat d_M_move 63 rfl) rfl (by decide) rfl rfl (by omega) (rmf hm (by decide)) ?_
                        refine e_iload_n (dat d_M_move 64 rfl) 3 rfl rfl ?_
                        refine n_icmp_eq (dat d_M_move 65 rfl) (tgt := 125) (by decide) (lt64 (hW.b _ _)) (by omega) (fun h118 => ?_) (fun h118 => ?_)
                        · refine n_iconst (dat d_M_move 68 rfl) 0 rfl ?_
                          refine e_istore_n (dat d_M_move 69 rfl) rfl (show 3 < 5 by decide) (lv2 := [(3, _), (4, _), (0, _), (1, _), (2, _)]) rfl ?_
                          refine n_iinc (q := 1) (dat d_M_move 70 rfl) rfl (show 4 < 5 by decide) (lv2 := [(4, _), (3, _), (0, _), (1, _), (2, _)]) rfl ?_
                          refine e_goto (dat d_M_move 71 rfl) (tgt := 66) (by decide) ?_
                          refine ih (by omega) 0 (by decide) ⟨fun h => absurd h (by decide), fun h => ?_⟩
                          have h1 := hI.mpr ⟨h.1, fun z hz => h.2 z (by omega)⟩
                          first
                            | omega
                            | exact (h.2 k (by omega) ⟨h97, by have := (hW.o k).2.2.2.2.1; omega, h118⟩).elim
                        · refine n_iconst (dat d_M_move 66 rfl) 1 rfl ?_
                          refine e_goto (dat d_M_move 67 rfl) (tgt := 126) (by decide) ?_
                          refine e_istore_n (dat d_M_move 69 rfl) rfl (show 3 < 5 by decide) (lv2 := [(3, _), (4, _), (0, _), (1, _), (2, _)]) rfl ?_
                          refine n_iinc (q := 1) (dat d_M_move 70 rfl) rfl (show 4 < 5 by decide) (lv2 := [(4, _), (3, _), (0, _), (1, _), (2, _)]) rfl ?_
                          refine e_goto (dat d_M_move 71 rfl) (tgt := 66) (by decide) ?_
                          refine ih (by omega) 1 (by decide) ⟨fun _ => ⟨(hI.mp (by omega)).1, fun z hz => ?_⟩, fun _ => rfl⟩
                          by_cases e : z = k
                          · rw [e]
                            rintro ⟨a1, a2, a3⟩
                            first
                              | omega
                              | exact h118 a3
                          · exact (hI.mp (by omega)).2 z (by omega)
              exact L 0 (Nat.zero_le _) 0 (by decide) ⟨fun h => absurd h (by decide), fun h => absurd h.1 h54⟩
            · refine n_iconst (dat d_M_move 31 rfl) 1 rfl ?_
              refine e_goto (dat d_M_move 32 rfl) (tgt := 62) (by decide) ?_
              refine e_istore_n (dat d_M_move 34 rfl) rfl (show 3 < 5 by decide) (lv2 := [(3, _), (0, _), (1, _), (2, _)]) rfl ?_
              refine n_iconst (dat d_M_move 35 rfl) 0 rfl ?_
              refine e_istore (dat d_M_move 36 rfl) (show 4 < 5 by decide) (lv2 := [(4, _), (3, _), (0, _), (1, _), (2, _)]) rfl ?_
              have L : ∀ k, k ≤ 6 * m 39 7 → ∀ b, b ≤ 1 → (b = 1 ↔ (m 41 i = 0 ∧ ∀ z, z < k → ¬ (z % 6 < m 51 (z / 6) ∧ m 54 z = 1 ∧ m 52 z = i))) → Ev E (jq E i_M_move 3 0 0 f w (MO f (kMov m (nI i) (nI p)) m (movM2 m (ix (nI i)) (ix (nI p))) (nI (movA2 m (ix (nI i))))) (fun _ => False)) 0 0 66 [(4, .int (nI k)), (3, .int (nI b)), (0, .ref (wB E + 39)), (1, .int (nI i)), (2, .int (nI p))] [] (up2 f 39 0 (nI 0)) g0 w 57 := by
                apply lp_ind
                intro k hk ih b hb1 hI
                refine e_iload (dat d_M_move 37 rfl) 0 rfl ?_
                refine n_bipush (dat d_M_move 38 rfl) 6 rfl ?_
                refine e_aload_n (dat d_M_move 39 rfl) 2 rfl rfl ?_
                refine s_gM (dat d_M_move 40 rfl) 7 k_506 (by decide) rfl rfl (rmf7 hm) ?_
                refine n_imul (dat d_M_move 41 rfl) ?_
                refine n_icmp_ge (dat d_M_move 42 rfl) (tgt := 133) (by decide) (by omega) (by omega) (fun h75 => ?_) (fun h75 => ?_)
                · refine e_iload_n (dat d_M_move 72 rfl) 1 rfl rfl ?_
                  refine n_if_eq (dat d_M_move 73 rfl) (tgt := 143) (by decide) (by omega) (fun h134 => ?_) (fun h134 => ?_)
                  · have hfr : ¬ freP m i := fun h => absurd (hI.mpr ⟨h.1, fun z hz => h.2 z (by omega)⟩) (by omega)
                    refine e_aload_n (dat d_M_move 78 rfl) 2 rfl rfl ?_
                    refine q_call (t_M_look hW hm.1) c_M_look (dat d_M_move 79 rfl) rfl k_620 rfl rfl (by decide) (by omega) rfl (show 0 ≤ 8 by decide) ⟨show 3 ≤ 3 by decide, show 82 ≤ 90 by decide⟩ ⟨show 0 ≤ 0 by decide, show 0 ≤ 0 by decide⟩ (fun v9 f9 h9 => ?_) (fun X9 h9 => h9.elim)
                    obtain ⟨rfl, hm8, hf8⟩ := h9
                    refine e_iload_n (dat d_M_move 80 rfl) 1 rfl rfl ?_
                    exact q_zret (dat d_M_move 81 rfl) rfl (z01 hb1) (show 0 ≤ 0 by decide) (show 0 ≤ 0 by decide) (mo_r (by rw [hx, hy, movM2, if_neg hfr]; exact hm8) (hm.2.tr hf8) up2_eq fr8.rf.p0 hk0 (by rw [hx, movA2, if_neg hfr, show b = 0 by omega]))
                  · have hfr : freP m i := ⟨(hI.mp (by omega)).1, fun z hz => (hI.mp (by omega)).2 z (by omega)⟩
                    refine e_aload_n (dat d_M_move 74 rfl) 2 rfl rfl ?_
                    refine e_iload_n (dat d_M_move 75 rfl) 3 rfl rfl ?_
                    refine e_iload_n (dat d_M_move 76 rfl) 4 rfl rfl ?_
                    refine q_call (t_M_want hW hm.1 (by omega) (by omega)) c_M_want (dat d_M_move 77 rfl) rfl k_616 rfl rfl (by decide) (by omega) rfl (show 0 ≤ 8 by decide) ⟨show 1 ≤ 3 by decide, show 22 ≤ 90 by decide⟩ ⟨show 0 ≤ 0 by decide, show 0 ≤ 0 by decide⟩ (fun v9 f9 h9 => ?_) (fun X9 h9 => h9.elim)
                    obtain ⟨rfl, hm9, hf9⟩ := h9
                    replace hm := Rf.tr hm hm9 hf9
                    have hW9 : Wv (wnt m i p) := wv_wnt hW hp
                    refine e_aload_n (dat d_M_move 78 rfl) 2 rfl rfl ?_
                    refine q_call (t_M_look hW9 hm.1) c_M_look (dat d_M_move 79 rfl) rfl k_620 rfl rfl (by decide) (by omega) rfl (show 0 ≤ 8 by decide) ⟨show 3 ≤ 3 by decide, show 82 ≤ 90 by decide⟩ ⟨show 0 ≤ 0 by decide, show 0 ≤ 0 by decide⟩ (fun v9 f9 h9 => ?_) (fun X9 h9 => h9.elim)
                    obtain ⟨rfl, hm8, hf8⟩ := h9
                    refine e_iload_n (dat d_M_move 80 rfl) 1 rfl rfl ?_
                    exact q_zret (dat d_M_move 81 rfl) rfl (z01 hb1) (show 0 ≤ 0 by decide) (show 0 ≤ 0 by decide) (mo_r (by rw [hx, hy, movM2, if_pos hfr]; exact hm8) (hm.2.tr hf8) up2_eq fr8.rf.p0 hk0 (by rw [hx, movA2, if_pos hfr, show b = 1 by omega]))
                · have hk6 : k < 48 := by omega
                  refine e_iload_n (dat d_M_move 43 rfl) 1 rfl rfl ?_
                  refine n_if_eq (dat d_M_move 44 rfl) (tgt := 125) (by decide) (by omega) (fun h79 => ?_) (fun h79 => ?_)
                  · refine n_iconst (dat d_M_move 68 rfl) 0 rfl ?_
                    refine e_istore_n (dat d_M_move 69 rfl) rfl (show 3 < 5 by decide) (lv2 := [(3, _), (4, _), (0, _), (1, _), (2, _)]) rfl ?_
                    refine n_iinc (q := 1) (dat d_M_move 70 rfl) rfl (show 4 < 5 by decide) (lv2 := [(4, _), (3, _), (0, _), (1, _), (2, _)]) rfl ?_
                    refine e_goto (dat d_M_move 71 rfl) (tgt := 66) (by decide) ?_
                    refine ih (by omega) 0 (by decide) ⟨fun h => absurd h (by decide), fun h => ?_⟩
                    have h1 := hI.mpr ⟨h.1, fun z hz => h.2 z (by omega)⟩
                    first
                      | omega
                      | exact (h.2 k (by omega) ⟨h97, by have := (hW.o k).2.2.2.2.1; omega, h118⟩).elim
                  · refine e_iload (dat d_M_move 45 rfl) 0 rfl ?_
                    refine n_bipush (dat d_M_move 46 rfl) 6 rfl ?_
                    refine n_irem (dat d_M_move 47 rfl) (by omega) ?_
                    refine e_aload_n (dat d_M_move 48 rfl) 2 rfl rfl ?_
                    refine s_qM (t := 51) (dat d_M_move 49 rfl) 14 k_513 (by decide) rfl rfl rfl ?_
                    refine e_iload (dat d_M_move 50 rfl) 0 rfl ?_
                    refine n_bipush (dat d_M_move 51 rfl) 6 rfl ?_
                    refine n_idiv (dat d_M_move 52 rfl) (by omega) ?_
                    refine s_ild (N := 8) (dat d_M_move 53 rfl) rfl (by decide) rfl rfl (by omega) (rmf hm (by decide)) ?_
                    refine n_icmp_ge (dat d_M_move 54 rfl) (tgt := 121) (by decide) (by omega) (lt64 (hW.b _ _)) (fun h97 => ?_) (fun h97 => ?_)
                    · refine n_iconst (dat d_M_move 66 rfl) 1 rfl ?_
                      refine e_goto (dat d_M_move 67 rfl) (tgt := 126) (by decide) ?_
                      refine e_istore_n (dat d_M_move 69 rfl) rfl (show 3 < 5 by decide) (lv2 := [(3, _), (4, _), (0, _), (1, _), (2, _)]) rfl ?_
                      refine n_iinc (q := 1) (dat d_M_move 70 rfl) rfl (show 4 < 5 by decide) (lv2 := [(4, _), (3, _), (0, _), (1, _), (2, _)]) rfl ?_
                      refine e_goto (dat d_M_move 71 rfl) (tgt := 66) (by decide) ?_
                      refine ih (by omega) 1 (by decide) ⟨fun _ => ⟨(hI.mp (by omega)).1, fun z hz => ?_⟩, fun _ => rfl⟩
                      by_cases e : z = k
                      · rw [e]
                        rintro ⟨a1, a2, a3⟩
                        first
                          | omega
                          | exact h118 a3
                      · exact (hI.mp (by omega)).2 z (by omega)
                    · refine e_aload_n (dat d_M_move 55 rfl) 2 rfl rfl ?_
                      refine s_qM (t := 54) (dat d_M_move 56 rfl) 17 k_516 (by decide) rfl rfl rfl ?_
                      refine e_iload (dat d_M_move 57 rfl) 0 rfl ?_
                      refine s_bld (N := 48) (dat d_M_move 58 rfl) rfl (by decide) rfl rfl (by omega) (rmf hm (by decide)) ?_
                      refine n_if_eq (dat d_M_move 59 rfl) (tgt := 121) (by decide) (lt64 (hW.b _ _)) (fun h107 => ?_) (fun h107 => ?_)
                      · refine n_iconst (dat d_M_move 66 rfl) 1 rfl ?_
                        refine e_goto (dat d_M_move 67 rfl) (tgt := 126) (by decide) ?_
                        refine e_istore_n (dat d_M_move 69 rfl) rfl (show 3 < 5 by decide) (lv2 := [(3, _), (4, _), (0, _), (1, _), (2, _)]) rfl ?_
                        refine n_iinc (q := 1) (dat d_M_move 70 rfl) rfl (show 4 < 5 by decide) (lv2 := [(4, _), (3, _), (0, _), (1, _), (2, _)]) rfl ?_
                        refine e_goto (dat d_M_move 71 rfl) (tgt := 66) (by decide) ?_
                        refine ih (by omega) 1 (by decide) ⟨fun _ => ⟨(hI.mp (by omega)).1, fun z hz => ?_⟩, fun _ => rfl⟩
                        by_cases e : z = k
                        · rw [e]
                          rintro ⟨a1, a2, a3⟩
                          first
                            | omega
                            | exact h118 a3
                        · exact (hI.mp (by omega)).2 z (by omega)
                      · refine e_aload_n (dat d_M_move 60 rfl) 2 rfl rfl ?_
                        refine s_qM (t := 52) (dat d_M_move 61 rfl) 15 k_514 (by decide) rfl rfl rfl ?_
                        refine e_iload (dat d_M_move 62 rfl) 0 rfl ?_
                        refine s_ild (N := 48) (dat d_M_move 63 rfl) rfl (by decide) rfl rfl (by omega) (rmf hm (by decide)) ?_
                        refine e_iload_n (dat d_M_move 64 rfl) 3 rfl rfl ?_
                        refine n_icmp_eq (dat d_M_move 65 rfl) (tgt := 125) (by decide) (lt64 (hW.b _ _)) (by omega) (fun h118 => ?_) (fun h118 => ?_)
                        · refine n_iconst (dat d_M_move 68 rfl) 0 rfl ?_
                          refine e_istore_n (dat d_M_move 69 rfl) rfl (show 3 < 5 by decide) (lv2 := [(3, _), (4, _), (0, _), (1, _), (2, _)]) rfl ?_
                          refine n_iinc (q := 1) (dat d_M_move 70 rfl) rfl (show 4 < 5 by decide) (lv2 := [(4, _), (3, _), (0, _), (1, _), (2, _)]) rfl ?_
                          refine e_goto (dat d_M_move 71 rfl) (tgt := 66) (by decide) ?_
                          refine ih (by omega) 0 (by decide) ⟨fun h => absurd h (by decide), fun h => ?_⟩
                          have h1 := hI.mpr ⟨h.1, fun z hz => h.2 z (by omega)⟩
                          first
                            | omega
                            | exact (h.2 k (by omega) ⟨h97, by have := (hW.o k).2.2.2.2.1; omega, h118⟩).elim
                        · refine n_iconst (dat d_M_move 66 rfl) 1 rfl ?_
                          refine e_goto (dat d_M_move 67 rfl) (tgt := 126) (by decide) ?_
                          refine e_istore_n (dat d_M_move 69 rfl) rfl (show 3 < 5 by decide) (lv2 := [(3, _), (4, _), (0, _), (1, _), (2, _)]) rfl ?_
                          refine n_iinc (q := 1) (dat d_M_move 70 rfl) rfl (show 4 < 5 by decide) (lv2 := [(4, _), (3, _), (0, _), (1, _), (2, _)]) rfl ?_
                          refine e_goto (dat d_M_move 71 rfl) (tgt := 66) (by decide) ?_
                          refine ih (by omega) 1 (by decide) ⟨fun _ => ⟨(hI.mp (by omega)).1, fun z hz => ?_⟩, fun _ => rfl⟩
                          by_cases e : z = k
                          · rw [e]
                            rintro ⟨a1, a2, a3⟩
                            first
                              | omega
                              | exact h118 a3
                          · exact (hI.mp (by omega)).2 z (by omega)
              exact L 0 (Nat.zero_le _) 1 (by decide) ⟨fun _ => ⟨h54, fun q hq => absurd hq (Nat.not_lt_zero _)⟩, fun _ => rfl⟩
          · first | exact absurd rfl h43 | exact absurd h43 (by decide)
        · refine n_iconst (dat d_M_move 17 rfl) 2 rfl ?_
          refine e_goto (dat d_M_move 18 rfl) (tgt := 36) (by decide) ?_
          refine m_p0 (dat d_M_move 20 rfl) k_499 hm (fun hm => ?_)
          refine e_aload_n (dat d_M_move 21 rfl) 0 rfl rfl ?_
          refine s_gM (dat d_M_move 22 rfl) 0 k_499 (by decide) rfl rfl up2_eq ?_
          refine n_if_le (dat d_M_move 23 rfl) (tgt := 48) (by decide) (by omega) (fun h43 => ?_) (fun h43 => ?_)
          · first | exact absurd rfl h43 | exact absurd h43 (by decide)
          · refine n_iconst (dat d_M_move 24 rfl) 0 rfl ?_
            exact q_zret (dat d_M_move 25 rfl) rfl (z01 (by decide)) (show 0 ≤ 0 by decide) (show 0 ≤ 0 by decide) (mo_x hm up2_eq fr8.rf.p0 (by rw [kMov, if_neg h6, hx, if_pos (by first | exact Or.inl h19 | exact Or.inr (mv_n (fun h => h.1 h23)) | exact Or.inr (mv_n (fun h => h28 h.2)))]) (by decide))
  · replace h6 := if_p h6
    refine n_iconst (dat d_M_move 5 rfl) 1 rfl ?_
    refine e_goto (dat d_M_move 6 rfl) (tgt := 36) (by decide) ?_
    refine m_p0 (dat d_M_move 20 rfl) k_499 hm (fun hm => ?_)
    refine e_aload_n (dat d_M_move 21 rfl) 0 rfl rfl ?_
    refine s_gM (dat d_M_move 22 rfl) 0 k_499 (by decide) rfl rfl up2_eq ?_
    refine n_if_le (dat d_M_move 23 rfl) (tgt := 48) (by decide) (by omega) (fun h43 => ?_) (fun h43 => ?_)
    · first | exact absurd rfl h43 | exact absurd h43 (by decide)
    · refine n_iconst (dat d_M_move 24 rfl) 0 rfl ?_
      exact q_zret (dat d_M_move 25 rfl) rfl (z01 (by decide)) (show 0 ≤ 0 by decide) (show 0 ≤ 0 by decide) (mo_x hm up2_eq fr8.rf.p0 (if_pos h6) (by decide))
theorem t_M_clash {E : wE} {m : wM} {f : wF} {w : Int64} {x y : Int32} (hW : Wv m) (hm : Rm m f)  : Cq E i_M_clash 2 0 0 [.ref (wB E + 39), .int x, .int y] f w (MO f (kCla m x y) m m (nI (claA2 m (ix x) (ix y)))) (fun _ => False) := by
  have hm0 := hm
  have h12 := hW.S
  have h8 := hW.R
  replace hm := Rf.of hm
  refine cq_of rfl rfl rfl (show 3 ≤ 6 by decide) ?_
  refine e_aload_n (dat d_M_clash 0 rfl) 0 rfl rfl ?_
  refine e_aload_n (dat d_M_clash 1 rfl) 0 rfl rfl ?_
  refine e_iload_n (dat d_M_clash 2 rfl) 1 rfl rfl ?_
  refine r_call (t_M_noRoute hW hm0) c_M_noRoute (dat d_M_clash 3 rfl) rfl k_586 rfl rfl (by decide) (by omega) rfl (show 1 ≤ 8 by decide) ⟨show 1 ≤ 2 by decide, show 21 ≤ 60 by decide⟩ ⟨show 0 ≤ 0 by decide, show 0 ≤ 0 by decide⟩ ?_
  refine n_if_ne (dat d_M_clash 4 rfl) (tgt := 17) (by decide) if_lt (fun h6 => ?_) (fun h6 => ?_)
  · replace h6 := if_p h6
    refine n_iconst (dat d_M_clash 9 rfl) 1 rfl ?_
    refine e_goto (dat d_M_clash 10 rfl) (tgt := 22) (by decide) ?_
    refine m_p0 (dat d_M_clash 12 rfl) k_499 hm (fun hm => ?_)
    refine e_aload_n (dat d_M_clash 13 rfl) 0 rfl rfl ?_
    refine s_gM (dat d_M_clash 14 rfl) 0 k_499 (by decide) rfl rfl up2_eq ?_
    refine n_if_gt (dat d_M_clash 15 rfl) (tgt := 37) (by decide) (by omega) (fun h29 => ?_) (fun h29 => ?_)
    · refine n_iconst (dat d_M_clash 19 rfl) 0 rfl ?_
      exact q_zret (dat d_M_clash 20 rfl) rfl (z01 (by decide)) (show 0 ≤ 0 by decide) (show 0 ≤ 0 by decide) (mo_x hm up2_eq fr8.rf.p0 (if_pos (by first | exact Or.inl h6 | exact Or.inr h14)) (by decide))
    · first | exact absurd rfl h29 | exact absurd h29 (by decide)
  · replace h6 := if_n h6
    refine e_aload_n (dat d_M_clash 5 rfl) 0 rfl rfl ?_
    refine e_iload_n (dat d_M_clash 6 rfl) 2 rfl rfl ?_
    refine r_call (t_M_noRoute hW hm0) c_M_noRoute (dat d_M_clash 7 rfl) rfl k_586 rfl rfl (by decide) (by omega) rfl (show 1 ≤ 8 by decide) ⟨show 1 ≤ 2 by decide, show 21 ≤ 60 by decide⟩ ⟨show 0 ≤ 0 by decide, show 0 ≤ 0 by decide⟩ ?_
    refine n_if_eq (dat d_M_clash 8 rfl) (tgt := 21) (by decide) if_lt (fun h14 => ?_) (fun h14 => ?_)
    · replace h14 := if_n h14
      obtain ⟨r, hr, rfl⟩ := ix_of (x := x) (N := m 39 7) (by omega) h6
      have hx := ix_nI (show r < 64 by omega)
      have h6r := hW.N hr
      obtain ⟨q, hq, rfl⟩ := ix_of (x := y) (N := m 39 7) (by omega) h14
      have hy := ix_nI (show q < 64 by omega)
      have h6q := hW.N hq
      have hk0 : kCla m (nI r) (nI q) = 0 := if_neg (fun h => h.elim (no_ix hr (by omega)) (no_ix hq (by omega)))
      refine n_iconst (dat d_M_clash 11 rfl) 0 rfl ?_
      refine m_p0 (dat d_M_clash 12 rfl) k_499 hm (fun hm => ?_)
      refine e_aload_n (dat d_M_clash 13 rfl) 0 rfl rfl ?_
      refine s_gM (dat d_M_clash 14 rfl) 0 k_499 (by decide) rfl rfl up2_eq ?_
      refine n_if_gt (dat d_M_clash 15 rfl) (tgt := 37) (by decide) (by omega) (fun h29 => ?_) (fun h29 => ?_)
      · first | exact absurd rfl h29 | exact absurd h29 (by decide)
      · refine e_iload_n (dat d_M_clash 16 rfl) 1 rfl rfl ?_
        refine e_iload_n (dat d_M_clash 17 rfl) 2 rfl rfl ?_
        refine n_icmp_ne (dat d_M_clash 18 rfl) (tgt := 39) (by decide) (by omega) (by omega) (fun h34 => ?_) (fun h34 => ?_)
        · have hne : r ≠ q := h34
          refine e_aload_n (dat d_M_clash 21 rfl) 0 rfl rfl ?_
          refine s_qM (t := 45) (dat d_M_clash 22 rfl) 8 k_507 (by decide) rfl rfl rfl ?_
          refine e_iload_n (dat d_M_clash 23 rfl) 1 rfl rfl ?_
          refine s_ild (N := 8) (dat d_M_clash 24 rfl) rfl (by decide) rfl rfl (by omega) (rmf hm (by decide)) ?_
          refine e_aload_n (dat d_M_clash 25 rfl) 0 rfl rfl ?_
          refine s_qM (t := 45) (dat d_M_clash 26 rfl) 8 k_507 (by decide) rfl rfl rfl ?_
          refine e_iload_n (dat d_M_clash 27 rfl) 2 rfl rfl ?_
          refine s_ild (N := 8) (dat d_M_clash 28 rfl) rfl (by decide) rfl rfl (by omega) (rmf hm (by decide)) ?_
          refine n_icmp_ne (dat d_M_clash 29 rfl) (tgt := 58) (by decide) (lt64 (hW.b _ _)) (lt64 (hW.b _ _)) (fun h51 => ?_) (fun h51 => ?_)
          · refine n_iconst (dat d_M_clash 32 rfl) 0 rfl ?_
            refine e_istore_n (dat d_M_clash 33 rfl) rfl (show 3 < 6 by decide) (lv2 := [(3, _), (0, _), (1, _), (2, _)]) rfl ?_
            refine n_bipush (dat d_M_clash 34 rfl) 6 rfl ?_
            refine e_iload_n (dat d_M_clash 35 rfl) 2 rfl rfl ?_
            refine n_imul (dat d_M_clash 36 rfl) ?_
            refine e_istore (dat d_M_clash 37 rfl) (show 4 < 6 by decide) (lv2 := [(4, _), (3, _), (0, _), (1, _), (2, _)]) rfl ?_
            have L : ∀ k, k ≤ m 51 r → ∀ b, b ≤ 1 → (b = 0 ↔ (m 45 r ≠ m 45 q ∧ ∀ z, z < k → ∀ j, j < m 51 q → ¬ meetP m (6 * r + z) (6 * q + j))) → Ev E (jq E i_M_clash 2 0 0 f w (MO f (kCla m (nI r) (nI q)) m m (nI (claA2 m (ix (nI r)) (ix (nI q))))) (fun _ => False)) 0 0 66 [(4, .int (nI (6 * r + k))), (3, .int (nI b)), (0, .ref (wB E + 39)), (1, .int (nI r)), (2, .int (nI q))] [] (up2 f 39 0 (nI 0)) g0 w 57 := by
              apply lp_ind
              intro k hk ih b hb1 hI
              refine e_iload (dat d_M_clash 38 rfl) 0 rfl ?_
              refine n_bipush (dat d_M_clash 39 rfl) 6 rfl ?_
              refine e_iload_n (dat d_M_clash 40 rfl) 3 rfl rfl ?_
              refine n_imul (dat d_M_clash 41 rfl) ?_
              refine e_aload_n (dat d_M_clash 42 rfl) 2 rfl rfl ?_
              refine s_qM (t := 51) (dat d_M_clash 43 rfl) 14 k_513 (by decide) rfl rfl rfl ?_
              refine e_iload_n (dat d_M_clash 44 rfl) 3 rfl rfl ?_
              refine s_ild (N := 8) (dat d_M_clash 45 rfl) rfl (by decide) rfl rfl (by omega) (rmf hm (by decide)) ?_
              refine n_iadd (dat d_M_clash 46 rfl) ?_
              refine n_icmp_ge (dat d_M_clash 47 rfl) (tgt := 137) (by decide) (by have := hW.b 51 r; omega) (by have := hW.b 51 r; omega) (fun h79 => ?_) (fun h79 => ?_)
              · refine e_iload_n (dat d_M_clash 77 rfl) 1 rfl rfl ?_
                exact q_zret (dat d_M_clash 78 rfl) rfl (z01 hb1) (show 0 ≤ 0 by decide) (show 0 ≤ 0 by decide) (mo_r hm.1 hm.2 up2_eq fr8.rf.p0 hk0 (by rw [hx, hy]; exact cl_end hI hb1 hne (by omega)))
              · have hk1 : k < m 51 r := by omega
                refine n_bipush (dat d_M_clash 48 rfl) 6 rfl ?_
                refine e_iload_n (dat d_M_clash 49 rfl) 4 rfl rfl ?_
                refine n_imul (dat d_M_clash 50 rfl) ?_
                refine e_istore (dat d_M_clash 51 rfl) (show 5 < 6 by decide) (lv2 := [(5, _), (4, _), (3, _), (0, _), (1, _), (2, _)]) rfl ?_
                have L2 : ∀ j, j ≤ m 51 q → ∀ c9, c9 ≤ 1 → (c9 = 0 ↔ ((m 45 r ≠ m 45 q ∧ ∀ z, z < k → ∀ j, j < m 51 q → ¬ meetP m (6 * r + z) (6 * q + j)) ∧ ∀ j9, j9 < j → ¬ meetP m (6 * r + k) (6 * q + j9))) → Ev E (jq E i_M_clash 2 0 0 f w (MO f (kCla m (nI r) (nI q)) m m (nI (claA2 m (ix (nI r)) (ix (nI q))))) (fun _ => False)) 0 0 88 [(5, .int (nI (6 * q + j))), (4, .int (nI (6 * r + k))), (3, .int (nI c9)), (0, .ref (wB E + 39)), (1, .int (nI r)), (2, .int (nI q))] [] (up2 f 39 0 (nI 0)) g0 w 57 := by
                  apply lp_ind
                  intro j hj ihj c9 hc9 hIj
                  refine e_iload (dat d_M_clash 52 rfl) 0 rfl ?_
                  refine n_bipush (dat d_M_clash 53 rfl) 6 rfl ?_
                  refine e_iload_n (dat d_M_clash 54 rfl) 5 rfl rfl ?_
                  refine n_imul (dat d_M_clash 55 rfl) ?_
                  refine e_aload_n (dat d_M_clash 56 rfl) 3 rfl rfl ?_
                  refine s_qM (t := 51) (dat d_M_clash 57 rfl) 14 k_513 (by decide) rfl rfl rfl ?_
                  refine e_iload_n (dat d_M_clash 58 rfl) 5 rfl rfl ?_
                  refine s_ild (N := 8) (dat d_M_clash 59 rfl) rfl (by decide) rfl rfl (by omega) (rmf hm (by decide)) ?_
                  refine n_iadd (dat d_M_clash 60 rfl) ?_
                  refine n_icmp_ge (dat d_M_clash 61 rfl) (tgt := 131) (by decide) (by have := hW.b 51 q; omega) (by have := hW.b 51 q; omega) (fun h101 => ?_) (fun h101 => ?_)
                  · refine n_iinc (q := 1) (dat d_M_clash 75 rfl) rfl (show 4 < 6 by decide) (lv2 := [(4, _), (5, _), (3, _), (0, _), (1, _), (2, _)]) rfl ?_
                    refine e_goto (dat d_M_clash 76 rfl) (tgt := 66) (by decide) ?_
                    refine e_lv [0, 2, 3, 4, 5] rfl ?_
                    refine ih (by omega) c9 hc9 ⟨fun h => ⟨(hIj.mp h).1.1, fun z hz => ?_⟩, fun h => hIj.mpr ⟨⟨h.1, fun z hz => h.2 z (by omega)⟩, fun j9 hj9 => h.2 k (by omega) j9 (by omega)⟩⟩
                    by_cases e : z = k
                    · rw [e]
                      exact fun j9 hj9 => (hIj.mp h).2 j9 (by omega)
                    · exact (hIj.mp h).1.2 z (by omega)
                  · refine e_iload_n (dat d_M_clash 62 rfl) 2 rfl rfl ?_
                    refine n_if_ne (dat d_M_clash 63 rfl) (tgt := 119) (by decide) (by omega) (fun h105 => ?_) (fun h105 => ?_)
                    · refine n_iconst (dat d_M_clash 69 rfl) 1 rfl ?_
                      refine e_goto (dat d_M_clash 70 rfl) (tgt := 124) (by decide) ?_
                      refine e_istore_n (dat d_M_clash 72 rfl) rfl (show 3 < 6 by decide) (lv2 := [(3, _), (5, _), (4, _), (0, _), (1, _), (2, _)]) rfl ?_
                      refine n_iinc (q := 1) (dat d_M_clash 73 rfl) rfl (show 5 < 6 by decide) (lv2 := [(5, _), (3, _), (4, _), (0, _), (1, _), (2, _)]) rfl ?_
                      refine e_goto (dat d_M_clash 74 rfl) (tgt := 88) (by decide) ?_
                      refine e_lv [0, 2, 1, 3, 4, 5] rfl ?_
                      refine ihj (by omega) 1 (by decide) ⟨fun h => absurd h (by decide), fun h => ?_⟩
                      exfalso
                      first
                        | exact h105 (hIj.mpr ⟨h.1, fun z hz => h.2 z (by omega)⟩)
                        | exact h.2 j (by omega) h116
                    · refine e_aload_n (dat d_M_clash 64 rfl) 3 rfl rfl ?_
                      refine e_iload (dat d_M_clash 65 rfl) 1 rfl ?_
                      refine e_iload (dat d_M_clash 66 rfl) 0 rfl ?_
                      refine r_call (t_M_meet hW hm.1 (by omega) (by omega)) c_M_meet (dat d_M_clash 67 rfl) rfl k_598 rfl rfl (by decide) (by omega) rfl (show 0 ≤ 8 by decide) ⟨show 2 ≤ 2 by decide, show 52 ≤ 60 by decide⟩ ⟨show 0 ≤ 0 by decide, show 0 ≤ 0 by decide⟩ ?_
                      refine n_if_eq (dat d_M_clash 68 rfl) (tgt := 123) (by decide) if_lt (fun h116 => ?_) (fun h116 => ?_)
                      · replace h116 := if_n h116
                        refine n_iconst (dat d_M_clash 71 rfl) 0 rfl ?_
                        refine e_istore_n (dat d_M_clash 72 rfl) rfl (show 3 < 6 by decide) (lv2 := [(3, _), (5, _), (4, _), (0, _), (1, _), (2, _)]) rfl ?_
                        refine n_iinc (q := 1) (dat d_M_clash 73 rfl) rfl (show 5 < 6 by decide) (lv2 := [(5, _), (3, _), (4, _), (0, _), (1, _), (2, _)]) rfl ?_
                        refine e_goto (dat d_M_clash 74 rfl) (tgt := 88) (by decide) ?_
                        refine e_lv [0, 2, 1, 3, 4, 5] rfl ?_
                        refine ihj (by omega) 0 (by decide) ⟨fun _ => ⟨(hIj.mp h105).1, fun z hz => ?_⟩, fun _ => rfl⟩
                        by_cases e : z = j
                        · rw [e]
                          exact h116
                        · exact (hIj.mp h105).2 z (by omega)
                      · replace h116 := if_p h116
                        refine n_iconst (dat d_M_clash 69 rfl) 1 rfl ?_
                        refine e_goto (dat d_M_clash 70 rfl) (tgt := 124) (by decide) ?_
                        refine e_istore_n (dat d_M_clash 72 rfl) rfl (show 3 < 6 by decide) (lv2 := [(3, _), (5, _), (4, _), (0, _), (1, _), (2, _)]) rfl ?_
                        refine n_iinc (q := 1) (dat d_M_clash 73 rfl) rfl (show 5 < 6 by decide) (lv2 := [(5, _), (3, _), (4, _), (0, _), (1, _), (2, _)]) rfl ?_
                        refine e_goto (dat d_M_clash 74 rfl) (tgt := 88) (by decide) ?_
                        refine e_lv [0, 2, 1, 3, 4, 5] rfl ?_
                        refine ihj (by omega) 1 (by decide) ⟨fun h => absurd h (by decide), fun h => ?_⟩
                        exfalso
                        first
                          | exact h105 (hIj.mpr ⟨h.1, fun z hz => h.2 z (by omega)⟩)
                          | exact h.2 j (by omega) h116
                exact L2 0 (Nat.zero_le _) b hb1 ⟨fun h => ⟨hI.mp h, fun z hz => absurd hz (Nat.not_lt_zero _)⟩, fun h => hI.mpr h.1⟩
            exact L 0 (Nat.zero_le _) 0 (by decide) ⟨fun _ => ⟨h51, fun z hz => absurd hz (Nat.not_lt_zero _)⟩, fun _ => rfl⟩
          · refine n_iconst (dat d_M_clash 30 rfl) 1 rfl ?_
            refine e_goto (dat d_M_clash 31 rfl) (tgt := 59) (by decide) ?_
            refine e_istore_n (dat d_M_clash 33 rfl) rfl (show 3 < 6 by decide) (lv2 := [(3, _), (0, _), (1, _), (2, _)]) rfl ?_
            refine n_bipush (dat d_M_clash 34 rfl) 6 rfl ?_
            refine e_iload_n (dat d_M_clash 35 rfl) 2 rfl rfl ?_
            refine n_imul (dat d_M_clash 36 rfl) ?_
            refine e_istore (dat d_M_clash 37 rfl) (show 4 < 6 by decide) (lv2 := [(4, _), (3, _), (0, _), (1, _), (2, _)]) rfl ?_
            have L : ∀ k, k ≤ m 51 r → ∀ b, b ≤ 1 → (b = 0 ↔ (m 45 r ≠ m 45 q ∧ ∀ z, z < k → ∀ j, j < m 51 q → ¬ meetP m (6 * r + z) (6 * q + j))) → Ev E (jq E i_M_clash 2 0 0 f w (MO f (kCla m (nI r) (nI q)) m m (nI (claA2 m (ix (nI r)) (ix (nI q))))) (fun _ => False)) 0 0 66 [(4, .int (nI (6 * r + k))), (3, .int (nI b)), (0, .ref (wB E + 39)), (1, .int (nI r)), (2, .int (nI q))] [] (up2 f 39 0 (nI 0)) g0 w 57 := by
              apply lp_ind
              intro k hk ih b hb1 hI
              refine e_iload (dat d_M_clash 38 rfl) 0 rfl ?_
              refine n_bipush (dat d_M_clash 39 rfl) 6 rfl ?_
              refine e_iload_n (dat d_M_clash 40 rfl) 3 rfl rfl ?_
              refine n_imul (dat d_M_clash 41 rfl) ?_
              refine e_aload_n (dat d_M_clash 42 rfl) 2 rfl rfl ?_
              refine s_qM (t := 51) (dat d_M_clash 43 rfl) 14 k_513 (by decide) rfl rfl rfl ?_
              refine e_iload_n (dat d_M_clash 44 rfl) 3 rfl rfl ?_
              refine s_ild (N := 8) (dat d_M_clash 45 rfl) rfl (by decide) rfl rfl (by omega) (rmf hm (by decide)) ?_
              refine n_iadd (dat d_M_clash 46 rfl) ?_
              refine n_icmp_ge (dat d_M_clash 47 rfl) (tgt := 137) (by decide) (by have := hW.b 51 r; omega) (by have := hW.b 51 r; omega) (fun h79 => ?_) (fun h79 => ?_)
              · refine e_iload_n (dat d_M_clash 77 rfl) 1 rfl rfl ?_
                exact q_zret (dat d_M_clash 78 rfl) rfl (z01 hb1) (show 0 ≤ 0 by decide) (show 0 ≤ 0 by decide) (mo_r hm.1 hm.2 up2_eq fr8.rf.p0 hk0 (by rw [hx, hy]; exact cl_end hI hb1 hne (by omega)))
              · have hk1 : k < m 51 r := by omega
                refine n_bipush (dat d_M_clash 48 rfl) 6 rfl ?_
                refine e_iload_n (dat d_M_clash 49 rfl) 4 rfl rfl ?_
                refine n_imul (dat d_M_clash 50 rfl) ?_
                refine e_istore (dat d_M_clash 51 rfl) (show 5 < 6 by decide) (lv2 := [(5, _), (4, _), (3, _), (0, _), (1, _), (2, _)]) rfl ?_
                have L2 : ∀ j, j ≤ m 51 q → ∀ c9, c9 ≤ 1 → (c9 = 0 ↔ ((m 45 r ≠ m 45 q ∧ ∀ z, z < k → ∀ j, j < m 51 q → ¬ meetP m (6 * r + z) (6 * q + j)) ∧ ∀ j9, j9 < j → ¬ meetP m (6 * r + k) (6 * q + j9))) → Ev E (jq E i_M_clash 2 0 0 f w (MO f (kCla m (nI r) (nI q)) m m (nI (claA2 m (ix (nI r)) (ix (nI q))))) (fun _ => False)) 0 0 88 [(5, .int (nI (6 * q + j))), (4, .int (nI (6 * r + k))), (3, .int (nI c9)), (0, .ref (wB E + 39)), (1, .int (nI r)), (2, .int (nI q))] [] (up2 f 39 0 (nI 0)) g0 w 57 := by
                  apply lp_ind
                  intro j hj ihj c9 hc9 hIj
                  refine e_iload (dat d_M_clash 52 rfl) 0 rfl ?_
                  refine n_bipush (dat d_M_clash 53 rfl) 6 rfl ?_
                  refine e_iload_n (dat d_M_clash 54 rfl) 5 rfl rfl ?_
                  refine n_imul (dat d_M_clash 55 rfl) ?_
                  refine e_aload_n (dat d_M_clash 56 rfl) 3 rfl rfl ?_
                  refine s_qM (t := 51) (dat d_M_clash 57 rfl) 14 k_513 (by decide) rfl rfl rfl ?_
                  refine e_iload_n (dat d_M_clash 58 rfl) 5 rfl rfl ?_
                  refine s_ild (N := 8) (dat d_M_clash 59 rfl) rfl (by decide) rfl rfl (by omega) (rmf hm (by decide)) ?_
                  refine n_iadd (dat d_M_clash 60 rfl) ?_
                  refine n_icmp_ge (dat d_M_clash 61 rfl) (tgt := 131) (by decide) (by have := hW.b 51 q; omega) (by have := hW.b 51 q; omega) (fun h101 => ?_) (fun h101 => ?_)
                  · refine n_iinc (q := 1) (dat d_M_clash 75 rfl) rfl (show 4 < 6 by decide) (lv2 := [(4, _), (5, _), (3, _), (0, _), (1, _), (2, _)]) rfl ?_
                    refine e_goto (dat d_M_clash 76 rfl) (tgt := 66) (by decide) ?_
                    refine e_lv [0, 2, 3, 4, 5] rfl ?_
                    refine ih (by omega) c9 hc9 ⟨fun h => ⟨(hIj.mp h).1.1, fun z hz => ?_⟩, fun h => hIj.mpr ⟨⟨h.1, fun z hz => h.2 z (by omega)⟩, fun j9 hj9 => h.2 k (by omega) j9 (by omega)⟩⟩
                    by_cases e : z = k
                    · rw [e]
                      exact fun j9 hj9 => (hIj.mp h).2 j9 (by omega)
                    · exact (hIj.mp h).1.2 z (by omega)
                  · refine e_iload_n (dat d_M_clash 62 rfl) 2 rfl rfl ?_
                    refine n_if_ne (dat d_M_clash 63 rfl) (tgt := 119) (by decide) (by omega) (fun h105 => ?_) (fun h105 => ?_)
                    · refine n_iconst (dat d_M_clash 69 rfl) 1 rfl ?_
                      refine e_goto (dat d_M_clash 70 rfl) (tgt := 124) (by decide) ?_
                      refine e_istore_n (dat d_M_clash 72 rfl) rfl (show 3 < 6 by decide) (lv2 := [(3, _), (5, _), (4, _), (0, _), (1, _), (2, _)]) rfl ?_
                      refine n_iinc (q := 1) (dat d_M_clash 73 rfl) rfl (show 5 < 6 by decide) (lv2 := [(5, _), (3, _), (4, _), (0, _), (1, _), (2, _)]) rfl ?_
                      refine e_goto (dat d_M_clash 74 rfl) (tgt := 88) (by decide) ?_
                      refine e_lv [0, 2, 1, 3, 4, 5] rfl ?_
                      refine ihj (by omega) 1 (by decide) ⟨fun h => absurd h (by decide), fun h => ?_⟩
                      exfalso
                      first
                        | exact h105 (hIj.mpr ⟨h.1, fun z hz => h.2 z (by omega)⟩)
                        | exact h.2 j (by omega) h116
                    · refine e_aload_n (dat d_M_clash 64 rfl) 3 rfl rfl ?_
                      refine e_iload (dat d_M_clash 65 rfl) 1 rfl ?_
                      refine e_iload (dat d_M_clash 66 rfl) 0 rfl ?_
                      refine r_call (t_M_meet hW hm.1 (by omega) (by omega)) c_M_meet (dat d_M_clash 67 rfl) rfl k_598 rfl rfl (by decide) (by omega) rfl (show 0 ≤ 8 by decide) ⟨show 2 ≤ 2 by decide, show 52 ≤ 60 by decide⟩ ⟨show 0 ≤ 0 by decide, show 0 ≤ 0 by decide⟩ ?_
                      refine n_if_eq (dat d_M_clash 68 rfl) (tgt := 123) (by decide) if_lt (fun h116 => ?_) (fun h116 => ?_)
                      · replace h116 := if_n h116
                        refine n_iconst (dat d_M_clash 71 rfl) 0 rfl ?_
                        refine e_istore_n (dat d_M_clash 72 rfl) rfl (show 3 < 6 by decide) (lv2 := [(3, _), (5, _), (4, _), (0, _), (1, _), (2, _)]) rfl ?_
                        refine n_iinc (q := 1) (dat d_M_clash 73 rfl) rfl (show 5 < 6 by decide) (lv2 := [(5, _), (3, _), (4, _), (0, _), (1, _), (2, _)]) rfl ?_
                        refine e_goto (dat d_M_clash 74 rfl) (tgt := 88) (by decide) ?_
                        refine e_lv [0, 2, 1, 3, 4, 5] rfl ?_
                        refine ihj (by omega) 0 (by decide) ⟨fun _ => ⟨(hIj.mp h105).1, fun z hz => ?_⟩, fun _ => rfl⟩
                        by_cases e : z = j
                        · rw [e]
                          exact h116
                        · exact (hIj.mp h105).2 z (by omega)
                      · replace h116 := if_p h116
                        refine n_iconst (dat d_M_clash 69 rfl) 1 rfl ?_
                        refine e_goto (dat d_M_clash 70 rfl) (tgt := 124) (by decide) ?_
                        refine e_istore_n (dat d_M_clash 72 rfl) rfl (show 3 < 6 by decide) (lv2 := [(3, _), (5, _), (4, _), (0, _), (1, _), (2, _)]) rfl ?_
                        refine n_iinc (q := 1) (dat d_M_clash 73 rfl) rfl (show 5 < 6 by decide) (lv2 := [(5, _), (3, _), (4, _), (0, _), (1, _), (2, _)]) rfl ?_
                        refine e_goto (dat d_M_clash 74 rfl) (tgt := 88) (by decide) ?_
                        refine e_lv [0, 2, 1, 3, 4, 5] rfl ?_
                        refine ihj (by omega) 1 (by decide) ⟨fun h => absurd h (by decide), fun h => ?_⟩
                        exfalso
                        first
                          | exact h105 (hIj.mpr ⟨h.1, fun z hz => h.2 z (by omega)⟩)
                          | exact h.2 j (by omega) h116
                exact L2 0 (Nat.zero_le _) b hb1 ⟨fun h => ⟨hI.mp h, fun z hz => absurd hz (Nat.not_lt_zero _)⟩, fun h => hI.mpr h.1⟩
            exact L 0 (Nat.zero_le _) 1 (by decide) ⟨fun h => absurd h (by decide), fun h => absurd h51 h.1⟩
        · have heq : r = q := h34
          refine n_iconst (dat d_M_clash 19 rfl) 0 rfl ?_
          exact q_zret (dat d_M_clash 20 rfl) rfl (z01 (by decide)) (show 0 ≤ 0 by decide) (show 0 ≤ 0 by decide) (mo_r hm.1 hm.2 up2_eq fr8.rf.p0 hk0 (by rw [hx, hy, claA2, if_neg (fun h => h.1 heq)]))
    · replace h14 := if_p h14
      refine n_iconst (dat d_M_clash 9 rfl) 1 rfl ?_
      refine e_goto (dat d_M_clash 10 rfl) (tgt := 22) (by decide) ?_
      refine m_p0 (dat d_M_clash 12 rfl) k_499 hm (fun hm => ?_)
      refine e_aload_n (dat d_M_clash 13 rfl) 0 rfl rfl ?_
      refine s_gM (dat d_M_clash 14 rfl) 0 k_499 (by decide) rfl rfl up2_eq ?_
      refine n_if_gt (dat d_M_clash 15 rfl) (tgt := 37) (by decide) (by omega) (fun h29 => ?_) (fun h29 => ?_)
      · refine n_iconst (dat d_M_clash 19 rfl) 0 rfl ?_
        exact q_zret (dat d_M_clash 20 rfl) rfl (z01 (by decide)) (show 0 ≤ 0 by decide) (show 0 ≤ 0 by decide) (mo_x hm up2_eq fr8.rf.p0 (if_pos (by first | exact Or.inl h6 | exact Or.inr h14)) (by decide))
      · first | exact absurd rfl h29 | exact absurd h29 (by decide)
theorem t_M_about {E : wE} {m : wM} {f : wF} {w : Int64} {x y : Int32} (hW : Wv m) (hm : Rm m f)  : Cq E i_M_about 1 0 0 [.ref (wB E + 39), .int x, .int y] f w (MO f (kAbt m x y) m m (nI (abtA m (ix x) (ix y)))) (fun _ => False) := by
  have hm0 := hm
  have h12 := hW.S
  have h8 := hW.R
  replace hm := Rf.of hm
  refine cq_of rfl rfl rfl (show 3 ≤ 7 by decide) ?_
  refine e_aload_n (dat d_M_about 0 rfl) 0 rfl rfl ?_
  refine e_aload_n (dat d_M_about 1 rfl) 0 rfl rfl ?_
  refine e_iload_n (dat d_M_about 2 rfl) 1 rfl rfl ?_
  refine r_call (t_M_noRoute hW hm0) c_M_noRoute (dat d_M_about 3 rfl) rfl k_586 rfl rfl (by decide) (by omega) rfl (show 1 ≤ 8 by decide) ⟨show 1 ≤ 1 by decide, show 21 ≤ 30 by decide⟩ ⟨show 0 ≤ 0 by decide, show 0 ≤ 0 by decide⟩ ?_
  refine n_if_eq (dat d_M_about 4 rfl) (tgt := 13) (by decide) if_lt (fun h6 => ?_) (fun h6 => ?_)
  · replace h6 := if_n h6
    obtain ⟨r, hr, rfl⟩ := ix_of (x := x) (N := m 39 7) (by omega) h6
    have hx := ix_nI (show r < 64 by omega)
    have h6r := hW.N hr
    refine e_iload_n (dat d_M_about 7 rfl) 2 rfl rfl ?_
    refine e_if_lt (dat d_M_about 8 rfl) (tgt := 22) (by decide) (fun h14 => ?_) (fun h14 => ?_)
    · refine n_iconst (dat d_M_about 12 rfl) 2 rfl ?_
      refine e_goto (dat d_M_about 13 rfl) (tgt := 27) (by decide) ?_
      refine m_p0 (dat d_M_about 15 rfl) k_499 hm (fun hm => ?_)
      refine e_aload_n (dat d_M_about 16 rfl) 0 rfl rfl ?_
      refine s_gM (dat d_M_about 17 rfl) 0 k_499 (by decide) rfl rfl up2_eq ?_
      refine n_if_le (dat d_M_about 18 rfl) (tgt := 39) (by decide) (by omega) (fun h34 => ?_) (fun h34 => ?_)
      · first | exact absurd rfl h34 | exact absurd h34 (by decide)
      · refine n_iconst (dat d_M_about 19 rfl) 0 rfl ?_
        exact q_iret (dat d_M_about 20 rfl) rfl (show 0 ≤ 0 by decide) (show 0 ≤ 0 by decide) (mo_x hm up2_eq fr8.rf.p0 (by rw [kAbt, if_neg h6, if_pos (by first | exact Or.inl (Int32.lt_iff_toInt_lt.mp h14) | (refine Or.inr ?_; have h9 := Int32.lt_iff_toInt_lt.mp (Int32.not_le.mp h19); rw [nI_toInt (by decide)] at h9; exact h9))]) (by decide))
    · refine e_iload_n (dat d_M_about 9 rfl) 2 rfl rfl ?_
      refine n_iconst (dat d_M_about 10 rfl) 4 rfl ?_
      refine e_icmp_le (dat d_M_about 11 rfl) (tgt := 26) (by decide) (fun h19 => ?_) (fun h19 => ?_)
      · have ho : ¬ (y.toInt < 0 ∨ 4 < y.toInt) := by
          have a1 : ¬ y.toInt < 0 := fun h => h14 (Int32.lt_iff_toInt_lt.mpr h)
          have a2 : y.toInt ≤ 4 := by
            have := Int32.le_iff_toInt_le.mp h19
            rw [nI_toInt (by decide)] at this
            exact this
          omega
        obtain ⟨c, hc, rfl⟩ := (tab_cs (N := 4) (by decide) y).elim id (fun h => absurd h ho)
        have hy := ix_nI (show c < 64 by omega)
        have hk0 : kAbt m (nI r) (nI c) = 0 := by
          rw [kAbt, if_neg h6, if_neg ho]
        refine n_iconst (dat d_M_about 14 rfl) 0 rfl ?_
        refine m_p0 (dat d_M_about 15 rfl) k_499 hm (fun hm => ?_)
        refine e_aload_n (dat d_M_about 16 rfl) 0 rfl rfl ?_
        refine s_gM (dat d_M_about 17 rfl) 0 k_499 (by decide) rfl rfl up2_eq ?_
        refine n_if_le (dat d_M_about 18 rfl) (tgt := 39) (by decide) (by omega) (fun h34 => ?_) (fun h34 => ?_)
        · refine n_iconst (dat d_M_about 21 rfl) 0 rfl ?_
          refine e_istore_n (dat d_M_about 22 rfl) rfl (show 3 < 7 by decide) (lv2 := [(3, _), (0, _), (1, _), (2, _)]) rfl ?_
          refine n_iconst (dat d_M_about 23 rfl) 0 rfl ?_
          refine e_istore (dat d_M_about 24 rfl) (show 4 < 7 by decide) (lv2 := [(4, _), (3, _), (0, _), (1, _), (2, _)]) rfl ?_
          refine n_iconst (dat d_M_about 25 rfl) 0 rfl ?_
          refine e_istore (dat d_M_about 26 rfl) (show 5 < 7 by decide) (lv2 := [(5, _), (4, _), (3, _), (0, _), (1, _), (2, _)]) rfl ?_
          have L : ∀ k, k ≤ m 51 r → Ev E (jq E i_M_about 1 0 0 f w (MO f (kAbt m (nI r) (nI c)) m m (nI (abtA m (ix (nI r)) (ix (nI c))))) (fun _ => False)) 0 0 47 [(5, .int (nI k)), (4, .int (nI (bts (fun z => m 54 (6 * r + z) * m 55 (6 * r + z)) k))), (3, .int (nI (bts (fun z => m 54 (6 * r + z)) k))), (0, .ref (wB E + 39)), (1, .int (nI r)), (2, .int (nI c))] [] (up2 f 39 0 (nI 0)) g0 w 57 := by
            apply lp_ind
            intro k hk ih
            refine e_iload (dat d_M_about 27 rfl) 0 rfl ?_
            refine e_aload_n (dat d_M_about 28 rfl) 3 rfl rfl ?_
            refine s_qM (t := 51) (dat d_M_about 29 rfl) 14 k_513 (by decide) rfl rfl rfl ?_
            refine e_iload_n (dat d_M_about 30 rfl) 4 rfl rfl ?_
            refine s_ild (N := 8) (dat d_M_about 31 rfl) rfl (by decide) rfl rfl (by omega) (rmf hm (by decide)) ?_
            refine n_icmp_ge (dat d_M_about 32 rfl) (tgt := 128) (by decide) (by omega) (lt64 (hW.b _ _)) (fun h55 => ?_) (fun h55 => ?_)
            · refine e_iload_n (dat d_M_about 72 rfl) 5 rfl rfl ?_
              refine n_if_ne (dat d_M_about 73 rfl) (tgt := 141) (by decide) (by omega) (fun h129 => ?_) (fun h129 => ?_)
              · refine e_iload_n (dat d_M_about 79 rfl) 5 rfl rfl ?_
                refine n_iconst (dat d_M_about 80 rfl) 1 rfl ?_
                refine n_icmp_ne (dat d_M_about 81 rfl) (tgt := 155) (by decide) (by omega) (by omega) (fun h143 => ?_) (fun h143 => ?_)
                · refine e_iload_n (dat d_M_about 87 rfl) 5 rfl rfl ?_
                  refine n_iconst (dat d_M_about 88 rfl) 2 rfl ?_
                  refine n_icmp_ne (dat d_M_about 89 rfl) (tgt := 177) (by decide) (by omega) (by omega) (fun h157 => ?_) (fun h157 => ?_)
                  · refine e_iload_n (dat d_M_about 99 rfl) 5 rfl rfl ?_
                    refine n_iconst (dat d_M_about 100 rfl) 3 rfl ?_
                    refine n_icmp_ne (dat d_M_about 101 rfl) (tgt := 186) (by decide) (by omega) (by omega) (fun h179 => ?_) (fun h179 => ?_)
                    · refine e_iload (dat d_M_about 104 rfl) 1 rfl ?_
                      exact q_iret (dat d_M_about 105 rfl) rfl (show 0 ≤ 0 by decide) (show 0 ≤ 0 by decide) (mo_r hm.1 hm.2 up2_eq fr8.rf.p0 hk0 (by rw [hx, hy]; exact ab_end (k := k) (by omega) (by first | exact Or.inl ⟨by omega, rfl⟩ | exact Or.inr (Or.inl ⟨by omega, rfl⟩) | exact Or.inr (Or.inr (Or.inl ⟨by omega, by first | rw [show m 50 r = 0 by omega] | rw [show m 50 r = 1 by have := (hW.o r).2.2.2.1; omega]⟩)) | exact Or.inr (Or.inr (Or.inr (Or.inl ⟨by omega, rfl⟩))) | exact Or.inr (Or.inr (Or.inr (Or.inr ⟨by omega, rfl⟩))))))
                    · refine e_iload_n (dat d_M_about 102 rfl) 2 rfl rfl ?_
                      refine e_goto (dat d_M_about 103 rfl) (tgt := 188) (by decide) ?_
                      exact q_iret (dat d_M_about 105 rfl) rfl (show 0 ≤ 0 by decide) (show 0 ≤ 0 by decide) (mo_r hm.1 hm.2 up2_eq fr8.rf.p0 hk0 (by rw [hx, hy]; exact ab_end (k := k) (by omega) (by first | exact Or.inl ⟨by omega, rfl⟩ | exact Or.inr (Or.inl ⟨by omega, rfl⟩) | exact Or.inr (Or.inr (Or.inl ⟨by omega, by first | rw [show m 50 r = 0 by omega] | rw [show m 50 r = 1 by have := (hW.o r).2.2.2.1; omega]⟩)) | exact Or.inr (Or.inr (Or.inr (Or.inl ⟨by omega, rfl⟩))) | exact Or.inr (Or.inr (Or.inr (Or.inr ⟨by omega, rfl⟩))))))
                  · refine e_aload_n (dat d_M_about 90 rfl) 3 rfl rfl ?_
                    refine s_qM (t := 50) (dat d_M_about 91 rfl) 13 k_512 (by decide) rfl rfl rfl ?_
                    refine e_iload_n (dat d_M_about 92 rfl) 4 rfl rfl ?_
                    refine s_bld (N := 8) (dat d_M_about 93 rfl) rfl (by decide) rfl rfl (by omega) (rmf hm (by decide)) ?_
                    refine n_if_eq (dat d_M_about 94 rfl) (tgt := 173) (by decide) (lt64 (hW.b _ _)) (fun h166 => ?_) (fun h166 => ?_)
                    · refine n_iconst (dat d_M_about 97 rfl) 0 rfl ?_
                      refine e_goto (dat d_M_about 98 rfl) (tgt := 188) (by decide) ?_
                      exact q_iret (dat d_M_about 105 rfl) rfl (show 0 ≤ 0 by decide) (show 0 ≤ 0 by decide) (mo_r hm.1 hm.2 up2_eq fr8.rf.p0 hk0 (by rw [hx, hy]; exact ab_end (k := k) (by omega) (by first | exact Or.inl ⟨by omega, rfl⟩ | exact Or.inr (Or.inl ⟨by omega, rfl⟩) | exact Or.inr (Or.inr (Or.inl ⟨by omega, by first | rw [show m 50 r = 0 by omega] | rw [show m 50 r = 1 by have := (hW.o r).2.2.2.1; omega]⟩)) | exact Or.inr (Or.inr (Or.inr (Or.inl ⟨by omega, rfl⟩))) | exact Or.inr (Or.inr (Or.inr (Or.inr ⟨by omega, rfl⟩))))))
                    · refine n_iconst (dat d_M_about 95 rfl) 1 rfl ?_
                      refine e_goto (dat d_M_about 96 rfl) (tgt := 188) (by decide) ?_
                      exact q_iret (dat d_M_about 105 rfl) rfl (show 0 ≤ 0 by decide) (show 0 ≤ 0 by decide) (mo_r hm.1 hm.2 up2_eq fr8.rf.p0 hk0 (by rw [hx, hy]; exact ab_end (k := k) (by omega) (by first | exact Or.inl ⟨by omega, rfl⟩ | exact Or.inr (Or.inl ⟨by omega, rfl⟩) | exact Or.inr (Or.inr (Or.inl ⟨by omega, by first | rw [show m 50 r = 0 by omega] | rw [show m 50 r = 1 by have := (hW.o r).2.2.2.1; omega]⟩)) | exact Or.inr (Or.inr (Or.inr (Or.inl ⟨by omega, rfl⟩))) | exact Or.inr (Or.inr (Or.inr (Or.inr ⟨by omega, rfl⟩))))))
                · refine e_aload_n (dat d_M_about 82 rfl) 3 rfl rfl ?_
                  refine s_qM (t := 49) (dat d_M_about 83 rfl) 12 k_511 (by decide) rfl rfl rfl ?_
                  refine e_iload_n (dat d_M_about 84 rfl) 4 rfl rfl ?_
                  refine s_ild (N := 8) (dat d_M_about 85 rfl) rfl (by decide) rfl rfl (by omega) (rmf hm (by decide)) ?_
                  refine e_goto (dat d_M_about 86 rfl) (tgt := 188) (by decide) ?_
                  exact q_iret (dat d_M_about 105 rfl) rfl (show 0 ≤ 0 by decide) (show 0 ≤ 0 by decide) (mo_r hm.1 hm.2 up2_eq fr8.rf.p0 hk0 (by rw [hx, hy]; exact ab_end (k := k) (by omega) (by first | exact Or.inl ⟨by omega, rfl⟩ | exact Or.inr (Or.inl ⟨by omega, rfl⟩) | exact Or.inr (Or.inr (Or.inl ⟨by omega, by first | rw [show m 50 r = 0 by omega] | rw [show m 50 r = 1 by have := (hW.o r).2.2.2.1; omega]⟩)) | exact Or.inr (Or.inr (Or.inr (Or.inl ⟨by omega, rfl⟩))) | exact Or.inr (Or.inr (Or.inr (Or.inr ⟨by omega, rfl⟩))))))
              · refine e_aload_n (dat d_M_about 74 rfl) 3 rfl rfl ?_
                refine s_qM (t := 48) (dat d_M_about 75 rfl) 11 k_510 (by decide) rfl rfl rfl ?_
                refine e_iload_n (dat d_M_about 76 rfl) 4 rfl rfl ?_
                refine s_ild (N := 8) (dat d_M_about 77 rfl) rfl (by decide) rfl rfl (by omega) (rmf hm (by decide)) ?_
                refine e_goto (dat d_M_about 78 rfl) (tgt := 188) (by decide) ?_
                exact q_iret (dat d_M_about 105 rfl) rfl (show 0 ≤ 0 by decide) (show 0 ≤ 0 by decide) (mo_r hm.1 hm.2 up2_eq fr8.rf.p0 hk0 (by rw [hx, hy]; exact ab_end (k := k) (by omega) (by first | exact Or.inl ⟨by omega, rfl⟩ | exact Or.inr (Or.inl ⟨by omega, rfl⟩) | exact Or.inr (Or.inr (Or.inl ⟨by omega, by first | rw [show m 50 r = 0 by omega] | rw [show m 50 r = 1 by have := (hW.o r).2.2.2.1; omega]⟩)) | exact Or.inr (Or.inr (Or.inr (Or.inl ⟨by omega, rfl⟩))) | exact Or.inr (Or.inr (Or.inr (Or.inr ⟨by omega, rfl⟩))))))
            · have hk1 : k < m 51 r := by omega
              have o54 := (hW.o (6 * r + k)).2.2.2.2.1
              have o55 := (hW.o (6 * r + k)).2.2.2.2.2
              have b1 := bts_lt (h := fun z => m 54 (6 * r + z)) (fun z => (hW.o _).2.2.2.2.1) k
              have b2 := bts_lt (h := fun z => m 54 (6 * r + z) * m 55 (6 * r + z)) (fun z => m01 (hW.o _).2.2.2.2.1 (hW.o _).2.2.2.2.2) k
              refine n_bipush (dat d_M_about 33 rfl) 6 rfl ?_
              refine e_iload_n (dat d_M_about 34 rfl) 4 rfl rfl ?_
              refine n_imul (dat d_M_about 35 rfl) ?_
              refine e_iload (dat d_M_about 36 rfl) 0 rfl ?_
              refine n_iadd (dat d_M_about 37 rfl) ?_
              refine e_istore (dat d_M_about 38 rfl) (show 6 < 7 by decide) (lv2 := [(6, _), (5, _), (4, _), (3, _), (0, _), (1, _), (2, _)]) rfl ?_
              refine e_aload_n (dat d_M_about 39 rfl) 4 rfl rfl ?_
              refine s_qM (t := 54) (dat d_M_about 40 rfl) 17 k_516 (by decide) rfl rfl rfl ?_
              refine e_iload (dat d_M_about 41 rfl) 0 rfl ?_
              refine s_bld (N := 48) (dat d_M_about 42 rfl) rfl (by decide) rfl rfl (by omega) (rmf hm (by decide)) ?_
              refine n_if_eq (dat d_M_about 43 rfl) (tgt := 86) (by decide) (lt64 (hW.b _ _)) (fun h74 => ?_) (fun h74 => ?_)
              · refine e_iload_n (dat d_M_about 50 rfl) 3 rfl rfl ?_
                refine e_istore_n (dat d_M_about 51 rfl) rfl (show 3 < 7 by decide) (lv2 := [(3, _), (6, _), (5, _), (4, _), (0, _), (1, _), (2, _)]) rfl ?_
                refine e_aload_n (dat d_M_about 52 rfl) 4 rfl rfl ?_
                refine s_qM (t := 54) (dat d_M_about 53 rfl) 17 k_516 (by decide) rfl rfl rfl ?_
                refine e_iload (dat d_M_about 54 rfl) 1 rfl ?_
                refine s_bld (N := 48) (dat d_M_about 55 rfl) rfl (by decide) rfl rfl (by omega) (rmf hm (by decide)) ?_
                refine n_if_eq (dat d_M_about 56 rfl) (tgt := 118) (by decide) (lt64 (hW.b _ _)) (fun h95 => ?_) (fun h95 => ?_)
                · refine e_iload (dat d_M_about 68 rfl) 3 rfl ?_
                  refine e_istore (dat d_M_about 69 rfl) (show 4 < 7 by decide) (lv2 := [(4, _), (3, _), (6, _), (5, _), (0, _), (1, _), (2, _)]) rfl ?_
                  refine n_iinc (q := 3) (dat d_M_about 70 rfl) rfl (show 5 < 7 by decide) (lv2 := [(5, _), (4, _), (3, _), (6, _), (0, _), (1, _), (2, _)]) rfl ?_
                  refine e_goto (dat d_M_about 71 rfl) (tgt := 47) (by decide) ?_
                  refine e_lv [0, 1, 2, 4, 5, 6] rfl ?_
                  have hx1 : (bts (fun z => m 54 (6 * r + z)) (k + 1)) = (bts (fun z => m 54 (6 * r + z)) k) := by
                    rw [bts_s]
                    rw [show m 54 (6 * r + k) = 0 by omega, Nat.zero_mul, Nat.add_zero]
                  have hx2 : (bts (fun z => m 54 (6 * r + z) * m 55 (6 * r + z)) (k + 1)) = (bts (fun z => m 54 (6 * r + z) * m 55 (6 * r + z)) k) := by
                    rw [bts_s]
                    first
                      | rw [show m 54 (6 * r + k) = 0 by omega, Nat.zero_mul, Nat.zero_mul, Nat.add_zero]
                      | rw [show m 55 (6 * r + k) = 0 by omega, Nat.mul_zero, Nat.zero_mul, Nat.add_zero]
                  have ih9 := ih (by omega)
                  rw [hx1, hx2] at ih9
                  exact ih9
                · omega
              · refine e_iload_n (dat d_M_about 44 rfl) 3 rfl rfl ?_
                refine n_iconst (dat d_M_about 45 rfl) 1 rfl ?_
                refine e_iload (dat d_M_about 46 rfl) 1 rfl ?_
                refine e_ishl (dat d_M_about 47 rfl) ?_
                refine n_ior8 (dat d_M_about 48 rfl) b1 (by omega) ?_
                refine e_goto (dat d_M_about 49 rfl) (tgt := 87) (by decide) ?_
                refine e_istore_n (dat d_M_about 51 rfl) rfl (show 3 < 7 by decide) (lv2 := [(3, _), (6, _), (5, _), (4, _), (0, _), (1, _), (2, _)]) rfl ?_
                refine e_aload_n (dat d_M_about 52 rfl) 4 rfl rfl ?_
                refine s_qM (t := 54) (dat d_M_about 53 rfl) 17 k_516 (by decide) rfl rfl rfl ?_
                refine e_iload (dat d_M_about 54 rfl) 1 rfl ?_
                refine s_bld (N := 48) (dat d_M_about 55 rfl) rfl (by decide) rfl rfl (by omega) (rmf hm (by decide)) ?_
                refine n_if_eq (dat d_M_about 56 rfl) (tgt := 118) (by decide) (lt64 (hW.b _ _)) (fun h95 => ?_) (fun h95 => ?_)
                · omega
                · refine e_aload_n (dat d_M_about 57 rfl) 4 rfl rfl ?_
                  refine s_qM (t := 55) (dat d_M_about 58 rfl) 18 k_517 (by decide) rfl rfl rfl ?_
                  refine e_iload (dat d_M_about 59 rfl) 1 rfl ?_
                  refine s_bld (N := 48) (dat d_M_about 60 rfl) rfl (by decide) rfl rfl (by omega) (rmf hm (by decide)) ?_
                  refine n_if_eq (dat d_M_about 61 rfl) (tgt := 118) (by decide) (lt64 (hW.b _ _)) (fun h105 => ?_) (fun h105 => ?_)
                  · refine e_iload (dat d_M_about 68 rfl) 3 rfl ?_
                    refine e_istore (dat d_M_about 69 rfl) (show 4 < 7 by decide) (lv2 := [(4, _), (3, _), (6, _), (5, _), (0, _), (1, _), (2, _)]) rfl ?_
                    refine n_iinc (q := 3) (dat d_M_about 70 rfl) rfl (show 5 < 7 by decide) (lv2 := [(5, _), (4, _), (3, _), (6, _), (0, _), (1, _), (2, _)]) rfl ?_
                    refine e_goto (dat d_M_about 71 rfl) (tgt := 47) (by decide) ?_
                    refine e_lv [0, 1, 2, 4, 5, 6] rfl ?_
                    have hx1 : (bts (fun z => m 54 (6 * r + z)) (k + 1)) = (bts (fun z => m 54 (6 * r + z)) k) + 2 ^ k := by
                      rw [bts_s]
                      rw [show m 54 (6 * r + k) = 1 by omega, Nat.one_mul]
                    have hx2 : (bts (fun z => m 54 (6 * r + z) * m 55 (6 * r + z)) (k + 1)) = (bts (fun z => m 54 (6 * r + z) * m 55 (6 * r + z)) k) := by
                      rw [bts_s]
                      first
                        | rw [show m 54 (6 * r + k) = 0 by omega, Nat.zero_mul, Nat.zero_mul, Nat.add_zero]
                        | rw [show m 55 (6 * r + k) = 0 by omega, Nat.mul_zero, Nat.zero_mul, Nat.add_zero]
                    have ih9 := ih (by omega)
                    rw [hx1, hx2] at ih9
                    exact ih9
                  · refine e_iload (dat d_M_about 62 rfl) 3 rfl ?_
                    refine n_iconst (dat d_M_about 63 rfl) 1 rfl ?_
                    refine e_iload (dat d_M_about 64 rfl) 2 rfl ?_
                    refine e_ishl (dat d_M_about 65 rfl) ?_
                    refine n_ior8 (dat d_M_about 66 rfl) b2 (by omega) ?_
                    refine e_goto (dat d_M_about 67 rfl) (tgt := 120) (by decide) ?_
                    refine e_istore (dat d_M_about 69 rfl) (show 4 < 7 by decide) (lv2 := [(4, _), (3, _), (6, _), (5, _), (0, _), (1, _), (2, _)]) rfl ?_
                    refine n_iinc (q := 3) (dat d_M_about 70 rfl) rfl (show 5 < 7 by decide) (lv2 := [(5, _), (4, _), (3, _), (6, _), (0, _), (1, _), (2, _)]) rfl ?_
                    refine e_goto (dat d_M_about 71 rfl) (tgt := 47) (by decide) ?_
                    refine e_lv [0, 1, 2, 4, 5, 6] rfl ?_
                    have hx1 : (bts (fun z => m 54 (6 * r + z)) (k + 1)) = (bts (fun z => m 54 (6 * r + z)) k) + 2 ^ k := by
                      rw [bts_s]
                      rw [show m 54 (6 * r + k) = 1 by omega, Nat.one_mul]
                    have hx2 : (bts (fun z => m 54 (6 * r + z) * m 55 (6 * r + z)) (k + 1)) = (bts (fun z => m 54 (6 * r + z) * m 55 (6 * r + z)) k) + 2 ^ k := by
                      rw [bts_s]
                      rw [show m 54 (6 * r + k) = 1 by omega, show m 55 (6 * r + k) = 1 by omega, Nat.one_mul]
                    have ih9 := ih (by omega)
                    rw [hx1, hx2] at ih9
                    exact ih9
          exact L 0 (Nat.zero_le _)
        · first | exact absurd rfl h34 | exact absurd h34 (by decide)
      · refine n_iconst (dat d_M_about 12 rfl) 2 rfl ?_
        refine e_goto (dat d_M_about 13 rfl) (tgt := 27) (by decide) ?_
        refine m_p0 (dat d_M_about 15 rfl) k_499 hm (fun hm => ?_)
        refine e_aload_n (dat d_M_about 16 rfl) 0 rfl rfl ?_
        refine s_gM (dat d_M_about 17 rfl) 0 k_499 (by decide) rfl rfl up2_eq ?_
        refine n_if_le (dat d_M_about 18 rfl) (tgt := 39) (by decide) (by omega) (fun h34 => ?_) (fun h34 => ?_)
        · first | exact absurd rfl h34 | exact absurd h34 (by decide)
        · refine n_iconst (dat d_M_about 19 rfl) 0 rfl ?_
          exact q_iret (dat d_M_about 20 rfl) rfl (show 0 ≤ 0 by decide) (show 0 ≤ 0 by decide) (mo_x hm up2_eq fr8.rf.p0 (by rw [kAbt, if_neg h6, if_pos (by first | exact Or.inl (Int32.lt_iff_toInt_lt.mp h14) | (refine Or.inr ?_; have h9 := Int32.lt_iff_toInt_lt.mp (Int32.not_le.mp h19); rw [nI_toInt (by decide)] at h9; exact h9))]) (by decide))
  · replace h6 := if_p h6
    refine n_iconst (dat d_M_about 5 rfl) 1 rfl ?_
    refine e_goto (dat d_M_about 6 rfl) (tgt := 27) (by decide) ?_
    refine m_p0 (dat d_M_about 15 rfl) k_499 hm (fun hm => ?_)
    refine e_aload_n (dat d_M_about 16 rfl) 0 rfl rfl ?_
    refine s_gM (dat d_M_about 17 rfl) 0 k_499 (by decide) rfl rfl up2_eq ?_
    refine n_if_le (dat d_M_about 18 rfl) (tgt := 39) (by decide) (by omega) (fun h34 => ?_) (fun h34 => ?_)
    · first | exact absurd rfl h34 | exact absurd h34 (by decide)
    · refine n_iconst (dat d_M_about 19 rfl) 0 rfl ?_
      exact q_iret (dat d_M_about 20 rfl) rfl (show 0 ≤ 0 by decide) (show 0 ≤ 0 by decide) (mo_x hm up2_eq fr8.rf.p0 (if_pos h6) (by decide))
