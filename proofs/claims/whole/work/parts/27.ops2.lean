theorem jdg_48 {m : wM} {r : Nat} (h : jdg m r = 0) : m 48 r = 0 := by
  refine Classical.byContradiction (fun h2 => ?_)
  rw [jdg, if_pos (Or.inl h2)] at h
  exact absurd h (by decide)
theorem jdg_4 (m : wM) (r : Nat) : jdg m r ≤ 4 := by
  unfold jdg
  repeat' split
  all_goals decide
theorem occ_z {m : wM} {s : Nat} : occU m s 0 = um m 41 s 1 := by
  funext a b
  unfold occU um
  by_cases h : a = 41 ∧ b = s
  · rw [if_pos h, if_pos h]
  · have h2 : ¬ hitR m s 0 b := fun h3 => h3 (fun v hv => absurd hv (Nat.not_lt_zero _))
    rw [if_neg h, if_neg h, if_neg (fun h3 => h2 h3.2), if_neg (fun h3 => h2 h3.2), if_neg (fun h3 => absurd h3.2.1 (Nat.not_lt_zero _))]
theorem lvo {m : wM} {a b : Nat} (h : a ≤ 47 ∨ a = 51 ∨ a = 52 ∨ a = 53) : ∀ R, lvA m R a b = m a b := by
  intro R
  induction R with
  | zero => rfl
  | succ R ih =>
    show (if lvA m R 48 R = 2 then lvR (lvA m R) R else lvA m R) a b = m a b
    split
    · unfold lvR
      split
      · unfold rel
        rw [if_neg (by omega), ih]
      · unfold lvN
        rw [if_neg (by omega), ih]
    · exact ih
theorem t_F_request {E : wE} {m : wM} {f : wF} {w : Int64} {x : Int32} (hJ : Jv m) (hW : Wv m) (hC : Rc m f) (hE : (wl E).stackTraces = false) : Cq E i_F_request 7 1 6 [.ref (wB E + 0), .int x] f w (fun v9 f9 => (kR1 m x) = 0 ∧ v9 = (some (.int (nI (jdg m (ix x))))) ∧ Rc (reqM m (ix x)) f9 ∧ kp f f9) (fun X9 => ex3 (kR1 m x) X9) := by
  have h12 := hW.S
  have h8 := hW.R
  refine cq_of rfl rfl rfl (show 2 ≤ 4 by decide) ?_
  refine e_aload_n (dat d_F_request 0 rfl) 0 rfl rfl ?_
  refine e_iload_n (dat d_F_request 1 rfl) 1 rfl rfl ?_
  refine q_call (t_F_existingRoute hW hC hE) c_F_existingRoute (dat d_F_request 2 rfl) rfl k_263 rfl rfl (by decide) (by omega) rfl (show 0 ≤ 8 by decide) ⟨show 7 ≤ 7 by decide, show 201 ≤ 210 by decide⟩ ⟨show 1 ≤ 1 by decide, show 6 ≤ 6 by decide⟩ (fun v9 f9 h9 => ?_) (fun X9 h9 => ?_)
  · obtain ⟨e8, r, hr, rfl, rfl⟩ := h9
    subst f9
    refine e_astore_n (dat d_F_request 3 rfl) rfl (show 2 < 4 by decide) (lv2 := [(2, _), (0, _), (1, _)]) rfl ?_
    refine e_aload_n (dat d_F_request 4 rfl) 1 rfl rfl ?_
    refine e_aload_n (dat d_F_request 5 rfl) 0 rfl rfl ?_
    refine r_call (t_F_judge hW hC hr) c_F_judge (dat d_F_request 6 rfl) rfl k_296 rfl rfl (by decide) (by omega) rfl (show 0 ≤ 8 by decide) ⟨show 4 ≤ 7 by decide, show 111 ≤ 210 by decide⟩ ⟨show 1 ≤ 1 by decide, show 6 ≤ 6 by decide⟩ ?_
    refine e_istore_n (dat d_F_request 7 rfl) rfl (show 3 < 4 by decide) (lv2 := [(3, _), (2, _), (0, _), (1, _)]) rfl ?_
    refine e_iload_n (dat d_F_request 8 rfl) 0 rfl rfl ?_
    refine n_if_ne (dat d_F_request 9 rfl) (tgt := 29) (by decide) (Nat.lt_of_le_of_lt (jdg_4 m r) (by decide)) (fun h13 => ?_) (fun h13 => ?_)
    · refine e_iload_n (dat d_F_request 17 rfl) 0 rfl rfl ?_
      exact q_iret (dat d_F_request 18 rfl) rfl (show 1 ≤ 1 by decide) (show 6 ≤ 6 by decide) ⟨if_neg (no_ix hr (by omega)), by rw [ix_nI (by omega)], by rw [ix_nI (by omega), reqM, if_neg h13]; exact hC, kp.rf⟩
    · refine e_aload_n (dat d_F_request 10 rfl) 1 rfl rfl ?_
      have h6 := hW.N hr
      have hU := fun k hk => (hJ.U r k hr hk)
      have h48 : m 48 r = 0 := jdg_48 h13
      have hC1 := rc_set hW hC hr (fun k hk => (hU k hk).2.2.2.1 h48)
      have hW1 : Wv (set0 m r) := wv_set0 hW
      have e7 : set0 m r 39 7 = m 39 7 := by simp [set0]
      have e51 : set0 m r 51 r = m 51 r := by simp [set0]
      have hU1 : ∀ k, k < set0 m r 51 r → (set0 m r 53 (6 * r + k) = 0 ↔ set0 m r 40 (set0 m r 52 (6 * r + k)) = 0) := by
        intro k hk
        rw [e51] at hk
        simpa [set0] using (hU k hk).2.2.1
      refine r_call (t_R_becomeSet (by omega) (cR2 hC hr) (by omega)) c_R_becomeSet (dat d_F_request 11 rfl) rfl k_331 rfl (kd_R _ (by omega)) (by decide) (by omega) rfl (show 0 ≤ 8 by decide) ⟨show 2 ≤ 7 by decide, show 50 ≤ 210 by decide⟩ ⟨show 1 ≤ 1 by decide, show 6 ≤ 6 by decide⟩ ?_
      refine e_aload_n (dat d_F_request 12 rfl) 2 rfl rfl ?_
      refine e_aload_n (dat d_F_request 13 rfl) 1 rfl rfl ?_
      refine q_call (t_F_wantPointsOf hW1 hC1 (by rw [e7]; exact hr) hU1) c_F_wantPointsOf (dat d_F_request 14 rfl) rfl k_339 rfl rfl (by decide) (by omega) rfl (show 0 ≤ 8 by decide) ⟨show 2 ≤ 7 by decide, show 53 ≤ 210 by decide⟩ ⟨show 1 ≤ 1 by decide, show 6 ≤ 6 by decide⟩ (fun v9 f9 h9 => ?_) (fun X9 h9 => h9.elim)
      obtain ⟨rfl, hC2, hk2⟩ := h9
      rw [set_st] at hC2
      have hW2 : Wv (stN m r (m 51 r)) := by
        rw [← set_st]
        exact wv_wnN hW1 _
      have e7s : stN m r (m 51 r) 39 7 = m 39 7 := by
        unfold stN
        rw [if_neg (by omega), if_neg (by omega), if_neg (by omega), wnN_o (by decide) (by decide)]
      refine e_aload_n (dat d_F_request 15 rfl) 2 rfl rfl ?_
      refine q_call (t_F_noteApproached hW2 hC2) c_F_noteApproached (dat d_F_request 16 rfl) rfl k_347 rfl rfl (by decide) (by omega) rfl (show 0 ≤ 8 by decide) ⟨show 4 ≤ 7 by decide, show 113 ≤ 210 by decide⟩ ⟨show 1 ≤ 1 by decide, show 6 ≤ 6 by decide⟩ (fun v9 f9 h9 => ?_) (fun X9 h9 => h9.elim)
      obtain ⟨rfl, hC3, hk3⟩ := h9
      rw [e7s] at hC3
      refine e_iload_n (dat d_F_request 17 rfl) 0 rfl rfl ?_
      exact q_iret (dat d_F_request 18 rfl) rfl (show 1 ≤ 1 by decide) (show 6 ≤ 6 by decide) ⟨if_neg (no_ix hr (by omega)), by rw [ix_nI (by omega)], by rw [ix_nI (by omega), reqM, if_pos h13]; exact hC3, (((kp.rf.up (by omega)).up (by omega)).tr hk2).tr hk3⟩
  · exact q_out rfl (show 1 ≤ 1 by decide) (show 6 ≤ 6 by decide) (Or.inl ⟨if_pos h9.2, h9.1⟩)
theorem t_F_cancel {E : wE} {m : wM} {f : wF} {w : Int64} {x : Int32} (hW : Wv m) (hC : Rc m f) (hE : (wl E).stackTraces = false) : Cq E i_F_cancel 7 1 6 [.ref (wB E + 0), .int x] f w (fun v9 f9 => (kR1 m x) = 0 ∧ v9 = (some (.int (nI (canA m (ix x))))) ∧ Rc (canM m (ix x)) f9 ∧ kp f f9) (fun X9 => ex3 (kR1 m x) X9) := by
  have h12 := hW.S
  have h8 := hW.R
  refine cq_of rfl rfl rfl (show 2 ≤ 3 by decide) ?_
  refine e_aload_n (dat d_F_cancel 0 rfl) 0 rfl rfl ?_
  refine e_iload_n (dat d_F_cancel 1 rfl) 1 rfl rfl ?_
  refine q_call (t_F_existingRoute hW hC hE) c_F_existingRoute (dat d_F_cancel 2 rfl) rfl k_263 rfl rfl (by decide) (by omega) rfl (show 0 ≤ 8 by decide) ⟨show 7 ≤ 7 by decide, show 201 ≤ 210 by decide⟩ ⟨show 1 ≤ 1 by decide, show 6 ≤ 6 by decide⟩ (fun v9 f9 h9 => ?_) (fun X9 h9 => ?_)
  · obtain ⟨e8, r, hr, rfl, rfl⟩ := h9
    subst f9
    refine e_astore_n (dat d_F_cancel 3 rfl) rfl (show 2 < 3 by decide) (lv2 := [(2, _), (0, _), (1, _)]) rfl ?_
    refine e_aload_n (dat d_F_cancel 4 rfl) 0 rfl rfl ?_
    refine s_gR (dat d_F_cancel 5 rfl) 6 k_68 (by decide) rfl rfl (by omega) (cR6 hC (by omega)) ?_
    refine n_iconst (dat d_F_cancel 6 rfl) 1 rfl ?_
    refine n_icmp_eq (dat d_F_cancel 7 rfl) (tgt := 16) (by decide) (lt64 (hW.b _ _)) (by decide) (fun h11 => ?_) (fun h11 => ?_)
    · refine e_aload_n (dat d_F_cancel 10 rfl) 0 rfl rfl ?_
      refine s_gR (dat d_F_cancel 11 rfl) 8 k_72 (by decide) rfl rfl (by omega) (cR8 hC (by omega)) ?_
      refine n_if_eq (dat d_F_cancel 12 rfl) (tgt := 29) (by decide) (lt64 (hW.b _ _)) (fun h20 => ?_) (fun h20 => ?_)
      · refine e_aload_n (dat d_F_cancel 17 rfl) 0 rfl rfl ?_
        refine r_call (t_R_becomeFree (by omega)) c_R_becomeFree (dat d_F_cancel 18 rfl) rfl k_374 rfl (kd_R _ (by omega)) (by decide) (by omega) rfl (show 0 ≤ 8 by decide) ⟨show 1 ≤ 7 by decide, show 20 ≤ 210 by decide⟩ ⟨show 1 ≤ 1 by decide, show 6 ≤ 6 by decide⟩ ?_
        refine n_iconst (dat d_F_cancel 19 rfl) 0 rfl ?_
        exact q_iret (dat d_F_cancel 20 rfl) rfl (show 1 ≤ 1 by decide) (show 6 ≤ 6 by decide) ⟨if_neg (no_ix hr (by omega)), by rw [ix_nI (by omega), canA, if_pos h11, if_pos h20], by rw [ix_nI (by omega), canM, if_pos h11, if_pos h20]; exact rc_free hW hC hr, (((((kp.rf.up (by omega)).up (by omega)).up (by omega)).up (by omega)).up (by omega))⟩
      · refine e_aload_n (dat d_F_cancel 13 rfl) 0 rfl rfl ?_
        refine r_call (t_R_becomeTimed (by omega)) c_R_becomeTimed (dat d_F_cancel 14 rfl) rfl k_370 rfl (kd_R _ (by omega)) (by decide) (by omega) rfl (show 0 ≤ 8 by decide) ⟨show 1 ≤ 7 by decide, show 20 ≤ 210 by decide⟩ ⟨show 1 ≤ 1 by decide, show 6 ≤ 6 by decide⟩ ?_
        refine n_iconst (dat d_F_cancel 15 rfl) 1 rfl ?_
        exact q_iret (dat d_F_cancel 16 rfl) rfl (show 1 ≤ 1 by decide) (show 6 ≤ 6 by decide) ⟨if_neg (no_ix hr (by omega)), by rw [ix_nI (by omega), canA, if_pos h11, if_neg h20], by rw [ix_nI (by omega), canM, if_pos h11, if_neg h20]; exact rc_tim hW hC hr, (kp.rf.up (by omega)).up (by omega)⟩
    · refine n_iconst (dat d_F_cancel 8 rfl) 2 rfl ?_
      exact q_iret (dat d_F_cancel 9 rfl) rfl (show 1 ≤ 1 by decide) (show 6 ≤ 6 by decide) ⟨if_neg (no_ix hr (by omega)), by rw [ix_nI (by omega), canA, if_neg h11], by rw [ix_nI (by omega), canM, if_neg h11]; exact hC, kp.rf⟩
  · exact q_out rfl (show 1 ≤ 1 by decide) (show 6 ≤ 6 by decide) (Or.inl ⟨if_pos h9.2, h9.1⟩)
theorem t_F_occupy {E : wE} {m : wM} {f : wF} {w : Int64} {x : Int32} (hW : Wv m) (hC : Rc m f) (hE : (wl E).stackTraces = false) : Cq E i_F_occupy 7 1 6 [.ref (wB E + 0), .int x] f w (fun v9 f9 => (kS1 m x) = 0 ∧ v9 = (some (.int (nI (if m 41 (ix x) = 0 then 1 else 0)))) ∧ Rc (occM m (ix x)) f9 ∧ kp f f9) (fun X9 => ex3 (kS1 m x) X9) := by
  have h12 := hW.S
  have h8 := hW.R
  refine cq_of rfl rfl rfl (show 2 ≤ 3 by decide) ?_
  refine e_aload_n (dat d_F_occupy 0 rfl) 0 rfl rfl ?_
  refine e_iload_n (dat d_F_occupy 1 rfl) 1 rfl rfl ?_
  refine q_call (t_F_existingSection hW hC hE) c_F_existingSection (dat d_F_occupy 2 rfl) rfl k_268 rfl rfl (by decide) (by omega) rfl (show 0 ≤ 8 by decide) ⟨show 7 ≤ 7 by decide, show 201 ≤ 210 by decide⟩ ⟨show 1 ≤ 1 by decide, show 6 ≤ 6 by decide⟩ (fun v9 f9 h9 => ?_) (fun X9 h9 => ?_)
  · obtain ⟨e8, i, hi, rfl, rfl⟩ := h9
    subst f9
    refine e_astore_n (dat d_F_occupy 3 rfl) rfl (show 2 < 3 by decide) (lv2 := [(2, _), (0, _), (1, _)]) rfl ?_
    refine e_aload_n (dat d_F_occupy 4 rfl) 0 rfl rfl ?_
    refine s_gS (dat d_F_occupy 5 rfl) 1 k_29 (by decide) rfl rfl (by omega) (cS1 hC (by omega)) ?_
    refine n_if_eq (dat d_F_occupy 6 rfl) (tgt := 15) (by decide) (lt64 (hW.b _ _)) (fun h10 => ?_) (fun h10 => ?_)
    · refine e_aload_n (dat d_F_occupy 9 rfl) 0 rfl rfl ?_
      refine n_iconst (dat d_F_occupy 10 rfl) 1 rfl ?_
      refine s_pSb (dat d_F_occupy 11 rfl) 1 k_29 (by decide) rfl rfl rfl rfl (by omega) (z01 (by omega)) ?_
      refine e_aload_n (dat d_F_occupy 12 rfl) 1 rfl rfl ?_
      refine e_iload_n (dat d_F_occupy 13 rfl) 2 rfl rfl ?_
      have hC1 : Rc (occU m i 0) (up2 f (2 + i) 1 (nI 1)) := by
        rw [occ_z]
        exact rc_occ hW hC hi
      refine q_call (t_F_runOver hW hC1 (by omega)) c_F_runOver (dat d_F_occupy 14 rfl) rfl k_382 rfl rfl (by decide) (by omega) rfl (show 0 ≤ 8 by decide) ⟨show 2 ≤ 7 by decide, show 54 ≤ 210 by decide⟩ ⟨show 1 ≤ 1 by decide, show 6 ≤ 6 by decide⟩ (fun v9 f9 h9 => ?_) (fun X9 h9 => h9.elim)
      obtain ⟨rfl, hC2, hk2⟩ := h9
      have hW2 := wv_occ (s := i) (U := 6 * m 39 7) hW
      have e7 : occU m i (6 * m 39 7) 39 7 = m 39 7 := by
        unfold occU
        rw [if_neg (by omega), if_neg (by omega), if_neg (by omega), if_neg (by omega)]
      refine e_aload_n (dat d_F_occupy 15 rfl) 1 rfl rfl ?_
      refine q_call (t_F_noteApproached hW2 hC2) c_F_noteApproached (dat d_F_occupy 16 rfl) rfl k_347 rfl rfl (by decide) (by omega) rfl (show 0 ≤ 8 by decide) ⟨show 4 ≤ 7 by decide, show 113 ≤ 210 by decide⟩ ⟨show 1 ≤ 1 by decide, show 6 ≤ 6 by decide⟩ (fun v9 f9 h9 => ?_) (fun X9 h9 => h9.elim)
      obtain ⟨rfl, hC3, hk3⟩ := h9
      rw [e7] at hC3
      refine n_iconst (dat d_F_occupy 17 rfl) 1 rfl ?_
      exact q_zret (dat d_F_occupy 18 rfl) rfl (z01 (by decide)) (show 1 ≤ 1 by decide) (show 6 ≤ 6 by decide) ⟨if_neg (no_ix hi (by omega)), by rw [ix_nI (by omega), if_pos h10], by rw [ix_nI (by omega), occM, if_pos h10]; exact hC3, ((kp.rf.up (by omega)).tr hk2).tr hk3⟩
    · refine n_iconst (dat d_F_occupy 7 rfl) 0 rfl ?_
      exact q_zret (dat d_F_occupy 8 rfl) rfl (z01 (by decide)) (show 1 ≤ 1 by decide) (show 6 ≤ 6 by decide) ⟨if_neg (no_ix hi (by omega)), by rw [ix_nI (by omega), if_neg h10], by rw [ix_nI (by omega), occM, if_neg h10]; exact hC, kp.rf⟩
  · exact q_out rfl (show 1 ≤ 1 by decide) (show 6 ≤ 6 by decide) (Or.inl ⟨if_pos h9.2, h9.1⟩)
theorem t_F_vacate {E : wE} {m : wM} {f : wF} {w : Int64} {x : Int32} (hW : Wv m) (hC : Rc m f) (hE : (wl E).stackTraces = false) : Cq E i_F_vacate 7 1 6 [.ref (wB E + 0), .int x] f w (fun v9 f9 => (kS1 m x) = 0 ∧ v9 = (some (.int (nI (if m 41 (ix x) = 0 then 0 else 1)))) ∧ Rc (vacM m (ix x)) f9 ∧ kp f f9) (fun X9 => ex3 (kS1 m x) X9) := by
  have h12 := hW.S
  have h8 := hW.R
  refine cq_of rfl rfl rfl (show 2 ≤ 4 by decide) ?_
  refine e_aload_n (dat d_F_vacate 0 rfl) 0 rfl rfl ?_
  refine e_iload_n (dat d_F_vacate 1 rfl) 1 rfl rfl ?_
  refine q_call (t_F_existingSection hW hC hE) c_F_existingSection (dat d_F_vacate 2 rfl) rfl k_268 rfl rfl (by decide) (by omega) rfl (show 0 ≤ 8 by decide) ⟨show 7 ≤ 7 by decide, show 201 ≤ 210 by decide⟩ ⟨show 1 ≤ 1 by decide, show 6 ≤ 6 by decide⟩ (fun v9 f9 h9 => ?_) (fun X9 h9 => ?_)
  · obtain ⟨e8, i, hi, rfl, rfl⟩ := h9
    subst f9
    refine e_astore_n (dat d_F_vacate 3 rfl) rfl (show 2 < 4 by decide) (lv2 := [(2, _), (0, _), (1, _)]) rfl ?_
    refine e_aload_n (dat d_F_vacate 4 rfl) 0 rfl rfl ?_
    refine s_gS (dat d_F_vacate 5 rfl) 1 k_29 (by decide) rfl rfl (by omega) (cS1 hC (by omega)) ?_
    refine n_if_ne (dat d_F_vacate 6 rfl) (tgt := 15) (by decide) (lt64 (hW.b _ _)) (fun h10 => ?_) (fun h10 => ?_)
    · refine e_aload_n (dat d_F_vacate 9 rfl) 0 rfl rfl ?_
      refine n_iconst (dat d_F_vacate 10 rfl) 0 rfl ?_
      refine s_pSb (dat d_F_vacate 11 rfl) 1 k_29 (by decide) rfl rfl rfl rfl (by omega) (z01 (by omega)) ?_
      refine n_iconst (dat d_F_vacate 12 rfl) 0 rfl ?_
      refine e_istore_n (dat d_F_vacate 13 rfl) rfl (show 3 < 4 by decide) (lv2 := [(3, _), (2, _), (0, _), (1, _)]) rfl ?_
      have L : ∀ k, k ≤ m 39 7 → ∀ f1, Rc (lvA (um m 41 i 0) k) f1 → kp f f1 → Ev E (jq E i_F_vacate 7 1 6 f w (fun v9 f9 => (kS1 m (nI i)) = 0 ∧ v9 = (some (.int (nI (if m 41 (ix (nI i)) = 0 then 0 else 1)))) ∧ Rc (vacM m (ix (nI i))) f9 ∧ kp f f9) (fun X9 => ex3 (kS1 m (nI i)) X9)) 1 6 22 [(3, .int (nI k)), (0, .ref (wB E + 0))] [] f1 g0 w 57 := by
        apply lp_ind
        intro k hk ih f1 hC hkp
        generalize hM : lvA (um m 41 i 0) k = M at hC
        have hW1 : Wv M := by
          rw [← hM]
          exact wv_lvA (wv_um41 hW (by decide)) k
        have e39 : ∀ b, M 39 b = m 39 b := fun b => by
          rw [← hM]
          exact (lvo (by decide) k).trans (if_neg (fun h => absurd h.1 (by decide)))
        have h12 := hW1.S
        have h8 := hW1.R
        have g1 := e39 1
        have g7 := e39 7
        refine e_iload_n (dat d_F_vacate 14 rfl) 0 rfl rfl ?_
        refine e_aload_n (dat d_F_vacate 15 rfl) 1 rfl rfl ?_
        refine s_gF (dat d_F_vacate 16 rfl) 3 k_105 (by decide) rfl rfl (cF3 hC) ?_
        refine n_icmp_ge (dat d_F_vacate 17 rfl) (tgt := 59) (by decide) (by omega) (by omega) (fun h27 => ?_) (fun h27 => ?_)
        · refine n_iconst (dat d_F_vacate 33 rfl) 1 rfl ?_
          exact q_zret (dat d_F_vacate 34 rfl) rfl (z01 (by decide)) (show 1 ≤ 1 by decide) (show 6 ≤ 6 by decide) ⟨if_neg (no_ix hi (by omega)), by rw [ix_nI (by omega), if_neg h10], by rw [ix_nI (by omega), vacM, if_neg h10]; exact (by rw [show m 39 7 = k by omega, hM]; exact hC), hkp⟩
        · refine e_aload_n (dat d_F_vacate 18 rfl) 1 rfl rfl ?_
          refine s_qF (dat d_F_vacate 19 rfl) 1 k_103 (by decide) rfl rfl rfl ?_
          refine e_iload_n (dat d_F_vacate 20 rfl) 0 rfl rfl ?_
          refine s_aR (dat d_F_vacate 21 rfl) rfl (by omega) ?_
          refine s_gR (dat d_F_vacate 22 rfl) 6 k_68 (by decide) rfl rfl (by omega) (cR6 hC (by omega)) ?_
          refine n_iconst (dat d_F_vacate 23 rfl) 2 rfl ?_
          refine n_icmp_ne (dat d_F_vacate 24 rfl) (tgt := 53) (by decide) (lt64 (hW1.b _ _)) (by decide) (fun h40 => ?_) (fun h40 => ?_)
          · refine n_iinc (q := 0) (dat d_F_vacate 31 rfl) rfl (show 3 < 4 by decide) (lv2 := [(3, _), (0, _)]) rfl ?_
            refine e_goto (dat d_F_vacate 32 rfl) (tgt := 22) (by decide) ?_
            refine ih (by omega) f1 ?_ hkp
            show Rc (if lvA (um m 41 i 0) k 48 k = 2 then lvR (lvA (um m 41 i 0) k) k else lvA (um m 41 i 0) k) f1
            rw [hM, if_neg h40]
            exact hC
          · refine e_aload_n (dat d_F_vacate 25 rfl) 1 rfl rfl ?_
            refine e_aload_n (dat d_F_vacate 26 rfl) 1 rfl rfl ?_
            refine s_qF (dat d_F_vacate 27 rfl) 1 k_103 (by decide) rfl rfl rfl ?_
            refine e_iload_n (dat d_F_vacate 28 rfl) 0 rfl rfl ?_
            refine s_aR (dat d_F_vacate 29 rfl) rfl (by omega) ?_
            refine q_call (t_F_letGoBehindTrain hW1 hC (by omega)) c_F_letGoBehindTrain (dat d_F_vacate 30 rfl) rfl k_401 rfl rfl (by decide) (by omega) rfl (show 0 ≤ 8 by decide) ⟨show 2 ≤ 7 by decide, show 52 ≤ 210 by decide⟩ ⟨show 1 ≤ 1 by decide, show 6 ≤ 6 by decide⟩ (fun v9 f9 h9 => ?_) (fun X9 h9 => h9.elim)
            obtain ⟨rfl, hC9, hk9⟩ := h9
            refine n_iinc (q := 0) (dat d_F_vacate 31 rfl) rfl (show 3 < 4 by decide) (lv2 := [(3, _), (0, _)]) rfl ?_
            refine e_goto (dat d_F_vacate 32 rfl) (tgt := 22) (by decide) ?_
            refine ih (by omega) f9 ?_ (hkp.tr hk9)
            show Rc (if lvA (um m 41 i 0) k 48 k = 2 then lvR (lvA (um m 41 i 0) k) k else lvA (um m 41 i 0) k) f9
            rw [hM, if_pos h40]
            exact hC9
      refine e_lv [0, 2] rfl ?_
      exact L 0 (Nat.zero_le _) _ (rc_occ hW hC hi) (kp.rf.up (by omega))
    · refine n_iconst (dat d_F_vacate 7 rfl) 0 rfl ?_
      exact q_zret (dat d_F_vacate 8 rfl) rfl (z01 (by decide)) (show 1 ≤ 1 by decide) (show 6 ≤ 6 by decide) ⟨if_neg (no_ix hi (by omega)), by rw [ix_nI (by omega), if_pos h10], by rw [ix_nI (by omega), vacM, if_pos h10]; exact hC, kp.rf⟩
  · exact q_out rfl (show 1 ≤ 1 by decide) (show 6 ≤ 6 by decide) (Or.inl ⟨if_pos h9.2, h9.1⟩)
