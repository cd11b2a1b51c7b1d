theorem lv_z {m : wM} {r : Nat} : lvN m r 0 = m := by
  funext a b
  unfold lvN
  rw [if_neg (fun h => by omega)]
theorem cdo {m : wM} {a b : Nat} (h : a = 39 ∨ a = 46 ∨ a = 51 ∨ a = 52 ∨ a = 53 ∨ (40 ≤ a ∧ a ≤ 45) ∨ a = 47) : ∀ R, cdN m R a b = m a b := by
  intro R
  induction R with
  | zero => rfl
  | succ R ih =>
    show cdR (cdN m R) R a b = m a b
    unfold cdR
    split
    · split
      · unfold rel
        rw [if_neg (by omega), ih]
      · unfold um
        rw [if_neg (by omega), ih]
    · exact ih
theorem cdk {m : wM} {a R : Nat} : ∀ {k : Nat}, k ≤ R → a = 48 ∨ a = 49 → cdN m k a R = m a R := by
  intro k
  induction k with
  | zero => exact fun _ _ => rfl
  | succ k ih =>
    intro hk ha
    show cdR (cdN m k) k a R = m a R
    unfold cdR
    split
    · split
      · unfold rel
        rw [if_neg (by omega), ih (by omega) ha]
      · unfold um
        rw [if_neg (by omega), ih (by omega) ha]
    · exact ih (by omega) ha
theorem rc_cd {m : wM} {f : wF} {r : Nat} (hW : Wv m) (hC : Rc m f) (hr : r < m 39 7) (h0 : m 48 r = 3 → 1 ≤ m 49 r) : Rc (cdR m r) (if m 48 r = 3 then (if m 49 r = 1 then (up2 (up2 (up2 (up2 (up2 (up2 f (15 + 3 * r) 7 (nI 0)) (15 + 3 * r) 6 (nI 0)) (15 + 3 * r) 7 (nI 0)) (15 + 3 * r) 8 (nI 0)) (15 + 3 * r) 9 (nI 0)) (15 + 3 * r) 10 (nI 0)) else (up2 f (15 + 3 * r) 7 (nI (m 49 r - 1)))) else f) := by
  have hd : ∀ v, Rc (um m 49 r v) (up2 f (15 + 3 * r) 7 (nI v)) := by
    intro v
    refine rc_R (r := r) hC hW (fun a b h1 h2 h3 => by simp [up2_at, h1]) (fun a b h => by unfold um; rw [if_neg (by omega)]) (fun a q h h1 h2 => by unfold um; rw [if_neg (by omega)]) (fun a u h h1 h2 => by unfold um; rw [if_neg (by omega)]) (fun _ => ?_)
    obtain ⟨h1, h2, h3, h4, h5, h6, h7, h8, h9, h10⟩ := hC.2.2.2 r hr
    refine ⟨?_, ?_, ?_, ?_, ?_, ?_, ?_, ?_, ?_, fun k hk => ?_⟩
    · simp [up2_at, um, h1]
    · simp [up2_at, um, h2]
    · simp [up2_at, um, h3]
    · simp [up2_at, um, h4]
    · simp [up2_at, um, h5]
    · simp [up2_at, um]
    · simp [up2_at, um, h7]
    · rw [hld_c (m := m) (by simp [um]) (fun k _ => by simp [um])]
      simp [up2_at, h8]
    · rw [ovr_c (m := m) (by simp [um]) (fun k _ => by simp [um]) (fun k _ => by simp [um])]
      simp [up2_at, h9]
    · have h11 := h10 k (by simpa [um] using hk)
      simp [up2_at, um, h11]
  unfold cdR
  split
  · split
    · have h1 := hd 0
      have hW1 : Wv (um m 49 r 0) := by
        refine wv_k hW (fun a b h9 => ?_) (fun a b => ?_) (fun b => ?_)
        · unfold um
          rw [if_neg (by omega)]
        · unfold um
          split
          · decide
          · exact hW.b a b
        · have := hW.o b
          unfold um
          simp
          omega
      have h2 := rc_free (r := r) hW1 h1 (by unfold um; rw [if_neg (by omega)]; exact hr)
      have e : rel (um m 49 r 0) r = rel m r := by
        funext a b
        unfold rel um
        by_cases h9 : (48 ≤ a ∧ a ≤ 50 ∧ b = r) ∨ ((a = 54 ∨ a = 55) ∧ 6 * r ≤ b ∧ b < 6 * r + 6)
        · rw [if_pos h9, if_pos h9]
        · rw [if_neg h9, if_neg h9, if_neg (by omega)]
      rw [e] at h2
      exact h2
    · exact hd _
  · exact hC
theorem t_F_wantPointsOf {E : wE} {m : wM} {f : wF} {w : Int64} {r : Nat} (hW : Wv m) (hC : Rc m f) (hr : r < m 39 7) (hU : ∀ k, k < m 51 r → (m 53 (6 * r + k) = 0 ↔ m 40 (m 52 (6 * r + k)) = 0)) : Cq E i_F_wantPointsOf 1 0 0 [.ref (wB E + 0), .ref (wB E + (15 + 3 * r))] f w (fun v9 f9 => v9 = none ∧ Rc (wnN m r (m 51 r)) f9 ∧ kp f f9) (fun _ => False) := by
  refine cq_of rfl rfl rfl (show 2 ≤ 4 by decide) ?_
  have L : ∀ k, k ≤ m 51 r → ∀ f1, Rc (wnN m r k) f1 → kp f f1 → Ev E (jq E i_F_wantPointsOf 1 0 0 f w (fun v9 f9 => v9 = none ∧ Rc (wnN m r (m 51 r)) f9 ∧ kp f f9) (fun _ => False)) 0 0 2 [(2, .int (nI k)), (0, .ref (wB E + 0)), (1, .ref (wB E + (15 + 3 * r)))] [] f1 g0 w 57 := by
    apply lp_ind
    intro k hk ih f1 hC hkp
    generalize hM : wnN m r k = M at hC
    have hW1 : Wv M := by
      rw [← hM]
      exact wv_wnN hW k
    have e39 : ∀ b, M 39 b = m 39 b := fun b => by
      rw [← hM]
      exact wnN_o (by decide) (by decide) k
    have e40 : ∀ b, M 40 b = m 40 b := fun b => by
      rw [← hM]
      exact wnN_o (by decide) (by decide) k
    have e51 : ∀ b, M 51 b = m 51 b := fun b => by
      rw [← hM]
      exact wnN_o (by decide) (by decide) k
    have e52 : ∀ b, M 52 b = m 52 b := fun b => by
      rw [← hM]
      exact wnN_o (by decide) (by decide) k
    have e53 : ∀ b, M 53 b = m 53 b := fun b => by
      rw [← hM]
      exact wnN_o (by decide) (by decide) k
    have h12 := hW1.S
    have h8 := hW1.R
    have g1 := e39 1
    have g7 := e39 7
    have hr1 : r < M 39 7 := by omega
    have h6 := hW1.N hr1
    have g51 := e51 r
    refine e_iload_n (dat d_F_wantPointsOf 2 rfl) 0 rfl rfl ?_
    refine e_aload_n (dat d_F_wantPointsOf 3 rfl) 2 rfl rfl ?_
    refine s_gR (dat d_F_wantPointsOf 4 rfl) 2 k_62 (by decide) rfl rfl (by omega) (cR2 hC (by omega)) ?_
    refine n_icmp_ge (dat d_F_wantPointsOf 5 rfl) (tgt := 44) (by decide) (by omega) (by omega) (fun h7 => ?_) (fun h7 => ?_)
    · exact q_vret (dat d_F_wantPointsOf 24 rfl) rfl (show 0 ≤ 0 by decide) (show 0 ≤ 0 by decide) ⟨rfl, by rw [show m 51 r = k by omega, hM]; exact hC, hkp⟩
    · have hw := hW1.w hr1 h7
      have h64 := hW1.b 52 (6 * r + k)
      refine e_aload_n (dat d_F_wantPointsOf 6 rfl) 1 rfl rfl ?_
      refine s_qF (dat d_F_wantPointsOf 7 rfl) 0 k_102 (by decide) rfl rfl rfl ?_
      refine e_aload_n (dat d_F_wantPointsOf 8 rfl) 2 rfl rfl ?_
      refine s_qU (dat d_F_wantPointsOf 9 rfl) k_59 (by omega) ?_
      refine e_iload_n (dat d_F_wantPointsOf 10 rfl) 0 rfl rfl ?_
      refine s_iU (dat d_F_wantPointsOf 11 rfl) (by omega) rfl (by omega) (cU hC (by omega) (by omega)) ?_
      refine s_aS (dat d_F_wantPointsOf 12 rfl) rfl (by omega) ?_
      refine e_astore_n (dat d_F_wantPointsOf 13 rfl) rfl (show 3 < 4 by decide) (lv2 := [(3, _), (2, _), (0, _), (1, _)]) rfl ?_
      refine e_aload_n (dat d_F_wantPointsOf 14 rfl) 0 rfl rfl ?_
      refine s_gS (dat d_F_wantPointsOf 15 rfl) 0 k_27 (by decide) rfl rfl (by omega) (cS0 hC (by omega)) ?_
      refine n_if_eq (dat d_F_wantPointsOf 16 rfl) (tgt := 38) (by decide) (lt64 (hW1.b _ _)) (fun h26 => ?_) (fun h26 => ?_)
      · have hz : M 53 (6 * r + k) = 0 := by
          rw [e53]
          refine (hU k (by omega)).mpr ?_
          rw [← e40, ← e52]
          exact h26
        refine n_iinc (q := 1) (dat d_F_wantPointsOf 22 rfl) rfl (show 2 < 4 by decide) (lv2 := [(2, _), (3, _), (0, _), (1, _)]) rfl ?_
        refine e_goto (dat d_F_wantPointsOf 23 rfl) (tgt := 2) (by decide) ?_
        refine e_lv [0, 2, 3] rfl ?_
        refine ih (by omega) f1 ?_ hkp
        show Rc (wnU (wnN m r k) (6 * r + k)) f1
        rw [hM, wnU, if_pos hz]
        exact hC
      · have hz : ¬ M 53 (6 * r + k) = 0 := by
          rw [e53]
          intro h
          have h2 := (hU k (by omega)).mp h
          rw [← e40, ← e52] at h2
          exact h26 h2
        refine e_aload_n (dat d_F_wantPointsOf 17 rfl) 0 rfl rfl ?_
        refine e_aload_n (dat d_F_wantPointsOf 18 rfl) 3 rfl rfl ?_
        refine e_iload_n (dat d_F_wantPointsOf 19 rfl) 1 rfl rfl ?_
        refine r_call (t_R_positionOf hW1 hC hr1 h7) c_R_positionOf (dat d_F_wantPointsOf 20 rfl) rfl k_330 rfl (kd_R _ (by omega)) (by decide) (by omega) rfl (show 1 ≤ 8 by decide) ⟨show 1 ≤ 1 by decide, show 21 ≤ 30 by decide⟩ ⟨show 0 ≤ 0 by decide, show 0 ≤ 0 by decide⟩ ?_
        rw [show posI (M 53 (6 * r + k)) = nI (psn (M 53 (6 * r + k))) from if_neg hz]
        refine r_call (t_S_want (by omega)) c_S_want (dat d_F_wantPointsOf 21 rfl) rfl k_343 rfl (kd_S _ (by omega)) (by decide) (by omega) rfl (show 0 ≤ 8 by decide) ⟨show 1 ≤ 1 by decide, show 21 ≤ 30 by decide⟩ ⟨show 0 ≤ 0 by decide, show 0 ≤ 0 by decide⟩ ?_
        refine n_iinc (q := 1) (dat d_F_wantPointsOf 22 rfl) rfl (show 2 < 4 by decide) (lv2 := [(2, _), (3, _), (0, _), (1, _)]) rfl ?_
        refine e_goto (dat d_F_wantPointsOf 23 rfl) (tgt := 2) (by decide) ?_
        refine e_lv [0, 2, 3] rfl ?_
        refine ih (by omega) _ ?_ (hkp.it (((hkp.up (by omega)).up (by omega)).up (by omega)))
        show Rc (wnU (wnN m r k) (6 * r + k)) _
        rw [hM, wnU, if_neg hz]
        exact rc_want hW1 hC hw (psn_le _)
  refine n_iconst (dat d_F_wantPointsOf 0 rfl) 0 rfl ?_
  refine e_istore_n (dat d_F_wantPointsOf 1 rfl) rfl (show 2 < 4 by decide) (lv2 := [(2, _), (0, _), (1, _)]) rfl ?_
  exact L 0 (Nat.zero_le _) f hC kp.rf
theorem t_F_noteApproached {E : wE} {m : wM} {f : wF} {w : Int64} (hW : Wv m) (hC : Rc m f) : Cq E i_F_noteApproached 3 0 0 [.ref (wB E + 0)] f w (fun v9 f9 => v9 = none ∧ Rc (ntN m (m 39 7)) f9 ∧ kp f f9) (fun _ => False) := by
  refine cq_of rfl rfl rfl (show 1 ≤ 4 by decide) ?_
  have L : ∀ k, k ≤ m 39 7 → ∀ f1, Rc (ntN m k) f1 → kp f f1 → Ev E (jq E i_F_noteApproached 3 0 0 f w (fun v9 f9 => v9 = none ∧ Rc (ntN m (m 39 7)) f9 ∧ kp f f9) (fun _ => False)) 0 0 2 [(1, .int (nI k)), (0, .ref (wB E + 0))] [] f1 g0 w 57 := by
    apply lp_ind
    intro k hk ih f1 hC hkp
    generalize hM : ntN m k = M at hC
    have hW1 : Wv M := by
      rw [← hM]
      exact wv_nt hW
    have e39 : ∀ b, M 39 b = m 39 b := fun b => by
      rw [← hM]
      exact nt_o (by decide)
    have h12 := hW1.S
    have h8 := hW1.R
    have g1 := e39 1
    have g7 := e39 7
    refine e_iload_n (dat d_F_noteApproached 2 rfl) 0 rfl rfl ?_
    refine e_aload_n (dat d_F_noteApproached 3 rfl) 1 rfl rfl ?_
    refine s_gF (dat d_F_noteApproached 4 rfl) 3 k_105 (by decide) rfl rfl (cF3 hC) ?_
    refine n_icmp_ge (dat d_F_noteApproached 5 rfl) (tgt := 80) (by decide) (by omega) (by omega) (fun h7 => ?_) (fun h7 => ?_)
    · exact q_vret (dat d_F_noteApproached 42 rfl) rfl (show 0 ≤ 0 by decide) (show 0 ≤ 0 by decide) ⟨rfl, by rw [show m 39 7 = k by omega, hM]; exact hC, hkp⟩
    · have hcn := cn_nt (m := m) (K := k) (b := k)
      rw [hM] at hcn
      have hp := hW1.P (show k < M 39 7 by omega)
      have b46 := hW1.b 46 k
      have e4 := cR4 hC (show k < M 39 7 by omega)
      refine e_aload_n (dat d_F_noteApproached 6 rfl) 1 rfl rfl ?_
      refine s_qF (dat d_F_noteApproached 7 rfl) 1 k_103 (by decide) rfl rfl rfl ?_
      refine e_iload_n (dat d_F_noteApproached 8 rfl) 0 rfl rfl ?_
      refine s_aR (dat d_F_noteApproached 9 rfl) rfl (by omega) ?_
      refine e_astore_n (dat d_F_noteApproached 10 rfl) rfl (show 2 < 4 by decide) (lv2 := [(2, _), (1, _), (0, _)]) rfl ?_
      refine e_aload_n (dat d_F_noteApproached 11 rfl) 0 rfl rfl ?_
      refine s_gR (dat d_F_noteApproached 12 rfl) 4 k_66 (by decide) rfl rfl (by omega) (cR4 hC (by omega)) ?_
      refine e_iconst (v := -1) (dat d_F_noteApproached 13 rfl) rfl ?_
      refine e_icmp_eq (dat d_F_noteApproached 14 rfl) (tgt := 40) (by decide) (fun h22 => ?_) (fun h22 => ?_)
      · have hne : nrA M k := Or.inl (Classical.byContradiction (fun h => nI_m1 (a := M 46 k - 1) (by omega) (by rw [apI, if_neg h] at h22; exact h22)))
        refine n_iconst (dat d_F_noteApproached 22 rfl) 1 rfl ?_
        refine e_goto (dat d_F_noteApproached 23 rfl) (tgt := 45) (by decide) ?_
        refine e_istore_n (dat d_F_noteApproached 25 rfl) rfl (show 3 < 4 by decide) (lv2 := [(3, _), (2, _), (1, _), (0, _)]) rfl ?_
        refine e_aload_n (dat d_F_noteApproached 26 rfl) 1 rfl rfl ?_
        refine s_gR (dat d_F_noteApproached 27 rfl) 6 k_68 (by decide) rfl rfl (by omega) (cR6 hC (by omega)) ?_
        refine n_iconst (dat d_F_noteApproached 28 rfl) 1 rfl ?_
        refine n_icmp_ne (dat d_F_noteApproached 29 rfl) (tgt := 74) (by decide) (lt64 (hW1.b _ _)) (by decide) (fun h51 => ?_) (fun h51 => ?_)
        · refine n_iinc (q := 2) (dat d_F_noteApproached 40 rfl) rfl (show 1 < 4 by decide) (lv2 := [(1, _), (3, _), (2, _), (0, _)]) rfl ?_
          refine e_goto (dat d_F_noteApproached 41 rfl) (tgt := 2) (by decide) ?_
          refine e_lv [0, 3] rfl ?_
          refine ih (by omega) f1 ?_ hkp
          rw [nt_n (fun h => ?_), hM]
          · exact hC
          · have h2 := hcn.mpr h
            first
              | exact h51 h2.1
              | exact h2.2.2 h66
              | exact h2.2.1.elim h22 (fun h3 => absurd h37 (by omega))
        · refine e_iload_n (dat d_F_noteApproached 30 rfl) 0 rfl rfl ?_
          refine n_if_eq (dat d_F_noteApproached 31 rfl) (tgt := 74) (by decide) (by omega) (fun h55 => ?_) (fun h55 => ?_)
          · first | exact absurd rfl h55 | exact absurd h55 (by decide)
          · refine e_aload_n (dat d_F_noteApproached 32 rfl) 3 rfl rfl ?_
            refine e_aload_n (dat d_F_noteApproached 33 rfl) 1 rfl rfl ?_
            refine s_gR (dat d_F_noteApproached 34 rfl) 3 k_64 (by decide) rfl rfl (by omega) (cR3 hC (by omega)) ?_
            refine r_call (t_F_showsOff hW1 hC (hW1.b _ _)) c_F_showsOff (dat d_F_noteApproached 35 rfl) rfl k_351 rfl rfl (by decide) (by omega) rfl (show 0 ≤ 8 by decide) ⟨show 3 ≤ 3 by decide, show 83 ≤ 90 by decide⟩ ⟨show 0 ≤ 0 by decide, show 0 ≤ 0 by decide⟩ ?_
            refine n_if_eq (dat d_F_noteApproached 36 rfl) (tgt := 74) (by decide) if_lt0 (fun h66 => ?_) (fun h66 => ?_)
            · replace h66 := if_n0 h66
              refine n_iinc (q := 2) (dat d_F_noteApproached 40 rfl) rfl (show 1 < 4 by decide) (lv2 := [(1, _), (3, _), (2, _), (0, _)]) rfl ?_
              refine e_goto (dat d_F_noteApproached 41 rfl) (tgt := 2) (by decide) ?_
              refine e_lv [0, 3] rfl ?_
              refine ih (by omega) f1 ?_ hkp
              rw [nt_n (fun h => ?_), hM]
              · exact hC
              · have h2 := hcn.mpr h
                first
                  | exact h51 h2.1
                  | exact h2.2.2 h66
                  | exact h2.2.1.elim h22 (fun h3 => absurd h37 (by omega))
            · replace h66 := if_p0 h66
              refine e_aload_n (dat d_F_noteApproached 37 rfl) 1 rfl rfl ?_
              refine n_iconst (dat d_F_noteApproached 38 rfl) 1 rfl ?_
              refine s_pRb (dat d_F_noteApproached 39 rfl) 8 k_72 (by decide) rfl rfl rfl rfl (by omega) (z01 (by omega)) ?_
              refine n_iinc (q := 2) (dat d_F_noteApproached 40 rfl) rfl (show 1 < 4 by decide) (lv2 := [(1, _), (3, _), (2, _), (0, _)]) rfl ?_
              refine e_goto (dat d_F_noteApproached 41 rfl) (tgt := 2) (by decide) ?_
              refine e_lv [0, 3] rfl ?_
              refine ih (by omega) _ ?_ (hkp.up (by omega))
              rw [← nt_1 (hcn.mp ⟨h51, hne, h66⟩), hM]
              exact rc_near hW1 hC (by omega)
      · replace h22 : ¬ M 46 k = 0 := fun h => h22 (by rw [apI, if_pos h])
        refine e_aload_n (dat d_F_noteApproached 15 rfl) 2 rfl rfl ?_
        refine s_qF (dat d_F_noteApproached 16 rfl) 0 k_102 (by decide) rfl rfl rfl ?_
        refine e_aload_n (dat d_F_noteApproached 17 rfl) 0 rfl rfl ?_
        refine s_gR (dat d_F_noteApproached 18 rfl) 4 k_66 (by decide) rfl rfl (by omega) (e4.trans (if_neg h22)) ?_
        refine s_aS (dat d_F_noteApproached 19 rfl) rfl (by omega) ?_
        refine s_gS (dat d_F_noteApproached 20 rfl) 1 k_29 (by decide) rfl rfl (by omega) (cS1 hC (by omega)) ?_
        refine n_if_eq (dat d_F_noteApproached 21 rfl) (tgt := 44) (by decide) (lt64 (hW1.b _ _)) (fun h37 => ?_) (fun h37 => ?_)
        · refine n_iconst (dat d_F_noteApproached 24 rfl) 0 rfl ?_
          refine e_istore_n (dat d_F_noteApproached 25 rfl) rfl (show 3 < 4 by decide) (lv2 := [(3, _), (2, _), (1, _), (0, _)]) rfl ?_
          refine e_aload_n (dat d_F_noteApproached 26 rfl) 1 rfl rfl ?_
          refine s_gR (dat d_F_noteApproached 27 rfl) 6 k_68 (by decide) rfl rfl (by omega) (cR6 hC (by omega)) ?_
          refine n_iconst (dat d_F_noteApproached 28 rfl) 1 rfl ?_
          refine n_icmp_ne (dat d_F_noteApproached 29 rfl) (tgt := 74) (by decide) (lt64 (hW1.b _ _)) (by decide) (fun h51 => ?_) (fun h51 => ?_)
          · refine n_iinc (q := 2) (dat d_F_noteApproached 40 rfl) rfl (show 1 < 4 by decide) (lv2 := [(1, _), (3, _), (2, _), (0, _)]) rfl ?_
            refine e_goto (dat d_F_noteApproached 41 rfl) (tgt := 2) (by decide) ?_
            refine e_lv [0, 3] rfl ?_
            refine ih (by omega) f1 ?_ hkp
            rw [nt_n (fun h => ?_), hM]
            · exact hC
            · have h2 := hcn.mpr h
              first
                | exact h51 h2.1
                | exact h2.2.2 h66
                | exact h2.2.1.elim h22 (fun h3 => absurd h37 (by omega))
          · refine e_iload_n (dat d_F_noteApproached 30 rfl) 0 rfl rfl ?_
            refine n_if_eq (dat d_F_noteApproached 31 rfl) (tgt := 74) (by decide) (by omega) (fun h55 => ?_) (fun h55 => ?_)
            · refine n_iinc (q := 2) (dat d_F_noteApproached 40 rfl) rfl (show 1 < 4 by decide) (lv2 := [(1, _), (3, _), (2, _), (0, _)]) rfl ?_
              refine e_goto (dat d_F_noteApproached 41 rfl) (tgt := 2) (by decide) ?_
              refine e_lv [0, 3] rfl ?_
              refine ih (by omega) f1 ?_ hkp
              rw [nt_n (fun h => ?_), hM]
              · exact hC
              · have h2 := hcn.mpr h
                first
                  | exact h51 h2.1
                  | exact h2.2.2 h66
                  | exact h2.2.1.elim h22 (fun h3 => absurd h37 (by omega))
            · first | exact absurd rfl h55 | exact absurd h55 (by decide)
        · have hne : nrA M k := Or.inr (by have := (hW1.o (M 46 k - 1)).2.1; omega)
          refine n_iconst (dat d_F_noteApproached 22 rfl) 1 rfl ?_
          refine e_goto (dat d_F_noteApproached 23 rfl) (tgt := 45) (by decide) ?_
          refine e_istore_n (dat d_F_noteApproached 25 rfl) rfl (show 3 < 4 by decide) (lv2 := [(3, _), (2, _), (1, _), (0, _)]) rfl ?_
          refine e_aload_n (dat d_F_noteApproached 26 rfl) 1 rfl rfl ?_
          refine s_gR (dat d_F_noteApproached 27 rfl) 6 k_68 (by decide) rfl rfl (by omega) (cR6 hC (by omega)) ?_
          refine n_iconst (dat d_F_noteApproached 28 rfl) 1 rfl ?_
          refine n_icmp_ne (dat d_F_noteApproached 29 rfl) (tgt := 74) (by decide) (lt64 (hW1.b _ _)) (by decide) (fun h51 => ?_) (fun h51 => ?_)
          · refine n_iinc (q := 2) (dat d_F_noteApproached 40 rfl) rfl (show 1 < 4 by decide) (lv2 := [(1, _), (3, _), (2, _), (0, _)]) rfl ?_
            refine e_goto (dat d_F_noteApproached 41 rfl) (tgt := 2) (by decide) ?_
            refine e_lv [0, 3] rfl ?_
            refine ih (by omega) f1 ?_ hkp
            rw [nt_n (fun h => ?_), hM]
            · exact hC
            · have h2 := hcn.mpr h
              first
                | exact h51 h2.1
                | exact h2.2.2 h66
                | exact h2.2.1.elim h22 (fun h3 => absurd h37 (by omega))
          · refine e_iload_n (dat d_F_noteApproached 30 rfl) 0 rfl rfl ?_
            refine n_if_eq (dat d_F_noteApproached 31 rfl) (tgt := 74) (by decide) (by omega) (fun h55 => ?_) (fun h55 => ?_)
            · first | exact absurd rfl h55 | exact absurd h55 (by decide)
            · refine e_aload_n (dat d_F_noteApproached 32 rfl) 3 rfl rfl ?_
              refine e_aload_n (dat d_F_noteApproached 33 rfl) 1 rfl rfl ?_
              refine s_gR (dat d_F_noteApproached 34 rfl) 3 k_64 (by decide) rfl rfl (by omega) (cR3 hC (by omega)) ?_
              refine r_call (t_F_showsOff hW1 hC (hW1.b _ _)) c_F_showsOff (dat d_F_noteApproached 35 rfl) rfl k_351 rfl rfl (by decide) (by omega) rfl (show 0 ≤ 8 by decide) ⟨show 3 ≤ 3 by decide, show 83 ≤ 90 by decide⟩ ⟨show 0 ≤ 0 by decide, show 0 ≤ 0 by decide⟩ ?_
              refine n_if_eq (dat d_F_noteApproached 36 rfl) (tgt := 74) (by decide) if_lt0 (fun h66 => ?_) (fun h66 => ?_)
              · replace h66 := if_n0 h66
                refine n_iinc (q := 2) (dat d_F_noteApproached 40 rfl) rfl (show 1 < 4 by decide) (lv2 := [(1, _), (3, _), (2, _), (0, _)]) rfl ?_
                refine e_goto (dat d_F_noteApproached 41 rfl) (tgt := 2) (by decide) ?_
                refine e_lv [0, 3] rfl ?_
                refine ih (by omega) f1 ?_ hkp
                rw [nt_n (fun h => ?_), hM]
                · exact hC
                · have h2 := hcn.mpr h
                  first
                    | exact h51 h2.1
                    | exact h2.2.2 h66
                    | exact h2.2.1.elim h22 (fun h3 => absurd h37 (by omega))
              · replace h66 := if_p0 h66
                refine e_aload_n (dat d_F_noteApproached 37 rfl) 1 rfl rfl ?_
                refine n_iconst (dat d_F_noteApproached 38 rfl) 1 rfl ?_
                refine s_pRb (dat d_F_noteApproached 39 rfl) 8 k_72 (by decide) rfl rfl rfl rfl (by omega) (z01 (by omega)) ?_
                refine n_iinc (q := 2) (dat d_F_noteApproached 40 rfl) rfl (show 1 < 4 by decide) (lv2 := [(1, _), (3, _), (2, _), (0, _)]) rfl ?_
                refine e_goto (dat d_F_noteApproached 41 rfl) (tgt := 2) (by decide) ?_
                refine e_lv [0, 3] rfl ?_
                refine ih (by omega) _ ?_ (hkp.up (by omega))
                rw [← nt_1 (hcn.mp ⟨h51, hne, h66⟩), hM]
                exact rc_near hW1 hC (by omega)
  refine n_iconst (dat d_F_noteApproached 0 rfl) 0 rfl ?_
  refine e_istore_n (dat d_F_noteApproached 1 rfl) rfl (show 1 < 4 by decide) (lv2 := [(1, _), (0, _)]) rfl ?_
  exact L 0 (Nat.zero_le _) f (by rw [nt_0]; exact hC) kp.rf
theorem t_F_runOver {E : wE} {m : wM} {f : wF} {w : Int64} {s : Nat} (hW : Wv m) (hC : Rc (occU m s 0) f) (hs : s < 64) : Cq E i_F_runOver 1 0 0 [.ref (wB E + 0), .int (nI s)] f w (fun v9 f9 => v9 = none ∧ Rc (occU m s (6 * m 39 7)) f9 ∧ kp f f9) (fun _ => False) := by
  refine cq_of rfl rfl rfl (show 2 ≤ 5 by decide) ?_
  have h6m : ∀ k, k < m 39 7 → m 51 k ≤ 6 := fun k h => hW.N h
  have L : ∀ k, k ≤ m 39 7 → ∀ f1, Rc (occU m s (6 * k)) f1 → kp f f1 → Ev E (jq E i_F_runOver 1 0 0 f w (fun v9 f9 => v9 = none ∧ Rc (occU m s (6 * m 39 7)) f9 ∧ kp f f9) (fun _ => False)) 0 0 2 [(2, .int (nI k)), (0, .ref (wB E + 0)), (1, .int (nI s))] [] f1 g0 w 57 := by
    apply lp_ind
    intro k hk ih f1 hC hkp
    generalize hM : occU m s (6 * k) = M at hC
    have hW1 : Wv M := by
      rw [← hM]
      exact wv_occ hW
    have e39 : ∀ b, M 39 b = m 39 b := fun b => by
      rw [← hM]
      exact (by unfold occU; rw [if_neg (by omega), if_neg (by omega), if_neg (by omega), if_neg (by omega)])
    have e51 : ∀ b, M 51 b = m 51 b := fun b => by
      rw [← hM]
      exact (by unfold occU; rw [if_neg (by omega), if_neg (by omega), if_neg (by omega), if_neg (by omega)])
    have e52 : ∀ b, M 52 b = m 52 b := fun b => by
      rw [← hM]
      exact (by unfold occU; rw [if_neg (by omega), if_neg (by omega), if_neg (by omega), if_neg (by omega)])
    have e53 : ∀ b, M 53 b = m 53 b := fun b => by
      rw [← hM]
      exact (by unfold occU; rw [if_neg (by omega), if_neg (by omega), if_neg (by omega), if_neg (by omega)])
    have e54 : ∀ b, M 54 b = m 54 b := fun b => by
      rw [← hM]
      exact (by unfold occU; rw [if_neg (by omega), if_neg (by omega), if_neg (by omega), if_neg (by omega)])
    have h12 := hW1.S
    have h8 := hW1.R
    have g1 := e39 1
    have g7 := e39 7
    refine e_iload_n (dat d_F_runOver 2 rfl) 0 rfl rfl ?_
    refine e_aload_n (dat d_F_runOver 3 rfl) 1 rfl rfl ?_
    refine s_gF (dat d_F_runOver 4 rfl) 3 k_105 (by decide) rfl rfl (cF3 hC) ?_
    refine n_icmp_ge (dat d_F_runOver 5 rfl) (tgt := 60) (by decide) (by omega) (by omega) (fun h7 => ?_) (fun h7 => ?_)
    · exact q_vret (dat d_F_runOver 31 rfl) rfl (show 0 ≤ 0 by decide) (show 0 ≤ 0 by decide) ⟨rfl, by rw [show m 39 7 = k by omega, hM]; exact hC, hkp⟩
    · have hk7 : k < M 39 7 := by omega
      have h6 := hW1.N hk7
      refine e_aload_n (dat d_F_runOver 6 rfl) 1 rfl rfl ?_
      refine s_qF (dat d_F_runOver 7 rfl) 1 k_103 (by decide) rfl rfl rfl ?_
      refine e_iload_n (dat d_F_runOver 8 rfl) 0 rfl rfl ?_
      refine s_aR (dat d_F_runOver 9 rfl) rfl (by omega) ?_
      refine e_astore_n (dat d_F_runOver 10 rfl) rfl (show 3 < 5 by decide) (lv2 := [(3, _), (2, _), (0, _), (1, _)]) rfl ?_
      refine e_aload_n (dat d_F_runOver 11 rfl) 0 rfl rfl ?_
      refine e_iload_n (dat d_F_runOver 12 rfl) 3 rfl rfl ?_
      refine q_call (t_R_useOf hW1 hC hk7 (by omega)) c_R_useOf (dat d_F_runOver 13 rfl) rfl k_275 rfl (kd_R _ (by omega)) (by decide) (by omega) rfl (show 0 ≤ 8 by decide) ⟨show 1 ≤ 1 by decide, show 22 ≤ 30 by decide⟩ ⟨show 0 ≤ 0 by decide, show 0 ≤ 0 by decide⟩ (fun v9 f9 h9 => ?_) (fun X9 h9 => h9.elim)
      obtain ⟨e8, ⟨j, hj, hj2, rfl⟩ | ⟨hn, rfl⟩⟩ := h9
      · subst f9
        refine e_istore (dat d_F_runOver 14 rfl) (show 4 < 5 by decide) (lv2 := [(4, _), (3, _), (2, _), (0, _), (1, _)]) rfl ?_
        refine e_iload (dat d_F_runOver 15 rfl) 0 rfl ?_
        refine e_iconst (v := -1) (dat d_F_runOver 16 rfl) rfl ?_
        refine e_icmp_eq (dat d_F_runOver 17 rfl) (tgt := 54) (by decide) (fun h27 => ?_) (fun h27 => ?_)
        · exact absurd h27 (nI_m1 (by omega))
        · refine e_aload_n (dat d_F_runOver 18 rfl) 1 rfl rfl ?_
          refine e_iload (dat d_F_runOver 19 rfl) 0 rfl ?_
          refine r_call (t_R_isPass hW1 hC hk7 hj) c_R_isPass (dat d_F_runOver 20 rfl) rfl k_325 rfl (kd_R _ (by omega)) (by decide) (by omega) rfl (show 0 ≤ 8 by decide) ⟨show 1 ≤ 1 by decide, show 21 ≤ 30 by decide⟩ ⟨show 0 ≤ 0 by decide, show 0 ≤ 0 by decide⟩ ?_
          refine n_if_eq (dat d_F_runOver 21 rfl) (tgt := 54) (by decide) if_lt (fun h36 => ?_) (fun h36 => ?_)
          · replace h36 := if_n h36
            refine n_iinc (q := 2) (dat d_F_runOver 29 rfl) rfl (show 2 < 5 by decide) (lv2 := [(2, _), (4, _), (3, _), (0, _), (1, _)]) rfl ?_
            refine e_goto (dat d_F_runOver 30 rfl) (tgt := 2) (by decide) ?_
            refine e_lv [0, 3, 4] rfl ?_
            refine ih (by omega) f1 ?_ hkp
            rw [occ_0 (h6m k (by omega)) (fun i hi he hp => ?_), hM]
            · exact hC
            · rw [← e51] at hi
              rw [← e52] at he
              rw [← e53] at hp
              rw [← e54]
              first
                | exact absurd he (hn i hi)
                | (have e9 := hW1.D k i j (by omega) hi hj (he.trans hj2.symm)
                   subst e9
                   first | exact absurd hp h36 | omega)
          · replace h36 := if_p h36
            refine e_aload_n (dat d_F_runOver 22 rfl) 1 rfl rfl ?_
            refine e_iload (dat d_F_runOver 23 rfl) 0 rfl ?_
            refine r_call (t_R_holds hW1 hC hk7 hj) c_R_holds (dat d_F_runOver 24 rfl) rfl k_386 rfl (kd_R _ (by omega)) (by decide) (by omega) rfl (show 0 ≤ 8 by decide) ⟨show 1 ≤ 1 by decide, show 21 ≤ 30 by decide⟩ ⟨show 0 ≤ 0 by decide, show 0 ≤ 0 by decide⟩ ?_
            refine n_if_eq (dat d_F_runOver 25 rfl) (tgt := 54) (by decide) (lt64 (hW1.b _ _)) (fun h45 => ?_) (fun h45 => ?_)
            · refine n_iinc (q := 2) (dat d_F_runOver 29 rfl) rfl (show 2 < 5 by decide) (lv2 := [(2, _), (4, _), (3, _), (0, _), (1, _)]) rfl ?_
              refine e_goto (dat d_F_runOver 30 rfl) (tgt := 2) (by decide) ?_
              refine e_lv [0, 3, 4] rfl ?_
              refine ih (by omega) f1 ?_ hkp
              rw [occ_0 (h6m k (by omega)) (fun i hi he hp => ?_), hM]
              · exact hC
              · rw [← e51] at hi
                rw [← e52] at he
                rw [← e53] at hp
                rw [← e54]
                first
                  | exact absurd he (hn i hi)
                  | (have e9 := hW1.D k i j (by omega) hi hj (he.trans hj2.symm)
                     subst e9
                     first | exact absurd hp h36 | omega)
            · refine e_aload_n (dat d_F_runOver 26 rfl) 1 rfl rfl ?_
              refine e_iload (dat d_F_runOver 27 rfl) 0 rfl ?_
              refine r_call (t_R_becomeTaken (by omega)) c_R_becomeTaken (dat d_F_runOver 28 rfl) rfl k_390 rfl (kd_R _ (by omega)) (by decide) (by omega) rfl (show 0 ≤ 8 by decide) ⟨show 1 ≤ 1 by decide, show 21 ≤ 30 by decide⟩ ⟨show 0 ≤ 0 by decide, show 0 ≤ 0 by decide⟩ ?_
              refine n_iinc (q := 2) (dat d_F_runOver 29 rfl) rfl (show 2 < 5 by decide) (lv2 := [(2, _), (4, _), (3, _), (0, _), (1, _)]) rfl ?_
              refine e_goto (dat d_F_runOver 30 rfl) (tgt := 2) (by decide) ?_
              refine e_lv [0, 3, 4] rfl ?_
              refine ih (by omega) _ ?_ (((hkp.up (by omega)).up (by omega)).up (by omega))
              rw [← occ_1 (h6m k (by omega)) (j := j) (by rw [← e51]; exact hj) (by have := (hW.o (6 * k + j)).2.2.2.2.1; rw [e54] at h45; omega) (by rw [← e53]; exact h36) (by rw [← e52]; exact hj2) (fun i hi he => hW.D k i j (by omega) hi (by rw [← e51]; exact hj) he), hM]
              exact rc_taken hW1 hC (by omega) hj (by have := (hW1.o (6 * k + j)).2.2.2.2.1; omega)
      · subst f9
        refine e_istore (dat d_F_runOver 14 rfl) (show 4 < 5 by decide) (lv2 := [(4, _), (3, _), (2, _), (0, _), (1, _)]) rfl ?_
        refine e_iload (dat d_F_runOver 15 rfl) 0 rfl ?_
        refine e_iconst (v := -1) (dat d_F_runOver 16 rfl) rfl ?_
        refine e_icmp_eq (dat d_F_runOver 17 rfl) (tgt := 54) (by decide) (fun h27 => ?_) (fun h27 => ?_)
        · refine n_iinc (q := 2) (dat d_F_runOver 29 rfl) rfl (show 2 < 5 by decide) (lv2 := [(2, _), (4, _), (3, _), (0, _), (1, _)]) rfl ?_
          refine e_goto (dat d_F_runOver 30 rfl) (tgt := 2) (by decide) ?_
          refine e_lv [0, 3, 4] rfl ?_
          refine ih (by omega) f1 ?_ hkp
          rw [occ_0 (h6m k (by omega)) (fun i hi he hp => ?_), hM]
          · exact hC
          · rw [← e51] at hi
            rw [← e52] at he
            rw [← e53] at hp
            rw [← e54]
            first
              | exact absurd he (hn i hi)
              | (have e9 := hW1.D k i j (by omega) hi hj (he.trans hj2.symm)
                 subst e9
                 first | exact absurd hp h36 | omega)
        · exact absurd rfl h27
  refine n_iconst (dat d_F_runOver 0 rfl) 0 rfl ?_
  refine e_istore_n (dat d_F_runOver 1 rfl) rfl (show 2 < 5 by decide) (lv2 := [(2, _), (0, _), (1, _)]) rfl ?_
  exact L 0 (Nat.zero_le _) f hC kp.rf
theorem t_F_letGoBehindTrain {E : wE} {m : wM} {f : wF} {w : Int64} {r : Nat} (hW : Wv m) (hC : Rc m f) (hr : r < m 39 7) : Cq E i_F_letGoBehindTrain 1 0 0 [.ref (wB E + 0), .ref (wB E + (15 + 3 * r))] f w (fun v9 f9 => v9 = none ∧ Rc (lvR m r) f9 ∧ kp f f9) (fun _ => False) := by
  refine cq_of rfl rfl rfl (show 2 ≤ 3 by decide) ?_
  have L : ∀ k, k ≤ m 51 r → (∀ z, z < k → goU m (6 * r + z)) → ∀ f1, Rc (lvN m r k) f1 → kp f f1 → Ev E (jq E i_F_letGoBehindTrain 1 0 0 f w (fun v9 f9 => v9 = none ∧ Rc (lvR m r) f9 ∧ kp f f9) (fun _ => False)) 0 0 2 [(2, .int (nI k)), (0, .ref (wB E + 0)), (1, .ref (wB E + (15 + 3 * r)))] [] f1 g0 w 57 := by
    apply lp_ind
    intro k hk ih hI f1 hC hkp
    generalize hM : lvN m r k = M at hC
    have hW1 : Wv M := by
      rw [← hM]
      exact wv_lvN hW
    have e39 : ∀ b, M 39 b = m 39 b := fun b => by
      rw [← hM]
      exact if_neg (fun h => absurd h.1 (by decide))
    have e41 : ∀ b, M 41 b = m 41 b := fun b => by
      rw [← hM]
      exact if_neg (fun h => absurd h.1 (by decide))
    have e51 : ∀ b, M 51 b = m 51 b := fun b => by
      rw [← hM]
      exact if_neg (fun h => absurd h.1 (by decide))
    have e52 : ∀ b, M 52 b = m 52 b := fun b => by
      rw [← hM]
      exact if_neg (fun h => absurd h.1 (by decide))
    have e53 : ∀ b, M 53 b = m 53 b := fun b => by
      rw [← hM]
      exact if_neg (fun h => absurd h.1 (by decide))
    have e55 : ∀ b, M 55 b = m 55 b := fun b => by
      rw [← hM]
      exact if_neg (fun h => absurd h.1 (by decide))
    have h12 := hW1.S
    have h8 := hW1.R
    have g1 := e39 1
    have g7 := e39 7
    have hr1 : r < M 39 7 := by omega
    have h6 := hW1.N hr1
    have g51 := e51 r
    refine e_iload_n (dat d_F_letGoBehindTrain 2 rfl) 0 rfl rfl ?_
    refine e_aload_n (dat d_F_letGoBehindTrain 3 rfl) 2 rfl rfl ?_
    refine s_gR (dat d_F_letGoBehindTrain 4 rfl) 2 k_62 (by decide) rfl rfl (by omega) (cR2 hC (by omega)) ?_
    refine n_icmp_ge (dat d_F_letGoBehindTrain 5 rfl) (tgt := 63) (by decide) (by omega) (by omega) (fun h7 => ?_) (fun h7 => ?_)
    · refine e_aload_n (dat d_F_letGoBehindTrain 33 rfl) 2 rfl rfl ?_
      refine r_call (t_R_becomeFree (by omega)) c_R_becomeFree (dat d_F_letGoBehindTrain 34 rfl) rfl k_374 rfl (kd_R _ (by omega)) (by decide) (by omega) rfl (show 0 ≤ 8 by decide) ⟨show 1 ≤ 1 by decide, show 20 ≤ 30 by decide⟩ ⟨show 0 ≤ 0 by decide, show 0 ≤ 0 by decide⟩ ?_
      exact q_vret (dat d_F_letGoBehindTrain 35 rfl) rfl (show 0 ≤ 0 by decide) (show 0 ≤ 0 by decide) ⟨rfl, by rw [← lv_end (by omega) (fun z hz => hI z (by omega)), show m 51 r = k by omega, hM]; exact rc_free hW1 hC hr1, ((((hkp.up (by omega)).up (by omega)).up (by omega)).up (by omega)).up (by omega)⟩
    · have hw := hW1.w hr1 h7
      have h64 := hW1.b 52 (6 * r + k)
      have k54 : M 54 (6 * r + k) = m 54 (6 * r + k) := by
        rw [← hM, lvN, if_neg (by omega)]
      refine e_aload_n (dat d_F_letGoBehindTrain 6 rfl) 2 rfl rfl ?_
      refine e_iload_n (dat d_F_letGoBehindTrain 7 rfl) 0 rfl rfl ?_
      refine r_call (t_R_isPass hW1 hC hr1 h7) c_R_isPass (dat d_F_letGoBehindTrain 8 rfl) rfl k_325 rfl (kd_R _ (by omega)) (by decide) (by omega) rfl (show 0 ≤ 8 by decide) ⟨show 1 ≤ 1 by decide, show 21 ≤ 30 by decide⟩ ⟨show 0 ≤ 0 by decide, show 0 ≤ 0 by decide⟩ ?_
      refine n_if_eq (dat d_F_letGoBehindTrain 9 rfl) (tgt := 57) (by decide) if_lt (fun h15 => ?_) (fun h15 => ?_)
      · replace h15 := if_n h15
        refine n_iinc (q := 0) (dat d_F_letGoBehindTrain 31 rfl) rfl (show 2 < 3 by decide) (lv2 := [(2, _), (0, _), (1, _)]) rfl ?_
        refine e_goto (dat d_F_letGoBehindTrain 32 rfl) (tgt := 2) (by decide) ?_
        have h0 : m 53 (6 * r + k) < 3 → m 54 (6 * r + k) = 0 := by
          intro a1
          first
            | (rw [← e53] at a1; exact absurd a1 h15)
            | (rw [← k54]; exact h23)
        refine ih (by omega) (fun z hz => ?_) f1 ?_ hkp
        · by_cases e : z = k
          · rw [e]
            intro a1 a2
            have := h0 a1
            omega
          · exact hI z (by omega)
        · rw [lv_0 h0, hM]
          exact hC
      · replace h15 := if_p h15
        refine e_aload_n (dat d_F_letGoBehindTrain 10 rfl) 2 rfl rfl ?_
        refine e_iload_n (dat d_F_letGoBehindTrain 11 rfl) 0 rfl rfl ?_
        refine r_call (t_R_holds hW1 hC hr1 h7) c_R_holds (dat d_F_letGoBehindTrain 12 rfl) rfl k_386 rfl (kd_R _ (by omega)) (by decide) (by omega) rfl (show 0 ≤ 8 by decide) ⟨show 1 ≤ 1 by decide, show 21 ≤ 30 by decide⟩ ⟨show 0 ≤ 0 by decide, show 0 ≤ 0 by decide⟩ ?_
        refine n_if_eq (dat d_F_letGoBehindTrain 13 rfl) (tgt := 57) (by decide) (lt64 (hW1.b _ _)) (fun h23 => ?_) (fun h23 => ?_)
        · refine n_iinc (q := 0) (dat d_F_letGoBehindTrain 31 rfl) rfl (show 2 < 3 by decide) (lv2 := [(2, _), (0, _), (1, _)]) rfl ?_
          refine e_goto (dat d_F_letGoBehindTrain 32 rfl) (tgt := 2) (by decide) ?_
          have h0 : m 53 (6 * r + k) < 3 → m 54 (6 * r + k) = 0 := by
            intro a1
            first
              | (rw [← e53] at a1; exact absurd a1 h15)
              | (rw [← k54]; exact h23)
          refine ih (by omega) (fun z hz => ?_) f1 ?_ hkp
          · by_cases e : z = k
            · rw [e]
              intro a1 a2
              have := h0 a1
              omega
            · exact hI z (by omega)
          · rw [lv_0 h0, hM]
            exact hC
        · refine e_aload_n (dat d_F_letGoBehindTrain 14 rfl) 2 rfl rfl ?_
          refine e_iload_n (dat d_F_letGoBehindTrain 15 rfl) 0 rfl rfl ?_
          refine r_call (t_R_isRunOver hW1 hC hr1 h7) c_R_isRunOver (dat d_F_letGoBehindTrain 16 rfl) rfl k_405 rfl (kd_R _ (by omega)) (by decide) (by omega) rfl (show 0 ≤ 8 by decide) ⟨show 1 ≤ 1 by decide, show 21 ≤ 30 by decide⟩ ⟨show 0 ≤ 0 by decide, show 0 ≤ 0 by decide⟩ ?_
          refine n_if_eq (dat d_F_letGoBehindTrain 17 rfl) (tgt := 51) (by decide) (lt64 (Nat.lt_of_le_of_lt (m01 (hW1.o _).2.2.2.2.1 (hW1.o _).2.2.2.2.2) (by decide))) (fun h31 => ?_) (fun h31 => ?_)
          · have o54 := (hW1.o (6 * r + k)).2.2.2.2.1
            have o55 := (hW.o (6 * r + k)).2.2.2.2.2
            have m1 : M 54 (6 * r + k) = 1 := by omega
            rw [m1, Nat.one_mul, e55] at h31
            have hng : ¬ goU m (6 * r + k) := by
              intro hg
              have h2 := hg (by rw [← e53]; exact h15) (by have := (hW1.o (6 * r + k)).2.2.2.2.1; omega)
              rw [← e41, ← e52] at h2
              omega
            exact q_vret (dat d_F_letGoBehindTrain 27 rfl) rfl (show 0 ≤ 0 by decide) (show 0 ≤ 0 by decide) ⟨rfl, by rw [lv_stop (by omega) hng, hM]; exact hC, hkp⟩
          · have o54 := (hW1.o (6 * r + k)).2.2.2.2.1
            have o55 := (hW.o (6 * r + k)).2.2.2.2.2
            have m1 : M 54 (6 * r + k) = 1 := by omega
            rw [m1, Nat.one_mul, e55] at h31
            have h55 : m 55 (6 * r + k) = 1 := by omega
            refine e_aload_n (dat d_F_letGoBehindTrain 18 rfl) 1 rfl rfl ?_
            refine s_qF (dat d_F_letGoBehindTrain 19 rfl) 0 k_102 (by decide) rfl rfl rfl ?_
            refine e_aload_n (dat d_F_letGoBehindTrain 20 rfl) 2 rfl rfl ?_
            refine s_qU (dat d_F_letGoBehindTrain 21 rfl) k_59 (by omega) ?_
            refine e_iload_n (dat d_F_letGoBehindTrain 22 rfl) 0 rfl rfl ?_
            refine s_iU (dat d_F_letGoBehindTrain 23 rfl) (by omega) rfl (by omega) (cU hC (by omega) (by omega)) ?_
            refine s_aS (dat d_F_letGoBehindTrain 24 rfl) rfl (by omega) ?_
            refine s_gS (dat d_F_letGoBehindTrain 25 rfl) 1 k_29 (by decide) rfl rfl (by omega) (cS1 hC (by omega)) ?_
            refine n_if_eq (dat d_F_letGoBehindTrain 26 rfl) (tgt := 52) (by decide) (lt64 (hW1.b _ _)) (fun h48 => ?_) (fun h48 => ?_)
            · refine e_aload_n (dat d_F_letGoBehindTrain 28 rfl) 2 rfl rfl ?_
              refine e_iload_n (dat d_F_letGoBehindTrain 29 rfl) 0 rfl rfl ?_
              refine r_call (t_R_letGoOf (by omega)) c_R_letGoOf (dat d_F_letGoBehindTrain 30 rfl) rfl k_409 rfl (kd_R _ (by omega)) (by decide) (by omega) rfl (show 0 ≤ 8 by decide) ⟨show 1 ≤ 1 by decide, show 21 ≤ 30 by decide⟩ ⟨show 0 ≤ 0 by decide, show 0 ≤ 0 by decide⟩ ?_
              refine n_iinc (q := 0) (dat d_F_letGoBehindTrain 31 rfl) rfl (show 2 < 3 by decide) (lv2 := [(2, _), (0, _), (1, _)]) rfl ?_
              refine e_goto (dat d_F_letGoBehindTrain 32 rfl) (tgt := 2) (by decide) ?_
              have hg : ∀ z, z < k + 1 → goU m (6 * r + z) := by
                intro z hz
                by_cases e : z = k
                · rw [e]
                  intro a1 a2
                  exact ⟨h55, by rw [← e41, ← e52]; exact h48⟩
                · exact hI z (by omega)
              refine ih (by omega) hg _ ?_ ((hkp.up (by omega)).up (by omega))
              rw [← lv_1 (by rw [← e53]; exact h15) hg, hM]
              exact rc_letgo hW1 hC hr1 h7
            · have hng : ¬ goU m (6 * r + k) := by
                intro hg
                have h2 := hg (by rw [← e53]; exact h15) (by have := (hW1.o (6 * r + k)).2.2.2.2.1; omega)
                rw [← e41, ← e52] at h2
                omega
              exact q_vret (dat d_F_letGoBehindTrain 27 rfl) rfl (show 0 ≤ 0 by decide) (show 0 ≤ 0 by decide) ⟨rfl, by rw [lv_stop (by omega) hng, hM]; exact hC, hkp⟩
  refine n_iconst (dat d_F_letGoBehindTrain 0 rfl) 0 rfl ?_
  refine e_istore_n (dat d_F_letGoBehindTrain 1 rfl) rfl (show 2 < 3 by decide) (lv2 := [(2, _), (0, _), (1, _)]) rfl ?_
  exact L 0 (Nat.zero_le _) (fun j hj => absurd hj (Nat.not_lt_zero _)) f (by rw [lv_z]; exact hC) kp.rf
theorem t_F_passOneTick {E : wE} {m : wM} {f : wF} {w : Int64} (hW : Wv m) (hC : Rc m f) (hT : ∀ r, r < m 39 7 → m 48 r = 3 → 1 ≤ m 49 r) : Cq E i_F_passOneTick 2 0 0 [.ref (wB E + 0)] f w (fun v9 f9 => v9 = none ∧ Rc (tk1 m) f9 ∧ kp f f9) (fun _ => False) := by
  refine cq_of rfl rfl rfl (show 1 ≤ 2 by decide) ?_
  have L2 : ∀ k, k ≤ m 39 7 → ∀ f1, Rc (cdN (tkN m (m 39 1)) k) f1 → kp f f1 → Ev E (jq E i_F_passOneTick 2 0 0 f w (fun v9 f9 => v9 = none ∧ Rc (tk1 m) f9 ∧ kp f f9) (fun _ => False)) 0 0 27 [(1, .int (nI k)), (0, .ref (wB E + 0))] [] f1 g0 w 57 := by
    apply lp_ind
    intro k hk ih f1 hC hkp
    generalize hM : cdN (tkN m (m 39 1)) k = M at hC
    have hW1 : Wv M := by
      rw [← hM]
      exact wv_cdN (wv_tkN hW) k
    have e39 : ∀ b, M 39 b = m 39 b := fun b => by
      rw [← hM]
      exact (cdo (by decide) k).trans (if_neg (fun h => absurd h.1 (by decide)))
    have h12 := hW1.S
    have h8 := hW1.R
    have g1 := e39 1
    have g7 := e39 7
    refine e_iload_n (dat d_F_passOneTick 15 rfl) 0 rfl rfl ?_
    refine e_aload_n (dat d_F_passOneTick 16 rfl) 1 rfl rfl ?_
    refine s_gF (dat d_F_passOneTick 17 rfl) 3 k_105 (by decide) rfl rfl (cF3 hC) ?_
    refine n_icmp_ge (dat d_F_passOneTick 18 rfl) (tgt := 50) (by decide) (by omega) (by omega) (fun h32 => ?_) (fun h32 => ?_)
    · exact q_vret (dat d_F_passOneTick 26 rfl) rfl (show 0 ≤ 0 by decide) (show 0 ≤ 0 by decide) ⟨rfl, by rw [tk1, show m 39 7 = k by omega, hM]; exact hC, hkp⟩
    · have hk7 : k < M 39 7 := by omega
      have ht3 : M 48 k = 3 → 1 ≤ M 49 k := by
        rw [← hM, cdk (Nat.le_refl _) (Or.inl rfl), cdk (Nat.le_refl _) (Or.inr rfl)]
        intro h9
        simp [tkN] at h9 ⊢
        exact hT k (by omega) h9
      refine e_aload_n (dat d_F_passOneTick 19 rfl) 1 rfl rfl ?_
      refine s_qF (dat d_F_passOneTick 20 rfl) 1 k_103 (by decide) rfl rfl rfl ?_
      refine e_iload_n (dat d_F_passOneTick 21 rfl) 0 rfl rfl ?_
      refine s_aR (dat d_F_passOneTick 22 rfl) rfl (by omega) ?_
      refine r_call (t_R_countDown (by omega) (cR6 hC hk7) (cR7 hC hk7) (hW1.b _ _) (hW1.b _ _) ht3) c_R_countDown (dat d_F_passOneTick 23 rfl) rfl k_457 rfl (kd_R _ (by omega)) (by decide) (by omega) rfl (show 0 ≤ 8 by decide) ⟨show 2 ≤ 2 by decide, show 50 ≤ 60 by decide⟩ ⟨show 0 ≤ 0 by decide, show 0 ≤ 0 by decide⟩ ?_
      refine n_iinc (q := 0) (dat d_F_passOneTick 24 rfl) rfl (show 1 < 2 by decide) (lv2 := [(1, _), (0, _)]) rfl ?_
      refine e_goto (dat d_F_passOneTick 25 rfl) (tgt := 27) (by decide) ?_
      refine ih (by omega) _ ?_ (kp.it (kp.it ((((((hkp.up (by omega)).up (by omega)).up (by omega)).up (by omega)).up (by omega)).up (by omega)) (hkp.up (by omega))) hkp)
      show Rc (cdR (cdN (tkN m (m 39 1)) k) k) _
      rw [hM]
      exact rc_cd hW1 hC hk7 ht3
  have L1 : ∀ k, k ≤ m 39 1 → ∀ f1, Rc (tkN m k) f1 → kp f f1 → Ev E (jq E i_F_passOneTick 2 0 0 f w (fun v9 f9 => v9 = none ∧ Rc (tk1 m) f9 ∧ kp f f9) (fun _ => False)) 0 0 2 [(1, .int (nI k)), (0, .ref (wB E + 0))] [] f1 g0 w 57 := by
    apply lp_ind
    intro k hk ih f1 hC hkp
    generalize hM : tkN m k = M at hC
    have hW1 : Wv M := by
      rw [← hM]
      exact wv_tkN hW
    have e39 : ∀ b, M 39 b = m 39 b := fun b => by
      rw [← hM]
      exact if_neg (fun h => absurd h.1 (by decide))
    have h12 := hW1.S
    have h8 := hW1.R
    have g1 := e39 1
    have g7 := e39 7
    refine e_iload_n (dat d_F_passOneTick 2 rfl) 0 rfl rfl ?_
    refine e_aload_n (dat d_F_passOneTick 3 rfl) 1 rfl rfl ?_
    refine s_gF (dat d_F_passOneTick 4 rfl) 2 k_104 (by decide) rfl rfl (cF2 hC) ?_
    refine n_icmp_ge (dat d_F_passOneTick 5 rfl) (tgt := 25) (by decide) (by omega) (by omega) (fun h7 => ?_) (fun h7 => ?_)
    · refine n_iconst (dat d_F_passOneTick 13 rfl) 0 rfl ?_
      refine e_istore_n (dat d_F_passOneTick 14 rfl) rfl (show 1 < 2 by decide) (lv2 := [(1, _), (0, _)]) rfl ?_
      refine L2 0 (Nat.zero_le _) f1 ?_ hkp
      show Rc (tkN m (m 39 1)) f1
      rw [show m 39 1 = k by omega, hM]
      exact hC
    · refine e_aload_n (dat d_F_passOneTick 6 rfl) 1 rfl rfl ?_
      refine s_qF (dat d_F_passOneTick 7 rfl) 0 k_102 (by decide) rfl rfl rfl ?_
      refine e_iload_n (dat d_F_passOneTick 8 rfl) 0 rfl rfl ?_
      refine s_aS (dat d_F_passOneTick 9 rfl) rfl (by omega) ?_
      refine r_call (t_S_moveOneTick (by omega) (cS5 hC (by omega)) (hW1.b _ _)) c_S_moveOneTick (dat d_F_passOneTick 10 rfl) rfl k_453 rfl (kd_S _ (by omega)) (by decide) (by omega) rfl (show 0 ≤ 8 by decide) ⟨show 1 ≤ 2 by decide, show 20 ≤ 60 by decide⟩ ⟨show 0 ≤ 0 by decide, show 0 ≤ 0 by decide⟩ ?_
      refine n_iinc (q := 0) (dat d_F_passOneTick 11 rfl) rfl (show 1 < 2 by decide) (lv2 := [(1, _), (0, _)]) rfl ?_
      refine e_goto (dat d_F_passOneTick 12 rfl) (tgt := 2) (by decide) ?_
      refine ih (by omega) _ ?_ (kp.it hkp (kp.it ((hkp.up (by omega)).up (by omega)) (hkp.up (by omega))))
      rw [← tk_s, hM]
      exact rc_mv1 hW1 hC (by omega)
  refine n_iconst (dat d_F_passOneTick 0 rfl) 0 rfl ?_
  refine e_istore_n (dat d_F_passOneTick 1 rfl) rfl (show 1 < 2 by decide) (lv2 := [(1, _), (0, _)]) rfl ?_
  exact L1 0 (Nat.zero_le _) f (by rw [tk_0]; exact hC) kp.rf
