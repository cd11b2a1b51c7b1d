theorem tab_cs {N : Nat} (hN : N < 64) (y : Int32) : (∃ c, c ≤ N ∧ y = nI c) ∨ (y.toInt < 0 ∨ (N : Int) < y.toInt) := by
  by_cases h : ∃ c, c ≤ N ∧ y = nI c
  · exact Or.inl h
  · exact Or.inr (tab_out (fun c hc e => h ⟨c, hc, e⟩) hN)
def trkR (m : wM) (s c : Nat) (t : Int32) : Prop := (c = 0 → t = nI (m 41 s)) ∧ (c = 1 → (∃ r, r < m 39 7 ∧ pasP m s r ∧ t = nI r) ∨ ((∀ r, r < m 39 7 → ¬ pasP m s r) ∧ t = -1)) ∧ (c = 2 → t = nI (bts (fun r => if flaP m s r then 1 else 0) (m 39 7))) ∧ (c = 3 → t = lieI m s) ∧ (c = 4 → t = nI (m 42 s)) ∧ (c = 5 → t = nI (m 43 s)) ∧ (c = 6 → t = nI (m 44 s))
theorem tks_39 {m : wM} {b : Nat} : ∀ k, tks m k 39 b = m 39 b := by
  intro k
  induction k with
  | zero => rfl
  | succ k ih =>
    show tk1 (tks m k) 39 b = m 39 b
    unfold tk1
    rw [cdo (by decide), tkN, if_neg (fun h => absurd h.1 (by decide)), ih]
theorem jv_T {m : wM} (h : Jv m) : ∀ r, r < m 39 7 → m 48 r = 3 → 1 ≤ m 49 r := fun r hr => (h.R r hr).2.2.2.2.2.2.2
theorem t_F_move {E : wE} {m : wM} {f : wF} {w : Int64} {x y : Int32} (hW : Wv m) (hC : Rc m f) (hE : (wl E).stackTraces = false) : Cq E i_F_move 7 2 12 [.ref (wB E + 0), .int x, .int y] f w (fun v9 f9 => (kMov m x y) = 0 ∧ v9 = (some (.int (nI (movA m (ix x))))) ∧ Rc (movM m (ix x) (ix y)) f9 ∧ kp f f9) (fun X9 => ex3 (kMov m x y) X9) := by
  have h12 := hW.S
  have h8 := hW.R
  refine cq_of rfl rfl rfl (show 3 ≤ 4 by decide) ?_
  refine e_aload_n (dat d_F_move 0 rfl) 0 rfl rfl ?_
  refine e_iload_n (dat d_F_move 1 rfl) 1 rfl rfl ?_
  refine q_call (t_F_existingSection hW hC hE) c_F_existingSection (dat d_F_move 2 rfl) rfl k_268 rfl rfl (by decide) (by omega) rfl (show 0 ≤ 8 by decide) ⟨show 7 ≤ 7 by decide, show 201 ≤ 210 by decide⟩ ⟨show 1 ≤ 2 by decide, show 6 ≤ 12 by decide⟩ (fun v9 f9 h9 => ?_) (fun X9 h9 => ?_)
  · obtain ⟨e8, i, hi, rfl, rfl⟩ := h9
    subst f9
    refine e_astore_n (dat d_F_move 3 rfl) rfl (show 3 < 4 by decide) (lv2 := [(3, _), (0, _), (1, _), (2, _)]) rfl ?_
    refine e_aload_n (dat d_F_move 4 rfl) 0 rfl rfl ?_
    refine s_gS (dat d_F_move 5 rfl) 0 k_27 (by decide) rfl rfl (by omega) (cS0 hC (by omega)) ?_
    refine n_if_eq (dat d_F_move 6 rfl) (tgt := 22) (by decide) (lt64 (hW.b _ _)) (fun h10 => ?_) (fun h10 => ?_)
    · exact q_throw th_53 hE (is := 134) (text := "no points, or position is not 0 or 1") (by decide +kernel) rfl (dat d_F_move 12 rfl) (dat d_F_move 13 rfl) (dat d_F_move 14 rfl) (dat d_F_move 15 rfl) (dat d_F_move 16 rfl) rfl (show 5 < 7 by decide) (show 0 + 82 ≤ 210 by decide) (show 2 ≤ 2 by decide) (show 12 ≤ 12 by decide) (Or.inr (Or.inl ⟨by rw [kMov, if_neg (no_ix hi (by omega)), ix_nI (show i < 64 by omega), if_pos (by first | exact Or.inl h10 | exact Or.inr ⟨h14, h19⟩)], rfl⟩))
    · refine e_iload_n (dat d_F_move 7 rfl) 3 rfl rfl ?_
      refine e_if_eq (dat d_F_move 8 rfl) (tgt := 32) (by decide) (fun h14 => ?_) (fun h14 => ?_)
      · have hy : y = 0 ∨ y = nI 1 := Or.inl h14
        obtain ⟨p, hp, hyp⟩ : ∃ p, p ≤ 1 ∧ y = nI p := ⟨0, by decide, h14.trans nI_0.symm⟩
        refine e_aload_n (dat d_F_move 17 rfl) 0 rfl rfl ?_
        refine s_gS (dat d_F_move 18 rfl) 1 k_29 (by decide) rfl rfl (by omega) (cS1 hC (by omega)) ?_
        refine n_if_ne (dat d_F_move 19 rfl) (tgt := 47) (by decide) (lt64 (hW.b _ _)) (fun h36 => ?_) (fun h36 => ?_)
        · refine n_iconst (dat d_F_move 24 rfl) 0 rfl ?_
          exact q_zret (dat d_F_move 25 rfl) rfl (z01 (by decide)) (show 1 ≤ 2 by decide) (show 6 ≤ 12 by decide) ⟨by rw [kMov, if_neg (no_ix hi (by omega)), ix_nI (show i < 64 by omega), if_neg (fun h => h.elim h10 (fun h2 => hy.elim h2.1 h2.2))], by rw [ix_nI (by omega), movA, if_neg (fun h => by first | exact h36 h.1 | exact h.2 h44)], by rw [ix_nI (show i < 64 by omega), movM, if_neg (fun h => by first | exact h36 h.1 | exact h.2 h44)]; exact hC, kp.rf⟩
        · refine e_aload_n (dat d_F_move 20 rfl) 1 rfl rfl ?_
          refine e_iload_n (dat d_F_move 21 rfl) 2 rfl rfl ?_
          refine r_call (t_F_isHeld hW hC (by omega)) c_F_isHeld (dat d_F_move 22 rfl) rfl k_421 rfl rfl (by decide) (by omega) rfl (show 0 ≤ 8 by decide) ⟨show 3 ≤ 7 by decide, show 81 ≤ 210 by decide⟩ ⟨show 1 ≤ 2 by decide, show 6 ≤ 12 by decide⟩ ?_
          refine n_if_eq (dat d_F_move 23 rfl) (tgt := 49) (by decide) if_lt0 (fun h44 => ?_) (fun h44 => ?_)
          · replace h44 := if_n0 h44
            refine e_aload_n (dat d_F_move 26 rfl) 0 rfl rfl ?_
            refine e_iload_n (dat d_F_move 27 rfl) 3 rfl rfl ?_
            refine r_call (t_S_want (by omega)) c_S_want (dat d_F_move 28 rfl) rfl k_343 rfl (kd_S _ (by omega)) (by decide) (by omega) rfl (show 0 ≤ 8 by decide) ⟨show 1 ≤ 7 by decide, show 21 ≤ 210 by decide⟩ ⟨show 1 ≤ 2 by decide, show 6 ≤ 12 by decide⟩ ?_
            refine n_iconst (dat d_F_move 29 rfl) 1 rfl ?_
            exact q_zret (dat d_F_move 30 rfl) rfl (z01 (by decide)) (show 1 ≤ 2 by decide) (show 6 ≤ 12 by decide) ⟨by rw [kMov, if_neg (no_ix hi (by omega)), ix_nI (show i < 64 by omega), if_neg (fun h => h.elim h10 (fun h2 => hy.elim h2.1 h2.2))], by rw [ix_nI (by omega), movA, if_pos ⟨h36, fun h => h h44⟩], by subst hyp; rw [ix_nI (show i < 64 by omega), ix_nI (show p < 64 by omega), movM, if_pos ⟨h36, fun h => h h44⟩]; exact rc_want hW hC hi hp, kp.rf.it (((kp.rf.up (by omega)).up (by omega)).up (by omega))⟩
          · replace h44 := if_p0 h44
            refine n_iconst (dat d_F_move 24 rfl) 0 rfl ?_
            exact q_zret (dat d_F_move 25 rfl) rfl (z01 (by decide)) (show 1 ≤ 2 by decide) (show 6 ≤ 12 by decide) ⟨by rw [kMov, if_neg (no_ix hi (by omega)), ix_nI (show i < 64 by omega), if_neg (fun h => h.elim h10 (fun h2 => hy.elim h2.1 h2.2))], by rw [ix_nI (by omega), movA, if_neg (fun h => by first | exact h36 h.1 | exact h.2 h44)], by rw [ix_nI (show i < 64 by omega), movM, if_neg (fun h => by first | exact h36 h.1 | exact h.2 h44)]; exact hC, kp.rf⟩
      · refine e_iload_n (dat d_F_move 9 rfl) 3 rfl rfl ?_
        refine n_iconst (dat d_F_move 10 rfl) 1 rfl ?_
        refine e_icmp_eq (dat d_F_move 11 rfl) (tgt := 32) (by decide) (fun h19 => ?_) (fun h19 => ?_)
        · have hy : y = 0 ∨ y = nI 1 := Or.inr h19
          obtain ⟨p, hp, hyp⟩ : ∃ p, p ≤ 1 ∧ y = nI p := ⟨1, by decide, h19⟩
          refine e_aload_n (dat d_F_move 17 rfl) 0 rfl rfl ?_
          refine s_gS (dat d_F_move 18 rfl) 1 k_29 (by decide) rfl rfl (by omega) (cS1 hC (by omega)) ?_
          refine n_if_ne (dat d_F_move 19 rfl) (tgt := 47) (by decide) (lt64 (hW.b _ _)) (fun h36 => ?_) (fun h36 => ?_)
          · refine n_iconst (dat d_F_move 24 rfl) 0 rfl ?_
            exact q_zret (dat d_F_move 25 rfl) rfl (z01 (by decide)) (show 1 ≤ 2 by decide) (show 6 ≤ 12 by decide) ⟨by rw [kMov, if_neg (no_ix hi (by omega)), ix_nI (show i < 64 by omega), if_neg (fun h => h.elim h10 (fun h2 => hy.elim h2.1 h2.2))], by rw [ix_nI (by omega), movA, if_neg (fun h => by first | exact h36 h.1 | exact h.2 h44)], by rw [ix_nI (show i < 64 by omega), movM, if_neg (fun h => by first | exact h36 h.1 | exact h.2 h44)]; exact hC, kp.rf⟩
          · refine e_aload_n (dat d_F_move 20 rfl) 1 rfl rfl ?_
            refine e_iload_n (dat d_F_move 21 rfl) 2 rfl rfl ?_
            refine r_call (t_F_isHeld hW hC (by omega)) c_F_isHeld (dat d_F_move 22 rfl) rfl k_421 rfl rfl (by decide) (by omega) rfl (show 0 ≤ 8 by decide) ⟨show 3 ≤ 7 by decide, show 81 ≤ 210 by decide⟩ ⟨show 1 ≤ 2 by decide, show 6 ≤ 12 by decide⟩ ?_
            refine n_if_eq (dat d_F_move 23 rfl) (tgt := 49) (by decide) if_lt0 (fun h44 => ?_) (fun h44 => ?_)
            · replace h44 := if_n0 h44
              refine e_aload_n (dat d_F_move 26 rfl) 0 rfl rfl ?_
              refine e_iload_n (dat d_F_move 27 rfl) 3 rfl rfl ?_
              refine r_call (t_S_want (by omega)) c_S_want (dat d_F_move 28 rfl) rfl k_343 rfl (kd_S _ (by omega)) (by decide) (by omega) rfl (show 0 ≤ 8 by decide) ⟨show 1 ≤ 7 by decide, show 21 ≤ 210 by decide⟩ ⟨show 1 ≤ 2 by decide, show 6 ≤ 12 by decide⟩ ?_
              refine n_iconst (dat d_F_move 29 rfl) 1 rfl ?_
              exact q_zret (dat d_F_move 30 rfl) rfl (z01 (by decide)) (show 1 ≤ 2 by decide) (show 6 ≤ 12 by decide) ⟨by rw [kMov, if_neg (no_ix hi (by omega)), ix_nI (show i < 64 by omega), if_neg (fun h => h.elim h10 (fun h2 => hy.elim h2.1 h2.2))], by rw [ix_nI (by omega), movA, if_pos ⟨h36, fun h => h h44⟩], by subst hyp; rw [ix_nI (show i < 64 by omega), ix_nI (show p < 64 by omega), movM, if_pos ⟨h36, fun h => h h44⟩]; exact rc_want hW hC hi hp, kp.rf.it (((kp.rf.up (by omega)).up (by omega)).up (by omega))⟩
            · replace h44 := if_p0 h44
              refine n_iconst (dat d_F_move 24 rfl) 0 rfl ?_
              exact q_zret (dat d_F_move 25 rfl) rfl (z01 (by decide)) (show 1 ≤ 2 by decide) (show 6 ≤ 12 by decide) ⟨by rw [kMov, if_neg (no_ix hi (by omega)), ix_nI (show i < 64 by omega), if_neg (fun h => h.elim h10 (fun h2 => hy.elim h2.1 h2.2))], by rw [ix_nI (by omega), movA, if_neg (fun h => by first | exact h36 h.1 | exact h.2 h44)], by rw [ix_nI (show i < 64 by omega), movM, if_neg (fun h => by first | exact h36 h.1 | exact h.2 h44)]; exact hC, kp.rf⟩
        · exact q_throw th_53 hE (is := 134) (text := "no points, or position is not 0 or 1") (by decide +kernel) rfl (dat d_F_move 12 rfl) (dat d_F_move 13 rfl) (dat d_F_move 14 rfl) (dat d_F_move 15 rfl) (dat d_F_move 16 rfl) rfl (show 5 < 7 by decide) (show 0 + 82 ≤ 210 by decide) (show 2 ≤ 2 by decide) (show 12 ≤ 12 by decide) (Or.inr (Or.inl ⟨by rw [kMov, if_neg (no_ix hi (by omega)), ix_nI (show i < 64 by omega), if_pos (by first | exact Or.inl h10 | exact Or.inr ⟨h14, h19⟩)], rfl⟩))
  · exact q_out rfl (show 1 ≤ 2 by decide) (show 6 ≤ 12 by decide) (Or.inl ⟨if_pos h9.2, h9.1⟩)
theorem t_F_breakPoints {E : wE} {m : wM} {f : wF} {w : Int64} {x : Int32} {b : Nat} (hW : Wv m) (hC : Rc m f) (hb : b ≤ 1) (hE : (wl E).stackTraces = false) : Cq E i_F_breakPoints 7 2 12 [.ref (wB E + 0), .int x, .int (nI b)] f w (fun v9 f9 => (kBrk m x) = 0 ∧ v9 = none ∧ Rc (ntN (um m 44 (ix x) b) (m 39 7)) f9 ∧ kp f f9) (fun X9 => ex3 (kBrk m x) X9) := by
  have h12 := hW.S
  have h8 := hW.R
  refine cq_of rfl rfl rfl (show 3 ≤ 4 by decide) ?_
  refine e_aload_n (dat d_F_breakPoints 0 rfl) 0 rfl rfl ?_
  refine e_iload_n (dat d_F_breakPoints 1 rfl) 1 rfl rfl ?_
  refine q_call (t_F_existingSection hW hC hE) c_F_existingSection (dat d_F_breakPoints 2 rfl) rfl k_268 rfl rfl (by decide) (by omega) rfl (show 0 ≤ 8 by decide) ⟨show 7 ≤ 7 by decide, show 201 ≤ 210 by decide⟩ ⟨show 1 ≤ 2 by decide, show 6 ≤ 12 by decide⟩ (fun v9 f9 h9 => ?_) (fun X9 h9 => ?_)
  · obtain ⟨e8, i, hi, rfl, rfl⟩ := h9
    subst f9
    refine e_astore_n (dat d_F_breakPoints 3 rfl) rfl (show 3 < 4 by decide) (lv2 := [(3, _), (0, _), (1, _), (2, _)]) rfl ?_
    refine e_aload_n (dat d_F_breakPoints 4 rfl) 0 rfl rfl ?_
    refine s_gS (dat d_F_breakPoints 5 rfl) 0 k_27 (by decide) rfl rfl (by omega) (cS0 hC (by omega)) ?_
    refine n_if_ne (dat d_F_breakPoints 6 rfl) (tgt := 23) (by decide) (lt64 (hW.b _ _)) (fun h10 => ?_) (fun h10 => ?_)
    · refine e_aload_n (dat d_F_breakPoints 12 rfl) 0 rfl rfl ?_
      refine e_iload_n (dat d_F_breakPoints 13 rfl) 3 rfl rfl ?_
      refine s_pSb (dat d_F_breakPoints 14 rfl) 2 k_31 (by decide) rfl rfl rfl rfl (by omega) (z01 hb) ?_
      refine e_aload_n (dat d_F_breakPoints 15 rfl) 1 rfl rfl ?_
      have hC1 := rc_brk (v := b) hW hC hi
      have hW1 : Wv (um m 44 i b) := wv_um44 hW hb
      have e7 : um m 44 i b 39 7 = m 39 7 := by simp [um]
      refine q_call (t_F_noteApproached hW1 hC1) c_F_noteApproached (dat d_F_breakPoints 16 rfl) rfl k_347 rfl rfl (by decide) (by omega) rfl (show 0 ≤ 8 by decide) ⟨show 4 ≤ 7 by decide, show 113 ≤ 210 by decide⟩ ⟨show 1 ≤ 2 by decide, show 6 ≤ 12 by decide⟩ (fun v9 f9 h9 => ?_) (fun X9 h9 => h9.elim)
      obtain ⟨rfl, hC3, hk3⟩ := h9
      rw [e7] at hC3
      exact q_vret (dat d_F_breakPoints 17 rfl) rfl (show 1 ≤ 2 by decide) (show 6 ≤ 12 by decide) ⟨by rw [kBrk, if_neg (no_ix hi (by omega)), ix_nI (show i < 64 by omega), if_neg h10], rfl, by rw [ix_nI (by omega)]; exact hC3, (kp.rf.up (by omega)).tr hk3⟩
    · exact q_throw th_53 hE (is := 142) (text := "no points") (by decide +kernel) rfl (dat d_F_breakPoints 7 rfl) (dat d_F_breakPoints 8 rfl) (dat d_F_breakPoints 9 rfl) (dat d_F_breakPoints 10 rfl) (dat d_F_breakPoints 11 rfl) rfl (show 5 < 7 by decide) (show 0 + 82 ≤ 210 by decide) (show 2 ≤ 2 by decide) (show 12 ≤ 12 by decide) (Or.inr (Or.inl ⟨by rw [kBrk, if_neg (no_ix hi (by omega)), ix_nI (show i < 64 by omega), if_pos h10], rfl⟩))
  · exact q_out rfl (show 1 ≤ 2 by decide) (show 6 ≤ 12 by decide) (Or.inl ⟨if_pos h9.2, h9.1⟩)
theorem t_F_tick {E : wE} {m : wM} {f : wF} {w : Int64} {x : Int32} (hJ : Jv m) (hW : Wv m) (hC : Rc m f) (hE : (wl E).stackTraces = false) : Cq E i_F_tick 6 1 6 [.ref (wB E + 0), .int x] f w (fun v9 f9 => (kTck x) = 0 ∧ v9 = none ∧ Rc (ntN (tks m (ix x)) (m 39 7)) f9 ∧ kp f f9) (fun X9 => ex3 (kTck x) X9) := by
  have h12 := hW.S
  have h8 := hW.R
  refine cq_of rfl rfl rfl (show 2 ≤ 3 by decide) ?_
  refine e_iload_n (dat d_F_tick 0 rfl) 1 rfl rfl ?_
  refine n_iconst (dat d_F_tick 1 rfl) 1 rfl ?_
  refine e_icmp_lt (dat d_F_tick 2 rfl) (tgt := 11) (by decide) (fun h2 => ?_) (fun h2 => ?_)
  · exact q_throw th_53 hE (is := 147) (text := "n is not 1 .. 20") (by decide +kernel) rfl (dat d_F_tick 6 rfl) (dat d_F_tick 7 rfl) (dat d_F_tick 8 rfl) (dat d_F_tick 9 rfl) (dat d_F_tick 10 rfl) rfl (show 5 < 6 by decide) (show 0 + 82 ≤ 180 by decide) (show 1 ≤ 1 by decide) (show 6 ≤ 6 by decide) (Or.inr (Or.inl ⟨if_pos (by first | exact Or.inl h2 | exact Or.inr h8), rfl⟩))
  · refine e_iload_n (dat d_F_tick 3 rfl) 1 rfl rfl ?_
    refine n_bipush (dat d_F_tick 4 rfl) 20 rfl ?_
    refine e_icmp_le (dat d_F_tick 5 rfl) (tgt := 21) (by decide) (fun h8 => ?_) (fun h8 => ?_)
    · have h8b := h8
      obtain ⟨d, hd1, hd2, rfl⟩ := dl_of (N := 20) (by decide) h2 h8
      refine n_iconst (dat d_F_tick 11 rfl) 0 rfl ?_
      refine e_istore_n (dat d_F_tick 12 rfl) rfl (show 2 < 3 by decide) (lv2 := [(2, _), (0, _), (1, _)]) rfl ?_
      have L : ∀ k, k ≤ d → ∀ f1, Rc (tks m k) f1 → kp f f1 → Ev E (jq E i_F_tick 6 1 6 f w (fun v9 f9 => (kTck (nI d)) = 0 ∧ v9 = none ∧ Rc (ntN (tks m (ix (nI d))) (m 39 7)) f9 ∧ kp f f9) (fun X9 => ex3 (kTck (nI d)) X9)) 0 0 23 [(2, .int (nI k)), (0, .ref (wB E + 0)), (1, .int (nI d))] [] f1 g0 w 57 := by
        apply lp_ind
        intro k hk ih f1 hC hkp
        have hJ1 : Jv (tks m k) := jv_tks hJ k
        have g7 : tks m k 39 7 = m 39 7 := tks_39 k
        generalize hM : tks m k = M at hC hJ1 g7
        have hW1 := hJ1.W
        refine e_iload_n (dat d_F_tick 13 rfl) 0 rfl rfl ?_
        refine e_iload_n (dat d_F_tick 14 rfl) 2 rfl rfl ?_
        refine n_icmp_ge (dat d_F_tick 15 rfl) (tgt := 38) (by decide) (by omega) (by omega) (fun h25 => ?_) (fun h25 => ?_)
        · refine e_aload_n (dat d_F_tick 20 rfl) 1 rfl rfl ?_
          refine q_call (t_F_noteApproached hW1 hC) c_F_noteApproached (dat d_F_tick 21 rfl) rfl k_347 rfl rfl (by decide) (by omega) rfl (show 0 ≤ 8 by decide) ⟨show 4 ≤ 6 by decide, show 113 ≤ 180 by decide⟩ ⟨show 0 ≤ 1 by decide, show 0 ≤ 6 by decide⟩ (fun v9 f9 h9 => ?_) (fun X9 h9 => h9.elim)
          obtain ⟨rfl, hC9, hk9⟩ := h9
          rw [g7] at hC9
          exact q_vret (dat d_F_tick 22 rfl) rfl (show 0 ≤ 1 by decide) (show 0 ≤ 6 by decide) ⟨if_neg (fun h => h.elim h2 (fun h => h h8b)), rfl, by rw [ix_nI (by omega), show d = k by omega, hM]; exact hC9, hkp.tr hk9⟩
        · refine e_aload_n (dat d_F_tick 16 rfl) 1 rfl rfl ?_
          refine q_call (t_F_passOneTick hW1 hC (jv_T hJ1)) c_F_passOneTick (dat d_F_tick 17 rfl) rfl k_449 rfl rfl (by decide) (by omega) rfl (show 0 ≤ 8 by decide) ⟨show 3 ≤ 6 by decide, show 81 ≤ 180 by decide⟩ ⟨show 0 ≤ 1 by decide, show 0 ≤ 6 by decide⟩ (fun v9 f9 h9 => ?_) (fun X9 h9 => h9.elim)
          obtain ⟨rfl, hC9, hk9⟩ := h9
          refine n_iinc (q := 0) (dat d_F_tick 18 rfl) rfl (show 2 < 3 by decide) (lv2 := [(2, _), (0, _), (1, _)]) rfl ?_
          refine e_goto (dat d_F_tick 19 rfl) (tgt := 23) (by decide) ?_
          refine ih (by omega) f9 ?_ (hkp.tr hk9)
          show Rc (tk1 (tks m k)) f9
          rw [hM]
          exact hC9
      exact L 0 (Nat.zero_le _) f hC kp.rf
    · exact q_throw th_53 hE (is := 147) (text := "n is not 1 .. 20") (by decide +kernel) rfl (dat d_F_tick 6 rfl) (dat d_F_tick 7 rfl) (dat d_F_tick 8 rfl) (dat d_F_tick 9 rfl) (dat d_F_tick 10 rfl) rfl (show 5 < 6 by decide) (show 0 + 82 ≤ 180 by decide) (show 1 ≤ 1 by decide) (show 6 ≤ 6 by decide) (Or.inr (Or.inl ⟨if_pos (by first | exact Or.inl h2 | exact Or.inr h8), rfl⟩))
theorem t_F_off {E : wE} {m : wM} {f : wF} {w : Int64} {x : Int32} (hW : Wv m) (hC : Rc m f) (hE : (wl E).stackTraces = false) : Cq E i_F_off 6 1 6 [.ref (wB E + 0), .int x] f w (fun v9 f9 => (kOff x) = 0 ∧ v9 = (some (.int (nI (if ∀ r, r < m 39 7 → ¬ (m 45 r = ix x ∧ m 48 r = 1 ∧ clrP m r ∧ fndP m r) then 0 else 1)))) ∧ Rc m f9 ∧ kp f f9) (fun X9 => ex3 (kOff x) X9) := by
  have h12 := hW.S
  have h8 := hW.R
  refine cq_of rfl rfl rfl (show 2 ≤ 2 by decide) ?_
  refine e_iload_n (dat d_F_off 0 rfl) 1 rfl rfl ?_
  refine r_callS t_F_isSignal c_F_isSignal (dat d_F_off 1 rfl) rfl k_228 rfl (show 0 ≤ 8 by decide) ⟨show 1 ≤ 6 by decide, show 20 ≤ 180 by decide⟩ ⟨show 0 ≤ 1 by decide, show 0 ≤ 6 by decide⟩ ?_
  refine n_if_ne (dat d_F_off 2 rfl) (tgt := 17) (by decide) if_lt0 (fun h4 => ?_) (fun h4 => ?_)
  · replace h4 := if_p0 h4
    have h4b := h4
    obtain ⟨s, hs, rfl⟩ := ix_of (N := 6) (by decide) h4
    refine e_aload_n (dat d_F_off 8 rfl) 0 rfl rfl ?_
    refine e_iload_n (dat d_F_off 9 rfl) 1 rfl rfl ?_
    refine r_call (t_F_showsOff hW hC (by omega)) c_F_showsOff (dat d_F_off 10 rfl) rfl k_351 rfl rfl (by decide) (by omega) rfl (show 0 ≤ 8 by decide) ⟨show 3 ≤ 6 by decide, show 83 ≤ 180 by decide⟩ ⟨show 0 ≤ 1 by decide, show 0 ≤ 6 by decide⟩ ?_
    exact q_zret (dat d_F_off 11 rfl) rfl (by split <;> exact z01 (by decide)) (show 0 ≤ 1 by decide) (show 0 ≤ 6 by decide) ⟨if_neg h4b, by rw [ix_nI (by omega)], hC, kp.rf⟩
  · replace h4 := if_n0 h4
    exact q_throw th_45 hE (is := 152) (text := "signal is not 0 .. 5") (by decide +kernel) rfl (dat d_F_off 3 rfl) (dat d_F_off 4 rfl) (dat d_F_off 5 rfl) (dat d_F_off 6 rfl) (dat d_F_off 7 rfl) rfl (show 5 < 6 by decide) (show 0 + 82 ≤ 180 by decide) (show 1 ≤ 1 by decide) (show 6 ≤ 6 by decide) (Or.inl ⟨if_pos h4, rfl⟩)
theorem t_F_clash {E : wE} {m : wM} {f : wF} {w : Int64} {x y : Int32} (hW : Wv m) (hC : Rc m f) (hE : (wl E).stackTraces = false) : Cq E i_F_clash 7 2 12 [.ref (wB E + 0), .int x, .int y] f w (fun v9 f9 => (kCla m x y) = 0 ∧ v9 = (some (.int (nI (claA m (ix x) (ix y))))) ∧ Rc m f9 ∧ kp f f9) (fun X9 => ex3 (kCla m x y) X9) := by
  have h12 := hW.S
  have h8 := hW.R
  refine cq_of rfl rfl rfl (show 3 ≤ 5 by decide) ?_
  refine e_aload_n (dat d_F_clash 0 rfl) 0 rfl rfl ?_
  refine e_iload_n (dat d_F_clash 1 rfl) 1 rfl rfl ?_
  refine q_call (t_F_existingRoute hW hC hE) c_F_existingRoute (dat d_F_clash 2 rfl) rfl k_263 rfl rfl (by decide) (by omega) rfl (show 0 ≤ 8 by decide) ⟨show 7 ≤ 7 by decide, show 201 ≤ 210 by decide⟩ ⟨show 1 ≤ 2 by decide, show 6 ≤ 12 by decide⟩ (fun v9 f9 h9 => ?_) (fun X9 h9 => ?_)
  · obtain ⟨e8, r, hr, rfl, rfl⟩ := h9
    subst f9
    refine e_astore_n (dat d_F_clash 3 rfl) rfl (show 3 < 5 by decide) (lv2 := [(3, _), (0, _), (1, _), (2, _)]) rfl ?_
    refine e_aload_n (dat d_F_clash 4 rfl) 1 rfl rfl ?_
    refine e_iload_n (dat d_F_clash 5 rfl) 3 rfl rfl ?_
    refine q_call (t_F_existingRoute hW hC hE) c_F_existingRoute (dat d_F_clash 6 rfl) rfl k_263 rfl rfl (by decide) (by omega) rfl (show 0 ≤ 8 by decide) ⟨show 7 ≤ 7 by decide, show 201 ≤ 210 by decide⟩ ⟨show 2 ≤ 2 by decide, show 12 ≤ 12 by decide⟩ (fun v9 f9 h9 => ?_) (fun X9 h9 => ?_)
    · obtain ⟨e8, q, hq, rfl, rfl⟩ := h9
      subst f9
      refine e_astore (dat d_F_clash 7 rfl) (show 4 < 5 by decide) (lv2 := [(4, _), (3, _), (0, _), (1, _), (2, _)]) rfl ?_
      refine e_iload_n (dat d_F_clash 8 rfl) 3 rfl rfl ?_
      refine e_iload_n (dat d_F_clash 9 rfl) 4 rfl rfl ?_
      refine e_icmp_ne (dat d_F_clash 10 rfl) (tgt := 20) (by decide) (fun h15 => ?_) (fun h15 => ?_)
      · replace h15 : r ≠ q := fun h => h15 (by rw [h])
        refine e_aload_n (dat d_F_clash 13 rfl) 1 rfl rfl ?_
        refine s_gR (dat d_F_clash 14 rfl) 3 k_64 (by decide) rfl rfl (by omega) (cR3 hC (by omega)) ?_
        refine e_aload (dat d_F_clash 15 rfl) 0 rfl ?_
        refine s_gR (dat d_F_clash 16 rfl) 3 k_64 (by decide) rfl rfl (by omega) (cR3 hC (by omega)) ?_
        refine n_icmp_eq (dat d_F_clash 17 rfl) (tgt := 45) (by decide) (lt64 (hW.b _ _)) (lt64 (hW.b _ _)) (fun h29 => ?_) (fun h29 => ?_)
        · refine n_iconst (dat d_F_clash 24 rfl) 1 rfl ?_
          refine e_goto (dat d_F_clash 25 rfl) (tgt := 50) (by decide) ?_
          exact q_zret (dat d_F_clash 27 rfl) rfl (z01 (by decide)) (show 2 ≤ 2 by decide) (show 12 ≤ 12 by decide) ⟨if_neg (fun h => h.elim (no_ix hr (by omega)) (no_ix hq (by omega))), by rw [ix_nI (show r < 64 by omega), ix_nI (show q < 64 by omega)]; first | exact vr1 ⟨h15, Or.inl h29⟩ | exact vr1 ⟨h15, Or.inr h42⟩ | exact vr0 (fun h => h.2.elim h29 (fun h => h h42)), hC, kp.rf⟩
        · refine e_aload_n (dat d_F_clash 18 rfl) 1 rfl rfl ?_
          refine e_aload_n (dat d_F_clash 19 rfl) 1 rfl rfl ?_
          refine r_call (t_R_allUses (by omega) (cR2 hC hr) (hW.N hr)) c_R_allUses (dat d_F_clash 20 rfl) rfl k_476 rfl (kd_R _ (by omega)) (by decide) (by omega) rfl (show 1 ≤ 8 by decide) ⟨show 1 ≤ 7 by decide, show 20 ≤ 210 by decide⟩ ⟨show 2 ≤ 2 by decide, show 12 ≤ 12 by decide⟩ ?_
          refine e_aload (dat d_F_clash 21 rfl) 0 rfl ?_
          refine r_call (t_R_disagrees hW hC hr hq (bts_64 (fun _ => Nat.le_refl _) (hW.N hr))) c_R_disagrees (dat d_F_clash 22 rfl) rfl k_312 rfl (kd_R _ (by omega)) (by decide) (by omega) rfl (show 0 ≤ 8 by decide) ⟨show 2 ≤ 7 by decide, show 55 ≤ 210 by decide⟩ ⟨show 2 ≤ 2 by decide, show 12 ≤ 12 by decide⟩ ?_
          refine n_if_eq (dat d_F_clash 23 rfl) (tgt := 49) (by decide) if_lt0 (fun h42 => ?_) (fun h42 => ?_)
          · replace h42 := if_n0 h42
            refine n_iconst (dat d_F_clash 26 rfl) 0 rfl ?_
            exact q_zret (dat d_F_clash 27 rfl) rfl (z01 (by decide)) (show 2 ≤ 2 by decide) (show 12 ≤ 12 by decide) ⟨if_neg (fun h => h.elim (no_ix hr (by omega)) (no_ix hq (by omega))), by rw [ix_nI (show r < 64 by omega), ix_nI (show q < 64 by omega)]; first | exact vr1 ⟨h15, Or.inl h29⟩ | exact vr1 ⟨h15, Or.inr h42⟩ | exact vr0 (fun h => h.2.elim h29 (fun h => h h42)), hC, kp.rf⟩
          · replace h42 := if_p0 h42
            refine n_iconst (dat d_F_clash 24 rfl) 1 rfl ?_
            refine e_goto (dat d_F_clash 25 rfl) (tgt := 50) (by decide) ?_
            exact q_zret (dat d_F_clash 27 rfl) rfl (z01 (by decide)) (show 2 ≤ 2 by decide) (show 12 ≤ 12 by decide) ⟨if_neg (fun h => h.elim (no_ix hr (by omega)) (no_ix hq (by omega))), by rw [ix_nI (show r < 64 by omega), ix_nI (show q < 64 by omega)]; first | exact vr1 ⟨h15, Or.inl h29⟩ | exact vr1 ⟨h15, Or.inr h42⟩ | exact vr0 (fun h => h.2.elim h29 (fun h => h h42)), hC, kp.rf⟩
      · replace h15 : r = q := (nI_eq (by omega) (by omega)).mp h15
        refine n_iconst (dat d_F_clash 11 rfl) 0 rfl ?_
        exact q_zret (dat d_F_clash 12 rfl) rfl (z01 (by decide)) (show 2 ≤ 2 by decide) (show 12 ≤ 12 by decide) ⟨if_neg (fun h => h.elim (no_ix hr (by omega)) (no_ix hq (by omega))), by rw [ix_nI (show r < 64 by omega), ix_nI (show q < 64 by omega), claA, if_neg (fun h => h.1 h15)], hC, kp.rf⟩
    · exact q_out rfl (show 2 ≤ 2 by decide) (show 12 ≤ 12 by decide) (Or.inl ⟨if_pos (Or.inr h9.2), h9.1⟩)
  · exact q_out rfl (show 1 ≤ 2 by decide) (show 6 ≤ 12 by decide) (Or.inl ⟨if_pos (Or.inl h9.2), h9.1⟩)
theorem t_F_about {E : wE} {m : wM} {f : wF} {w : Int64} {x y : Int32} (hW : Wv m) (hC : Rc m f) (hE : (wl E).stackTraces = false) : Cq E i_F_about 7 2 12 [.ref (wB E + 0), .int x, .int y] f w (fun v9 f9 => (kAbt m x y) = 0 ∧ v9 = (some (.int (nI (abtA m (ix x) (ix y))))) ∧ Rc m f9 ∧ kp f f9) (fun X9 => ex3 (kAbt m x y) X9) := by
  have h12 := hW.S
  have h8 := hW.R
  refine cq_of rfl rfl rfl (show 3 ≤ 4 by decide) ?_
  refine e_aload_n (dat d_F_about 0 rfl) 0 rfl rfl ?_
  refine e_iload_n (dat d_F_about 1 rfl) 1 rfl rfl ?_
  refine q_call (t_F_existingRoute hW hC hE) c_F_existingRoute (dat d_F_about 2 rfl) rfl k_263 rfl rfl (by decide) (by omega) rfl (show 0 ≤ 8 by decide) ⟨show 7 ≤ 7 by decide, show 201 ≤ 210 by decide⟩ ⟨show 1 ≤ 2 by decide, show 6 ≤ 12 by decide⟩ (fun v9 f9 h9 => ?_) (fun X9 h9 => ?_)
  · obtain ⟨e8, r, hr, rfl, rfl⟩ := h9
    subst f9
    refine e_astore_n (dat d_F_about 3 rfl) rfl (show 3 < 4 by decide) (lv2 := [(3, _), (0, _), (1, _), (2, _)]) rfl ?_
    refine e_iload_n (dat d_F_about 4 rfl) 3 rfl rfl ?_
    rcases tab_cs (N := 4) (by decide) y with ⟨c, hc, rfl⟩ | ho
    · have hcc : c = 0 ∨ c = 1 ∨ c = 2 ∨ c = 3 ∨ c = 4 := by omega
      rcases hcc with rfl | rfl | rfl | rfl | rfl
      · refine e_tabIn (dat d_F_about 5 rfl) (off := 33) (tgt := 40) (by decide +kernel) (by decide +kernel) (by decide +kernel) (by decide) ?_
        refine e_aload_n (dat d_F_about 6 rfl) 0 rfl rfl ?_
        refine s_gR (dat d_F_about 7 rfl) 6 k_68 (by decide) rfl rfl (by omega) (cR6 hC (by omega)) ?_
        exact q_iret (dat d_F_about 8 rfl) rfl (show 1 ≤ 2 by decide) (show 6 ≤ 12 by decide) ⟨by rw [kAbt, if_neg (no_ix hr (by omega)), if_neg (by decide)], by rw [ix_nI (show r < 64 by omega), ix_nI (by decide)]; rfl, hC, kp.rf⟩
      · refine e_tabIn (dat d_F_about 5 rfl) (off := 38) (tgt := 45) (by decide +kernel) (by decide +kernel) (by decide +kernel) (by decide) ?_
        refine e_aload_n (dat d_F_about 9 rfl) 0 rfl rfl ?_
        refine s_gR (dat d_F_about 10 rfl) 7 k_71 (by decide) rfl rfl (by omega) (cR7 hC (by omega)) ?_
        exact q_iret (dat d_F_about 11 rfl) rfl (show 1 ≤ 2 by decide) (show 6 ≤ 12 by decide) ⟨by rw [kAbt, if_neg (no_ix hr (by omega)), if_neg (by decide)], by rw [ix_nI (show r < 64 by omega), ix_nI (by decide)]; rfl, hC, kp.rf⟩
      · refine e_tabIn (dat d_F_about 5 rfl) (off := 43) (tgt := 50) (by decide +kernel) (by decide +kernel) (by decide +kernel) (by decide) ?_
        refine e_aload_n (dat d_F_about 12 rfl) 0 rfl rfl ?_
        refine s_gR (dat d_F_about 13 rfl) 8 k_72 (by decide) rfl rfl (by omega) (cR8 hC (by omega)) ?_
        refine n_if_eq (dat d_F_about 14 rfl) (tgt := 61) (by decide) (lt64 (hW.b _ _)) (fun h54 => ?_) (fun h54 => ?_)
        · refine n_iconst (dat d_F_about 17 rfl) 0 rfl ?_
          exact q_iret (dat d_F_about 18 rfl) rfl (show 1 ≤ 2 by decide) (show 6 ≤ 12 by decide) ⟨by rw [kAbt, if_neg (no_ix hr (by omega)), if_neg (by decide)], by rw [ix_nI (show r < 64 by omega), ix_nI (by decide)]; show _ = some (Value.int (nI (m 50 r))); first | rw [h54] | rw [show m 50 r = 1 by have := (hW.o r).2.2.2.1; omega], hC, kp.rf⟩
        · refine n_iconst (dat d_F_about 15 rfl) 1 rfl ?_
          refine e_goto (dat d_F_about 16 rfl) (tgt := 62) (by decide) ?_
          exact q_iret (dat d_F_about 18 rfl) rfl (show 1 ≤ 2 by decide) (show 6 ≤ 12 by decide) ⟨by rw [kAbt, if_neg (no_ix hr (by omega)), if_neg (by decide)], by rw [ix_nI (show r < 64 by omega), ix_nI (by decide)]; show _ = some (Value.int (nI (m 50 r))); first | rw [h54] | rw [show m 50 r = 1 by have := (hW.o r).2.2.2.1; omega], hC, kp.rf⟩
      · refine e_tabIn (dat d_F_about 5 rfl) (off := 56) (tgt := 63) (by decide +kernel) (by decide +kernel) (by decide +kernel) (by decide) ?_
        refine e_aload_n (dat d_F_about 19 rfl) 0 rfl rfl ?_
        refine s_gR (dat d_F_about 20 rfl) 9 k_75 (by decide) rfl rfl (by omega) (cR9 hC (by omega)) ?_
        exact q_iret (dat d_F_about 21 rfl) rfl (show 1 ≤ 2 by decide) (show 6 ≤ 12 by decide) ⟨by rw [kAbt, if_neg (no_ix hr (by omega)), if_neg (by decide)], by rw [ix_nI (show r < 64 by omega), ix_nI (by decide)]; rfl, hC, kp.rf⟩
      · refine e_tabIn (dat d_F_about 5 rfl) (off := 61) (tgt := 68) (by decide +kernel) (by decide +kernel) (by decide +kernel) (by decide) ?_
        refine e_aload_n (dat d_F_about 22 rfl) 0 rfl rfl ?_
        refine s_gR (dat d_F_about 23 rfl) 10 k_77 (by decide) rfl rfl (by omega) (cR10 hC (by omega)) ?_
        exact q_iret (dat d_F_about 24 rfl) rfl (show 1 ≤ 2 by decide) (show 6 ≤ 12 by decide) ⟨by rw [kAbt, if_neg (no_ix hr (by omega)), if_neg (by decide)], by rw [ix_nI (show r < 64 by omega), ix_nI (by decide)]; rfl, hC, kp.rf⟩
    · refine e_tabOut (dat d_F_about 5 rfl) ho (tgt := 73) (by decide) ?_
      exact q_throw th_53 hE (is := 176) (text := "what is not 0 .. 4") (by decide +kernel) rfl (dat d_F_about 25 rfl) (dat d_F_about 26 rfl) (dat d_F_about 27 rfl) (dat d_F_about 28 rfl) (dat d_F_about 29 rfl) rfl (show 5 < 7 by decide) (show 0 + 82 ≤ 210 by decide) (show 2 ≤ 2 by decide) (show 12 ≤ 12 by decide) (Or.inr (Or.inl ⟨by rw [kAbt, if_neg (no_ix hr (by omega)), if_pos (show y.toInt < 0 ∨ 4 < y.toInt from ho)], rfl⟩))
  · exact q_out rfl (show 1 ≤ 2 by decide) (show 6 ≤ 12 by decide) (Or.inl ⟨if_pos h9.2, h9.1⟩)
theorem t_F_track {E : wE} {m : wM} {f : wF} {w : Int64} {x y : Int32} (hW : Wv m) (hC : Rc m f) (hE : (wl E).stackTraces = false) : Cq E i_F_track 7 2 12 [.ref (wB E + 0), .int x, .int y] f w (fun v9 f9 => (kTrk m x y) = 0 ∧ (∃ t, v9 = some (.int t) ∧ trkR m (ix x) (ix y) t) ∧ Rc m f9 ∧ kp f f9) (fun X9 => ex3 (kTrk m x y) X9) := by
  have h12 := hW.S
  have h8 := hW.R
  refine cq_of rfl rfl rfl (show 3 ≤ 4 by decide) ?_
  refine e_aload_n (dat d_F_track 0 rfl) 0 rfl rfl ?_
  refine e_iload_n (dat d_F_track 1 rfl) 1 rfl rfl ?_
  refine q_call (t_F_existingSection hW hC hE) c_F_existingSection (dat d_F_track 2 rfl) rfl k_268 rfl rfl (by decide) (by omega) rfl (show 0 ≤ 8 by decide) ⟨show 7 ≤ 7 by decide, show 201 ≤ 210 by decide⟩ ⟨show 1 ≤ 2 by decide, show 6 ≤ 12 by decide⟩ (fun v9 f9 h9 => ?_) (fun X9 h9 => ?_)
  · obtain ⟨e8, i, hi, rfl, rfl⟩ := h9
    subst f9
    refine e_astore_n (dat d_F_track 3 rfl) rfl (show 3 < 4 by decide) (lv2 := [(3, _), (0, _), (1, _), (2, _)]) rfl ?_
    refine e_iload_n (dat d_F_track 4 rfl) 3 rfl rfl ?_
    rcases tab_cs (N := 6) (by decide) y with ⟨c, hc, rfl⟩ | ho
    · have hcc : c = 0 ∨ c = 1 ∨ c = 2 ∨ c = 3 ∨ c = 4 ∨ c = 5 ∨ c = 6 := by omega
      rcases hcc with rfl | rfl | rfl | rfl | rfl | rfl | rfl
      · refine e_tabIn (dat d_F_track 5 rfl) (off := 41) (tgt := 48) (by decide +kernel) (by decide +kernel) (by decide +kernel) (by decide) ?_
        refine e_aload_n (dat d_F_track 6 rfl) 0 rfl rfl ?_
        refine s_gS (dat d_F_track 7 rfl) 1 k_29 (by decide) rfl rfl (by omega) (cS1 hC (by omega)) ?_
        refine n_if_eq (dat d_F_track 8 rfl) (tgt := 59) (by decide) (lt64 (hW.b _ _)) (fun h52 => ?_) (fun h52 => ?_)
        · refine n_iconst (dat d_F_track 11 rfl) 0 rfl ?_
          exact q_iret (dat d_F_track 12 rfl) rfl (show 1 ≤ 2 by decide) (show 6 ≤ 12 by decide) ⟨by rw [kTrk, if_neg (no_ix hi (by omega)), if_neg (by decide)], ⟨_, rfl, by rw [ix_nI (show i < 64 by omega), ix_nI (by decide)]; exact ⟨fun _ => (by first | rw [h52] | rw [show m 41 i = 1 by have := (hW.o i).2.1; omega]), fun h => absurd h (by decide), fun h => absurd h (by decide), fun h => absurd h (by decide), fun h => absurd h (by decide), fun h => absurd h (by decide), fun h => absurd h (by decide)⟩⟩, hC, kp.rf⟩
        · refine n_iconst (dat d_F_track 9 rfl) 1 rfl ?_
          refine e_goto (dat d_F_track 10 rfl) (tgt := 60) (by decide) ?_
          exact q_iret (dat d_F_track 12 rfl) rfl (show 1 ≤ 2 by decide) (show 6 ≤ 12 by decide) ⟨by rw [kTrk, if_neg (no_ix hi (by omega)), if_neg (by decide)], ⟨_, rfl, by rw [ix_nI (show i < 64 by omega), ix_nI (by decide)]; exact ⟨fun _ => (by first | rw [h52] | rw [show m 41 i = 1 by have := (hW.o i).2.1; omega]), fun h => absurd h (by decide), fun h => absurd h (by decide), fun h => absurd h (by decide), fun h => absurd h (by decide), fun h => absurd h (by decide), fun h => absurd h (by decide)⟩⟩, hC, kp.rf⟩
      · refine e_tabIn (dat d_F_track 5 rfl) (off := 54) (tgt := 61) (by decide +kernel) (by decide +kernel) (by decide +kernel) (by decide) ?_
        refine e_aload_n (dat d_F_track 13 rfl) 1 rfl rfl ?_
        refine e_iload_n (dat d_F_track 14 rfl) 2 rfl rfl ?_
        refine q_call (t_F_holderOfPass hW hC (by omega)) c_F_holderOfPass (dat d_F_track 15 rfl) rfl k_425 rfl rfl (by decide) (by omega) rfl (show 0 ≤ 8 by decide) ⟨show 2 ≤ 7 by decide, show 53 ≤ 210 by decide⟩ ⟨show 1 ≤ 2 by decide, show 6 ≤ 12 by decide⟩ (fun v9 f9 h9 => ?_) (fun X9 h9 => h9.elim)
        obtain ⟨e8, hq0⟩ := h9
        subst f9
        obtain ⟨t, rfl, hq⟩ : ∃ t, v9 = some (.int t) ∧ ((∃ r, r < m 39 7 ∧ pasP m i r ∧ t = nI r) ∨ ((∀ r, r < m 39 7 → ¬ pasP m i r) ∧ t = -1)) := by
          rcases hq0 with ⟨r, h1, h2, rfl⟩ | ⟨h1, rfl⟩
          · exact ⟨_, rfl, Or.inl ⟨r, h1, h2, rfl⟩⟩
          · exact ⟨_, rfl, Or.inr ⟨h1, rfl⟩⟩
        exact q_iret (dat d_F_track 16 rfl) rfl (show 1 ≤ 2 by decide) (show 6 ≤ 12 by decide) ⟨by rw [kTrk, if_neg (no_ix hi (by omega)), if_neg (by decide)], ⟨_, rfl, by rw [ix_nI (show i < 64 by omega), ix_nI (by decide)]; exact ⟨fun h => absurd h (by decide), fun _ => hq, fun h => absurd h (by decide), fun h => absurd h (by decide), fun h => absurd h (by decide), fun h => absurd h (by decide), fun h => absurd h (by decide)⟩⟩, hC, kp.rf⟩
      · refine e_tabIn (dat d_F_track 5 rfl) (off := 60) (tgt := 67) (by decide +kernel) (by decide +kernel) (by decide +kernel) (by decide) ?_
        refine e_aload_n (dat d_F_track 17 rfl) 1 rfl rfl ?_
        refine e_iload_n (dat d_F_track 18 rfl) 2 rfl rfl ?_
        refine r_call (t_F_holdersOfFlank hW hC (by omega)) c_F_holdersOfFlank (dat d_F_track 19 rfl) rfl k_429 rfl rfl (by decide) (by omega) rfl (show 0 ≤ 8 by decide) ⟨show 2 ≤ 7 by decide, show 54 ≤ 210 by decide⟩ ⟨show 1 ≤ 2 by decide, show 6 ≤ 12 by decide⟩ ?_
        exact q_iret (dat d_F_track 20 rfl) rfl (show 1 ≤ 2 by decide) (show 6 ≤ 12 by decide) ⟨by rw [kTrk, if_neg (no_ix hi (by omega)), if_neg (by decide)], ⟨_, rfl, by rw [ix_nI (show i < 64 by omega), ix_nI (by decide)]; exact ⟨fun h => absurd h (by decide), fun h => absurd h (by decide), fun _ => rfl, fun h => absurd h (by decide), fun h => absurd h (by decide), fun h => absurd h (by decide), fun h => absurd h (by decide)⟩⟩, hC, kp.rf⟩
      · refine e_tabIn (dat d_F_track 5 rfl) (off := 66) (tgt := 73) (by decide +kernel) (by decide +kernel) (by decide +kernel) (by decide) ?_
        refine e_aload_n (dat d_F_track 21 rfl) 0 rfl rfl ?_
        refine s_gS (dat d_F_track 22 rfl) 3 k_33 (by decide) rfl rfl (by omega) (cS3 hC (by omega)) ?_
        exact q_iret (dat d_F_track 23 rfl) rfl (show 1 ≤ 2 by decide) (show 6 ≤ 12 by decide) ⟨by rw [kTrk, if_neg (no_ix hi (by omega)), if_neg (by decide)], ⟨_, rfl, by rw [ix_nI (show i < 64 by omega), ix_nI (by decide)]; exact ⟨fun h => absurd h (by decide), fun h => absurd h (by decide), fun h => absurd h (by decide), fun _ => rfl, fun h => absurd h (by decide), fun h => absurd h (by decide), fun h => absurd h (by decide)⟩⟩, hC, kp.rf⟩
      · refine e_tabIn (dat d_F_track 5 rfl) (off := 71) (tgt := 78) (by decide +kernel) (by decide +kernel) (by decide +kernel) (by decide) ?_
        refine e_aload_n (dat d_F_track 24 rfl) 0 rfl rfl ?_
        refine s_gS (dat d_F_track 25 rfl) 4 k_35 (by decide) rfl rfl (by omega) (cS4 hC (by omega)) ?_
        exact q_iret (dat d_F_track 26 rfl) rfl (show 1 ≤ 2 by decide) (show 6 ≤ 12 by decide) ⟨by rw [kTrk, if_neg (no_ix hi (by omega)), if_neg (by decide)], ⟨_, rfl, by rw [ix_nI (show i < 64 by omega), ix_nI (by decide)]; exact ⟨fun h => absurd h (by decide), fun h => absurd h (by decide), fun h => absurd h (by decide), fun h => absurd h (by decide), fun _ => rfl, fun h => absurd h (by decide), fun h => absurd h (by decide)⟩⟩, hC, kp.rf⟩
      · refine e_tabIn (dat d_F_track 5 rfl) (off := 76) (tgt := 83) (by decide +kernel) (by decide +kernel) (by decide +kernel) (by decide) ?_
        refine e_aload_n (dat d_F_track 27 rfl) 0 rfl rfl ?_
        refine s_gS (dat d_F_track 28 rfl) 5 k_37 (by decide) rfl rfl (by omega) (cS5 hC (by omega)) ?_
        exact q_iret (dat d_F_track 29 rfl) rfl (show 1 ≤ 2 by decide) (show 6 ≤ 12 by decide) ⟨by rw [kTrk, if_neg (no_ix hi (by omega)), if_neg (by decide)], ⟨_, rfl, by rw [ix_nI (show i < 64 by omega), ix_nI (by decide)]; exact ⟨fun h => absurd h (by decide), fun h => absurd h (by decide), fun h => absurd h (by decide), fun h => absurd h (by decide), fun h => absurd h (by decide), fun _ => rfl, fun h => absurd h (by decide)⟩⟩, hC, kp.rf⟩
      · refine e_tabIn (dat d_F_track 5 rfl) (off := 81) (tgt := 88) (by decide +kernel) (by decide +kernel) (by decide +kernel) (by decide) ?_
        refine e_aload_n (dat d_F_track 30 rfl) 0 rfl rfl ?_
        refine s_gS (dat d_F_track 31 rfl) 2 k_31 (by decide) rfl rfl (by omega) (cS2 hC (by omega)) ?_
        refine n_if_eq (dat d_F_track 32 rfl) (tgt := 99) (by decide) (lt64 (hW.b _ _)) (fun h92 => ?_) (fun h92 => ?_)
        · refine n_iconst (dat d_F_track 35 rfl) 0 rfl ?_
          exact q_iret (dat d_F_track 36 rfl) rfl (show 1 ≤ 2 by decide) (show 6 ≤ 12 by decide) ⟨by rw [kTrk, if_neg (no_ix hi (by omega)), if_neg (by decide)], ⟨_, rfl, by rw [ix_nI (show i < 64 by omega), ix_nI (by decide)]; exact ⟨fun h => absurd h (by decide), fun h => absurd h (by decide), fun h => absurd h (by decide), fun h => absurd h (by decide), fun h => absurd h (by decide), fun h => absurd h (by decide), fun _ => (by first | rw [h92] | rw [show m 44 i = 1 by have := (hW.o i).2.2.1; omega])⟩⟩, hC, kp.rf⟩
        · refine n_iconst (dat d_F_track 33 rfl) 1 rfl ?_
          refine e_goto (dat d_F_track 34 rfl) (tgt := 100) (by decide) ?_
          exact q_iret (dat d_F_track 36 rfl) rfl (show 1 ≤ 2 by decide) (show 6 ≤ 12 by decide) ⟨by rw [kTrk, if_neg (no_ix hi (by omega)), if_neg (by decide)], ⟨_, rfl, by rw [ix_nI (show i < 64 by omega), ix_nI (by decide)]; exact ⟨fun h => absurd h (by decide), fun h => absurd h (by decide), fun h => absurd h (by decide), fun h => absurd h (by decide), fun h => absurd h (by decide), fun h => absurd h (by decide), fun _ => (by first | rw [h92] | rw [show m 44 i = 1 by have := (hW.o i).2.2.1; omega])⟩⟩, hC, kp.rf⟩
    · refine e_tabOut (dat d_F_track 5 rfl) ho (tgt := 101) (by decide) ?_
      exact q_throw th_53 hE (is := 193) (text := "what is not 0 .. 6") (by decide +kernel) rfl (dat d_F_track 37 rfl) (dat d_F_track 38 rfl) (dat d_F_track 39 rfl) (dat d_F_track 40 rfl) (dat d_F_track 41 rfl) rfl (show 5 < 7 by decide) (show 0 + 82 ≤ 210 by decide) (show 2 ≤ 2 by decide) (show 12 ≤ 12 by decide) (Or.inr (Or.inl ⟨by rw [kTrk, if_neg (no_ix hi (by omega)), if_pos (show y.toInt < 0 ∨ 6 < y.toInt from ho)], rfl⟩))
  · exact q_out rfl (show 1 ≤ 2 by decide) (show 6 ≤ 12 by decide) (Or.inl ⟨if_pos h9.2, h9.1⟩)
