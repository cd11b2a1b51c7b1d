noncomputable def rqA (m : wM) (r : Nat) : Nat := @ite Nat (m 48 r ≠ 0 ∨ ∀ z, z < m 51 r → ¬ m 53 (6 * r + z) < 3) (Classical.propDecidable _) 1 (@ite Nat (¬ ∀ z, z < m 39 7 → barU m r z) (Classical.propDecidable _) 2 (@ite Nat (¬ ∀ z, z < m 51 r → ¬ (m 53 (6 * r + z) < 3 ∧ m 41 (m 52 (6 * r + z)) ≠ 0)) (Classical.propDecidable _) 3 (@ite Nat (¬ ∀ z, z < m 51 r → ¬ (m 53 (6 * r + z) ≠ 0 ∧ nI (m 42 (m 52 (6 * r + z))) ≠ posI (m 53 (6 * r + z)) ∧ m 41 (m 52 (6 * r + z)) ≠ 0)) (Classical.propDecidable _) 4 0)))
noncomputable def rqM (m : wM) (r : Nat) : wM := @ite wM (rqA m r = 0) (Classical.propDecidable _) (look (stN m r (m 51 r))) m
theorem wv_u54 {m : wM} {b v : Nat} (h : Wv m) (hv : v ≤ 1) : Wv (um m 54 b v) := by
  refine wv_k h (fun a b h9 => ?_) (fun a b => ?_) (fun b => ?_)
  · unfold um
    rw [if_neg (by omega)]
  · unfold um
    split
    · omega
    · exact h.b a b
  · have := h.o b
    unfold um
    refine ⟨?_, ?_, ?_, ?_, ?_, ?_⟩ <;> simp <;> (repeat' split) <;> omega
theorem wv_u55 {m : wM} {b v : Nat} (h : Wv m) (hv : v ≤ 1) : Wv (um m 55 b v) := by
  refine wv_k h (fun a b h9 => ?_) (fun a b => ?_) (fun b => ?_)
  · unfold um
    rw [if_neg (by omega)]
  · unfold um
    split
    · omega
    · exact h.b a b
  · have := h.o b
    unfold um
    refine ⟨?_, ?_, ?_, ?_, ?_, ?_⟩ <;> simp <;> (repeat' split) <;> omega
theorem wv_st {m : wM} {r : Nat} (h : Wv m) (K : Nat) : Wv (stN m r K) := by
  have h64 := wnN_64 (r := r) h.b K
  refine wv_k h (fun a b h9 => ?_) (fun a b => ?_) (fun b => ?_)
  · unfold stN
    rw [if_neg (by omega), if_neg (by omega), if_neg (by omega), wnN_o (by omega) (by omega)]
  · unfold stN
    repeat' split
    all_goals first | exact h64 _ _ | decide
  · have := h.o b
    have w40 : wnN m r K 40 b = m 40 b := wnN_o (by decide) (by decide) K
    have w41 : wnN m r K 41 b = m 41 b := wnN_o (by decide) (by decide) K
    have w44 : wnN m r K 44 b = m 44 b := wnN_o (by decide) (by decide) K
    have w50 : wnN m r K 50 b = m 50 b := wnN_o (by decide) (by decide) K
    have w54 : wnN m r K 54 b = m 54 b := wnN_o (by decide) (by decide) K
    have w55 : wnN m r K 55 b = m 55 b := wnN_o (by decide) (by decide) K
    unfold stN
    refine ⟨?_, ?_, ?_, ?_, ?_, ?_⟩ <;> simp <;> (repeat' split) <;> omega
theorem st_0 {m : wM} {r : Nat} : um m 48 r 1 = stN m r 0 := by
  funext a b
  unfold um stN
  by_cases h : a = 48 ∧ b = r
  · rw [if_pos h, if_pos h]
  · rw [if_neg h, if_neg h, if_neg (by omega), if_neg (by omega)]
    rfl
theorem st_g {m : wM} {r k : Nat} {X Y : wM} (h : ∀ a b, a = 42 ∨ a = 43 → Y a b = X a b) (ho : ∀ a b, a ≠ 42 → a ≠ 43 → Y a b = m a b) (hX : ∀ a b, a ≠ 42 → a ≠ 43 → X a b = m a b) : Y = X := by
  funext a b
  by_cases h1 : a = 42 ∨ a = 43
  · exact h a b h1
  · rw [ho a b (by omega) (by omega), hX a b (by omega) (by omega)]
theorem st_b {m : wM} {r k : Nat} : um (um (stN m r k) 54 (6 * r + k) 1) 55 (6 * r + k) 0 = fun a b => if a = 48 ∧ b = r then 1 else if a = 54 ∧ 6 * r ≤ b ∧ b < 6 * r + (k + 1) then 1 else if a = 55 ∧ 6 * r ≤ b ∧ b < 6 * r + (k + 1) then 0 else wnN m r k a b := by
  funext a b
  unfold um stN
  by_cases hb : b = 6 * r + k
  · subst hb
    by_cases h4 : a = 54
    · subst h4
      simp
    · by_cases h5 : a = 55
      · subst h5
        simp
      · simp [h4, h5]
  · have e : (b < 6 * r + (k + 1)) ↔ (b < 6 * r + k) := by omega
    simp only [e, hb, and_false, if_false]
theorem st_z {m : wM} {r k : Nat} (h : m 53 (6 * r + k) = 0) : um (um (stN m r k) 54 (6 * r + k) 1) 55 (6 * r + k) 0 = stN m r (k + 1) := by
  rw [st_b]
  have e : wnN m r (k + 1) = wnN m r k := by
    show wnU (wnN m r k) (6 * r + k) = wnN m r k
    rw [wnU, if_pos (by rw [wnN_o (by decide) (by decide)]; exact h)]
  funext a b
  unfold stN
  rw [e]
theorem st_1 {m : wM} {r k : Nat} (h : m 53 (6 * r + k) ≠ 0) : wnt (um (um (stN m r k) 54 (6 * r + k) 1) 55 (6 * r + k) 0) (m 52 (6 * r + k)) (psn (m 53 (6 * r + k))) = stN m r (k + 1) := by
  rw [st_b]
  have e : wnN m r (k + 1) = wnt (wnN m r k) (m 52 (6 * r + k)) (psn (m 53 (6 * r + k))) := by
    show wnU (wnN m r k) (6 * r + k) = _
    have e53 : wnN m r k 53 (6 * r + k) = m 53 (6 * r + k) := wnN_o (by decide) (by decide) k
    have e52 : wnN m r k 52 (6 * r + k) = m 52 (6 * r + k) := wnN_o (by decide) (by decide) k
    rw [wnU, e53, e52, if_neg h]
  funext a b
  unfold stN
  rw [e]
  generalize wnN m r k = M
  unfold wnt
  by_cases h1 : M 42 (m 52 (6 * r + k)) = psn (m 53 (6 * r + k))
  · simp [h1]
  · simp [h1]
    by_cases h48 : a = 48
    · simp [h48]
    · by_cases h54 : a = 54
      · simp [h54]
      · by_cases h55 : a = 55
        · simp [h55]
        · simp [h48, h54, h55]
theorem t_M_request {E : wE} {m : wM} {f : wF} {w : Int64} {x : Int32} (hW : Wv m) (hm : Rm m f)  : Cq E i_M_request 3 0 0 [.ref (wB E + 39), .int x] f w (MO f (kR1 m x) m (rqM m (ix x)) (nI (rqA m (ix x)))) (fun _ => False) := by
  have hm0 := hm
  have h12 := hW.S
  have h8 := hW.R
  replace hm := Rf.of hm
  refine cq_of rfl rfl rfl (show 2 ≤ 7 by decide) ?_
  refine e_aload_n (dat d_M_request 0 rfl) 0 rfl rfl ?_
  refine e_aload_n (dat d_M_request 1 rfl) 0 rfl rfl ?_
  refine e_iload_n (dat d_M_request 2 rfl) 1 rfl rfl ?_
  refine r_call (t_M_noRoute hW hm0) c_M_noRoute (dat d_M_request 3 rfl) rfl k_586 rfl rfl (by decide) (by omega) rfl (show 1 ≤ 8 by decide) ⟨show 1 ≤ 3 by decide, show 21 ≤ 90 by decide⟩ ⟨show 0 ≤ 0 by decide, show 0 ≤ 0 by decide⟩ ?_
  refine n_if_eq (dat d_M_request 4 rfl) (tgt := 13) (by decide) if_lt (fun h6 => ?_) (fun h6 => ?_)
  · replace h6 := if_n h6
    obtain ⟨r, hr, rfl⟩ := ix_of (x := x) (N := m 39 7) (by omega) h6
    have hx := ix_nI (show r < 64 by omega)
    have h6r := hW.N hr
    have hk0 : kR1 m (nI r) = 0 := if_neg h6
    refine n_iconst (dat d_M_request 7 rfl) 0 rfl ?_
    refine m_p0 (dat d_M_request 8 rfl) k_499 hm (fun hm => ?_)
    refine e_aload_n (dat d_M_request 9 rfl) 0 rfl rfl ?_
    refine s_gM (dat d_M_request 10 rfl) 0 k_499 (by decide) rfl rfl up2_eq ?_
    refine n_if_le (dat d_M_request 11 rfl) (tgt := 26) (by decide) (by omega) (fun h21 => ?_) (fun h21 => ?_)
    · refine n_iconst (dat d_M_request 14 rfl) 0 rfl ?_
      refine e_istore_n (dat d_M_request 15 rfl) rfl (show 2 < 7 by decide) (lv2 := [(2, _), (0, _), (1, _)]) rfl ?_
      refine n_iconst (dat d_M_request 16 rfl) 0 rfl ?_
      refine e_istore_n (dat d_M_request 17 rfl) rfl (show 3 < 7 by decide) (lv2 := [(3, _), (2, _), (0, _), (1, _)]) rfl ?_
      refine n_iconst (dat d_M_request 18 rfl) 0 rfl ?_
      refine e_istore (dat d_M_request 19 rfl) (show 4 < 7 by decide) (lv2 := [(4, _), (3, _), (2, _), (0, _), (1, _)]) rfl ?_
      refine n_bipush (dat d_M_request 20 rfl) 6 rfl ?_
      refine e_iload_n (dat d_M_request 21 rfl) 4 rfl rfl ?_
      refine n_imul (dat d_M_request 22 rfl) ?_
      refine e_istore (dat d_M_request 23 rfl) (show 5 < 7 by decide) (lv2 := [(5, _), (4, _), (3, _), (2, _), (0, _), (1, _)]) rfl ?_
      have L : ∀ k, k ≤ m 51 r → ∀ c1 c2 c3, c1 ≤ 1 → c2 ≤ 1 → c3 ≤ 1 → (c1 = 0 ↔ ∀ z, z < k → ¬ m 53 (6 * r + z) < 3) → (c2 = 0 ↔ ∀ z, z < k → ¬ (m 53 (6 * r + z) < 3 ∧ m 41 (m 52 (6 * r + z)) ≠ 0)) → (c3 = 0 ↔ ∀ z, z < k → ¬ (m 53 (6 * r + z) ≠ 0 ∧ nI (m 42 (m 52 (6 * r + z))) ≠ posI (m 53 (6 * r + z)) ∧ m 41 (m 52 (6 * r + z)) ≠ 0)) → Ev E (jq E i_M_request 3 0 0 f w (MO f (kR1 m (nI r)) m (rqM m (ix (nI r))) (nI (rqA m (ix (nI r))))) (fun _ => False)) 0 0 39 [(5, .int (nI (6 * r + k))), (4, .int (nI c3)), (3, .int (nI c2)), (2, .int (nI c1)), (0, .ref (wB E + 39)), (1, .int (nI r))] [] (up2 f 39 0 (nI 0)) g0 w 57 := by
        apply lp_ind
        intro k hk ih c1 c2 c3 hc1 hc2 hc3 hI1 hI2 hI3
        refine e_iload (dat d_M_request 24 rfl) 0 rfl ?_
        refine n_bipush (dat d_M_request 25 rfl) 6 rfl ?_
        refine e_iload_n (dat d_M_request 26 rfl) 5 rfl rfl ?_
        refine n_imul (dat d_M_request 27 rfl) ?_
        refine e_aload_n (dat d_M_request 28 rfl) 4 rfl rfl ?_
        refine s_qM (t := 51) (dat d_M_request 29 rfl) 14 k_513 (by decide) rfl rfl rfl ?_
        refine e_iload_n (dat d_M_request 30 rfl) 5 rfl rfl ?_
        refine s_ild (N := 8) (dat d_M_request 31 rfl) rfl (by decide) rfl rfl (by omega) (rmf hm (by decide)) ?_
        refine n_iadd (dat d_M_request 32 rfl) ?_
        refine n_icmp_ge (dat d_M_request 33 rfl) (tgt := 178) (by decide) (by have := hW.b 51 r; omega) (by have := hW.b 51 r; omega) (fun h52 => ?_) (fun h52 => ?_)
        · refine e_aload_n (dat d_M_request 96 rfl) 4 rfl rfl ?_
          refine s_qM (t := 48) (dat d_M_request 97 rfl) 11 k_510 (by decide) rfl rfl rfl ?_
          refine e_iload_n (dat d_M_request 98 rfl) 5 rfl rfl ?_
          refine s_ild (N := 8) (dat d_M_request 99 rfl) rfl (by decide) rfl rfl (by omega) (rmf hm (by decide)) ?_
          refine n_if_ne (dat d_M_request 100 rfl) (tgt := 191) (by decide) (lt64 (hW.b _ _)) (fun h184 => ?_) (fun h184 => ?_)
          · refine n_iconst (dat d_M_request 103 rfl) 1 rfl ?_
            refine e_goto (dat d_M_request 104 rfl) (tgt := 225) (by decide) ?_
            refine e_istore (dat d_M_request 120 rfl) (show 5 < 7 by decide) (lv2 := [(5, _), (4, _), (3, _), (2, _), (0, _), (1, _)]) rfl ?_
            refine e_iload (dat d_M_request 121 rfl) 0 rfl ?_
            refine n_if_le (dat d_M_request 122 rfl) (tgt := 235) (by decide) (by omega) (fun h229 => ?_) (fun h229 => ?_)
            · first | exact absurd rfl h229 | exact absurd h229 (by decide)
            · refine e_iload (dat d_M_request 123 rfl) 0 rfl ?_
              have hqa : rqA m r = 1 := by
                rw [rqA, if_pos (by first | exact Or.inl h184 | exact Or.inr (fun z hz => hI1.mp h188 z (by omega)))]
              exact q_iret (dat d_M_request 124 rfl) rfl (show 0 ≤ 0 by decide) (show 0 ≤ 0 by decide) (mo_r (by rw [hx, rqM, if_neg (by omega)]; exact hm.1) hm.2 up2_eq fr8.rf.p0 hk0 (by rw [hx, hqa]))
          · refine e_iload_n (dat d_M_request 101 rfl) 3 rfl rfl ?_
            refine n_if_ne (dat d_M_request 102 rfl) (tgt := 195) (by decide) (by omega) (fun h188 => ?_) (fun h188 => ?_)
            · refine e_aload_n (dat d_M_request 105 rfl) 4 rfl rfl ?_
              refine e_iload_n (dat d_M_request 106 rfl) 5 rfl rfl ?_
              refine r_call (t_M_barred hW hm.1 hr) c_M_barred (dat d_M_request 107 rfl) rfl k_612 rfl rfl (by decide) (by omega) rfl (show 0 ≤ 8 by decide) ⟨show 3 ≤ 3 by decide, show 84 ≤ 90 by decide⟩ ⟨show 0 ≤ 0 by decide, show 0 ≤ 0 by decide⟩ ?_
              refine n_if_eq (dat d_M_request 108 rfl) (tgt := 207) (by decide) if_lt0 (fun h200 => ?_) (fun h200 => ?_)
              · replace h200 := if_n0 h200
                refine e_iload_n (dat d_M_request 111 rfl) 2 rfl rfl ?_
                refine n_if_eq (dat d_M_request 112 rfl) (tgt := 215) (by decide) (by omega) (fun h208 => ?_) (fun h208 => ?_)
                · refine e_iload (dat d_M_request 115 rfl) 1 rfl ?_
                  refine n_if_eq (dat d_M_request 116 rfl) (tgt := 224) (by decide) (by omega) (fun h217 => ?_) (fun h217 => ?_)
                  · refine n_iconst (dat d_M_request 119 rfl) 0 rfl ?_
                    refine e_istore (dat d_M_request 120 rfl) (show 5 < 7 by decide) (lv2 := [(5, _), (4, _), (3, _), (2, _), (0, _), (1, _)]) rfl ?_
                    refine e_iload (dat d_M_request 121 rfl) 0 rfl ?_
                    refine n_if_le (dat d_M_request 122 rfl) (tgt := 235) (by decide) (by omega) (fun h229 => ?_) (fun h229 => ?_)
                    · refine e_aload_n (dat d_M_request 125 rfl) 4 rfl rfl ?_
                      refine s_qM (t := 48) (dat d_M_request 126 rfl) 11 k_510 (by decide) rfl rfl rfl ?_
                      refine e_iload_n (dat d_M_request 127 rfl) 5 rfl rfl ?_
                      refine n_iconst (dat d_M_request 128 rfl) 1 rfl ?_
                      refine m_ist (N := 8) (dat d_M_request 129 rfl) rfl (by decide) rfl rfl (by omega) (by decide) hm (fun hm => ?_)
                      refine n_bipush (dat d_M_request 130 rfl) 6 rfl ?_
                      refine e_iload_n (dat d_M_request 131 rfl) 5 rfl rfl ?_
                      refine n_imul (dat d_M_request 132 rfl) ?_
                      refine e_istore (dat d_M_request 133 rfl) (show 6 < 7 by decide) (lv2 := [(6, _), (5, _), (4, _), (3, _), (2, _), (0, _), (1, _)]) rfl ?_
                      have hq0 : rqA m r = 0 := by
                        rw [rqA, if_neg (fun h => h.elim (fun h => h h184) (fun h => h188 (hI1.mpr (fun z hz => h z (by omega))))), if_neg (fun h => h h200), if_neg (fun h => h (fun z hz => hI2.mp h208 z (by omega))), if_neg (fun h => h (fun z hz => hI3.mp h217 z (by omega)))]
                      have L4 : ∀ k, k ≤ m 51 r → ∀ f1, Rf (stN m r k) (up2 f 39 0 (nI 0)) f1 → Ev E (jq E i_M_request 3 0 0 f w (MO f (kR1 m (nI r)) m (rqM m (ix (nI r))) (nI (rqA m (ix (nI r))))) (fun _ => False)) 0 0 248 [(6, .int (nI (6 * r + k))), (0, .ref (wB E + 39)), (1, .int (nI r))] [] f1 g0 w 57 := by
                        apply lp_ind
                        intro k hk ih f1 hm
                        have eo : ∀ a b, a ≠ 48 → a ≠ 54 → a ≠ 55 → a ≠ 42 → a ≠ 43 → stN m r k a b = m a b := fun a b h1 h2 h3 h4 h5 => by
                          unfold stN
                          rw [if_neg (by omega), if_neg (by omega), if_neg (by omega), wnN_o h4 h5]
                        have hW1 : Wv (stN m r k) := wv_st hW k
                        generalize hM : stN m r k = M at hm hW1 eo
                        have e53 : ∀ b, M 53 b = m 53 b := fun b => eo 53 b (by decide) (by decide) (by decide) (by decide) (by decide)
                        have e52 : ∀ b, M 52 b = m 52 b := fun b => eo 52 b (by decide) (by decide) (by decide) (by decide) (by decide)
                        have e51 : ∀ b, M 51 b = m 51 b := fun b => eo 51 b (by decide) (by decide) (by decide) (by decide) (by decide)
                        refine e_iload (dat d_M_request 134 rfl) 0 rfl ?_
                        refine n_bipush (dat d_M_request 135 rfl) 6 rfl ?_
                        refine e_iload_n (dat d_M_request 136 rfl) 2 rfl rfl ?_
                        refine n_imul (dat d_M_request 137 rfl) ?_
                        refine e_aload_n (dat d_M_request 138 rfl) 1 rfl rfl ?_
                        refine s_qM (t := 51) (dat d_M_request 139 rfl) 14 k_513 (by decide) rfl rfl rfl ?_
                        refine e_iload_n (dat d_M_request 140 rfl) 2 rfl rfl ?_
                        refine s_ild (N := 8) (dat d_M_request 141 rfl) rfl (by decide) rfl rfl (by omega) (rmfe (c := m 51 r) hm (by decide) (e51 _)) ?_
                        refine n_iadd (dat d_M_request 142 rfl) ?_
                        refine n_icmp_ge (dat d_M_request 143 rfl) (tgt := 317) (by decide) (by have := hW.b 51 r; omega) (by have := hW.b 51 r; omega) (fun h261 => ?_) (fun h261 => ?_)
                        · refine e_aload_n (dat d_M_request 172 rfl) 1 rfl rfl ?_
                          refine q_call (t_M_look hW1 hm.1) c_M_look (dat d_M_request 173 rfl) rfl k_620 rfl rfl (by decide) (by omega) rfl (show 0 ≤ 8 by decide) ⟨show 3 ≤ 3 by decide, show 82 ≤ 90 by decide⟩ ⟨show 0 ≤ 0 by decide, show 0 ≤ 0 by decide⟩ (fun v9 f9 h9 => ?_) (fun X9 h9 => h9.elim)
                          obtain ⟨rfl, hm9, hf9⟩ := h9
                          refine n_iconst (dat d_M_request 174 rfl) 0 rfl ?_
                          exact q_iret (dat d_M_request 175 rfl) rfl (show 0 ≤ 0 by decide) (show 0 ≤ 0 by decide) (mo_r (by rw [hx, rqM, if_pos hq0, show m 51 r = k by omega, hM]; exact hm9) (hm.2.tr hf9) up2_eq fr8.rf.p0 hk0 (by rw [hx, hq0]))
                        · have hk1 : k < m 51 r := by omega
                          have hw := hW.w hr hk1
                          refine e_aload_n (dat d_M_request 144 rfl) 1 rfl rfl ?_
                          refine s_qM (t := 54) (dat d_M_request 145 rfl) 17 k_516 (by decide) rfl rfl rfl ?_
                          refine e_iload (dat d_M_request 146 rfl) 0 rfl ?_
                          refine n_iconst (dat d_M_request 147 rfl) 1 rfl ?_
                          refine m_bst (N := 48) (dat d_M_request 148 rfl) rfl (by decide) rfl rfl (by omega) (by decide) (by omega) hm (fun hm => ?_)
                          refine e_aload_n (dat d_M_request 149 rfl) 1 rfl rfl ?_
                          refine s_qM (t := 55) (dat d_M_request 150 rfl) 18 k_517 (by decide) rfl rfl rfl ?_
                          refine e_iload (dat d_M_request 151 rfl) 0 rfl ?_
                          refine n_iconst (dat d_M_request 152 rfl) 0 rfl ?_
                          refine m_bst (N := 48) (dat d_M_request 153 rfl) rfl (by decide) rfl rfl (by omega) (by decide) (by omega) hm (fun hm => ?_)
                          refine e_aload_n (dat d_M_request 154 rfl) 1 rfl rfl ?_
                          refine s_qM (t := 53) (dat d_M_request 155 rfl) 16 k_515 (by decide) rfl rfl rfl ?_
                          refine e_iload (dat d_M_request 156 rfl) 0 rfl ?_
                          refine s_ild (N := 48) (dat d_M_request 157 rfl) rfl (by decide) rfl rfl (by omega) (rmfe (c := m 53 (6 * r + k)) hm (by decide) (e53 _)) ?_
                          refine n_if_le (dat d_M_request 158 rfl) (tgt := 311) (by decide) (lt64 (hW.b _ _)) (fun h287 => ?_) (fun h287 => ?_)
                          · refine n_iinc (q := 0) (dat d_M_request 170 rfl) rfl (show 6 < 7 by decide) (lv2 := [(6, _), (0, _), (1, _)]) rfl ?_
                            refine e_goto (dat d_M_request 171 rfl) (tgt := 248) (by decide) ?_
                            rw [← hM, st_z h287] at hm
                            exact ih (by omega) _ hm
                          · replace h287 : m 53 (6 * r + k) ≠ 0 := by omega
                            refine e_aload_n (dat d_M_request 159 rfl) 1 rfl rfl ?_
                            refine e_aload_n (dat d_M_request 160 rfl) 1 rfl rfl ?_
                            refine s_qM (t := 52) (dat d_M_request 161 rfl) 15 k_514 (by decide) rfl rfl rfl ?_
                            refine e_iload (dat d_M_request 162 rfl) 0 rfl ?_
                            refine s_ild (N := 48) (dat d_M_request 163 rfl) rfl (by decide) rfl rfl (by omega) (rmfe (c := m 52 (6 * r + k)) hm (by decide) (e52 _)) ?_
                            refine e_aload_n (dat d_M_request 164 rfl) 1 rfl rfl ?_
                            refine s_qM (t := 53) (dat d_M_request 165 rfl) 16 k_515 (by decide) rfl rfl rfl ?_
                            refine e_iload (dat d_M_request 166 rfl) 0 rfl ?_
                            refine s_ild (N := 48) (dat d_M_request 167 rfl) rfl (by decide) rfl rfl (by omega) (rmfe (c := m 53 (6 * r + k)) hm (by decide) (e53 _)) ?_
                            refine r_callS (t_M_positionOf (hW.b _ _)) c_M_positionOf (dat d_M_request 168 rfl) rfl k_605 rfl (show 2 ≤ 8 by decide) ⟨show 1 ≤ 3 by decide, show 20 ≤ 90 by decide⟩ ⟨show 0 ≤ 0 by decide, show 0 ≤ 0 by decide⟩ ?_
                            rw [show posI (m 53 (6 * r + k)) = nI (psn (m 53 (6 * r + k))) from if_neg h287]
                            refine q_call (t_M_want (wv_u55 (wv_u54 hW1 (by decide)) (by decide)) hm.1 (by omega) (Nat.lt_of_le_of_lt (psn_le _) (by decide))) c_M_want (dat d_M_request 169 rfl) rfl k_616 rfl rfl (by decide) (by omega) rfl (show 0 ≤ 8 by decide) ⟨show 1 ≤ 3 by decide, show 22 ≤ 90 by decide⟩ ⟨show 0 ≤ 0 by decide, show 0 ≤ 0 by decide⟩ (fun v9 f9 h9 => ?_) (fun X9 h9 => h9.elim)
                            obtain ⟨rfl, hm9, hf9⟩ := h9
                            refine n_iinc (q := 0) (dat d_M_request 170 rfl) rfl (show 6 < 7 by decide) (lv2 := [(6, _), (0, _), (1, _)]) rfl ?_
                            refine e_goto (dat d_M_request 171 rfl) (tgt := 248) (by decide) ?_
                            have hs : Rm (stN m r (k + 1)) f9 := by
                              rw [← st_1 h287, hM]
                              exact hm9
                            exact ih (by omega) _ (Rf.tr hm hs hf9)
                      refine e_lv [0, 5, 6] rfl ?_
                      rw [st_0] at hm
                      exact L4 0 (Nat.zero_le _) _ hm
                    · first | exact absurd rfl h229 | exact absurd h229 (by decide)
                  · refine n_iconst (dat d_M_request 117 rfl) 4 rfl ?_
                    refine e_goto (dat d_M_request 118 rfl) (tgt := 225) (by decide) ?_
                    refine e_istore (dat d_M_request 120 rfl) (show 5 < 7 by decide) (lv2 := [(5, _), (4, _), (3, _), (2, _), (0, _), (1, _)]) rfl ?_
                    refine e_iload (dat d_M_request 121 rfl) 0 rfl ?_
                    refine n_if_le (dat d_M_request 122 rfl) (tgt := 235) (by decide) (by omega) (fun h229 => ?_) (fun h229 => ?_)
                    · first | exact absurd rfl h229 | exact absurd h229 (by decide)
                    · refine e_iload (dat d_M_request 123 rfl) 0 rfl ?_
                      have hqa : rqA m r = 4 := by
                        rw [rqA, if_neg (fun h => h.elim (fun h => h h184) (fun h => h188 (hI1.mpr (fun z hz => h z (by omega))))), if_neg (fun h => h h200), if_neg (fun h => h (fun z hz => hI2.mp h208 z (by omega))), if_pos (fun h => h217 (hI3.mpr (fun z hz => h z (by omega))))]
                      exact q_iret (dat d_M_request 124 rfl) rfl (show 0 ≤ 0 by decide) (show 0 ≤ 0 by decide) (mo_r (by rw [hx, rqM, if_neg (by omega)]; exact hm.1) hm.2 up2_eq fr8.rf.p0 hk0 (by rw [hx, hqa]))
                · refine n_iconst (dat d_M_request 113 rfl) 3 rfl ?_
                  refine e_goto (dat d_M_request 114 rfl) (tgt := 225) (by decide) ?_
                  refine e_istore (dat d_M_request 120 rfl) (show 5 < 7 by decide) (lv2 := [(5, _), (4, _), (3, _), (2, _), (0, _), (1, _)]) rfl ?_
                  refine e_iload (dat d_M_request 121 rfl) 0 rfl ?_
                  refine n_if_le (dat d_M_request 122 rfl) (tgt := 235) (by decide) (by omega) (fun h229 => ?_) (fun h229 => ?_)
                  · first | exact absurd rfl h229 | exact absurd h229 (by decide)
                  · refine e_iload (dat d_M_request 123 rfl) 0 rfl ?_
                    have hqa : rqA m r = 3 := by
                      rw [rqA, if_neg (fun h => h.elim (fun h => h h184) (fun h => h188 (hI1.mpr (fun z hz => h z (by omega))))), if_neg (fun h => h h200), if_pos (fun h => h208 (hI2.mpr (fun z hz => h z (by omega))))]
                    exact q_iret (dat d_M_request 124 rfl) rfl (show 0 ≤ 0 by decide) (show 0 ≤ 0 by decide) (mo_r (by rw [hx, rqM, if_neg (by omega)]; exact hm.1) hm.2 up2_eq fr8.rf.p0 hk0 (by rw [hx, hqa]))
              · replace h200 := if_p0 h200
                refine n_iconst (dat d_M_request 109 rfl) 2 rfl ?_
                refine e_goto (dat d_M_request 110 rfl) (tgt := 225) (by decide) ?_
                refine e_istore (dat d_M_request 120 rfl) (show 5 < 7 by decide) (lv2 := [(5, _), (4, _), (3, _), (2, _), (0, _), (1, _)]) rfl ?_
                refine e_iload (dat d_M_request 121 rfl) 0 rfl ?_
                refine n_if_le (dat d_M_request 122 rfl) (tgt := 235) (by decide) (by omega) (fun h229 => ?_) (fun h229 => ?_)
                · first | exact absurd rfl h229 | exact absurd h229 (by decide)
                · refine e_iload (dat d_M_request 123 rfl) 0 rfl ?_
                  have hqa : rqA m r = 2 := by
                    rw [rqA, if_neg (fun h => h.elim (fun h => h h184) (fun h => h188 (hI1.mpr (fun z hz => h z (by omega))))), if_pos h200]
                  exact q_iret (dat d_M_request 124 rfl) rfl (show 0 ≤ 0 by decide) (show 0 ≤ 0 by decide) (mo_r (by rw [hx, rqM, if_neg (by omega)]; exact hm.1) hm.2 up2_eq fr8.rf.p0 hk0 (by rw [hx, hqa]))
            · refine n_iconst (dat d_M_request 103 rfl) 1 rfl ?_
              refine e_goto (dat d_M_request 104 rfl) (tgt := 225) (by decide) ?_
              refine e_istore (dat d_M_request 120 rfl) (show 5 < 7 by decide) (lv2 := [(5, _), (4, _), (3, _), (2, _), (0, _), (1, _)]) rfl ?_
              refine e_iload (dat d_M_request 121 rfl) 0 rfl ?_
              refine n_if_le (dat d_M_request 122 rfl) (tgt := 235) (by decide) (by omega) (fun h229 => ?_) (fun h229 => ?_)
              · first | exact absurd rfl h229 | exact absurd h229 (by decide)
              · refine e_iload (dat d_M_request 123 rfl) 0 rfl ?_
                have hqa : rqA m r = 1 := by
                  rw [rqA, if_pos (by first | exact Or.inl h184 | exact Or.inr (fun z hz => hI1.mp h188 z (by omega)))]
                exact q_iret (dat d_M_request 124 rfl) rfl (show 0 ≤ 0 by decide) (show 0 ≤ 0 by decide) (mo_r (by rw [hx, rqM, if_neg (by omega)]; exact hm.1) hm.2 up2_eq fr8.rf.p0 hk0 (by rw [hx, hqa]))
        · have hk1 : k < m 51 r := by omega
          have hw := hW.w hr hk1
          have h4k := hW.h hr hk1
          refine e_aload_n (dat d_M_request 34 rfl) 4 rfl rfl ?_
          refine s_qM (t := 52) (dat d_M_request 35 rfl) 15 k_514 (by decide) rfl rfl rfl ?_
          refine e_iload (dat d_M_request 36 rfl) 0 rfl ?_
          refine s_ild (N := 48) (dat d_M_request 37 rfl) rfl (by decide) rfl rfl (by omega) (rmf hm (by decide)) ?_
          refine e_istore (dat d_M_request 38 rfl) (show 6 < 7 by decide) (lv2 := [(6, _), (5, _), (4, _), (3, _), (2, _), (0, _), (1, _)]) rfl ?_
          have J170 : ∀ d1 d2 d3, d1 ≤ 1 → d2 ≤ 1 → d3 ≤ 1 → (d1 = 0 ↔ ∀ z, z < k + 1 → ¬ m 53 (6 * r + z) < 3) → (d2 = 0 ↔ ∀ z, z < k + 1 → ¬ (m 53 (6 * r + z) < 3 ∧ m 41 (m 52 (6 * r + z)) ≠ 0)) → (d3 = 0 ↔ ∀ z, z < k + 1 → ¬ (m 53 (6 * r + z) ≠ 0 ∧ nI (m 42 (m 52 (6 * r + z))) ≠ posI (m 53 (6 * r + z)) ∧ m 41 (m 52 (6 * r + z)) ≠ 0)) → Ev E (jq E i_M_request 3 0 0 f w (MO f (kR1 m (nI r)) m (rqM m (ix (nI r))) (nI (rqA m (ix (nI r))))) (fun _ => False)) 0 0 170 [(3, .int (nI d2)), (2, .int (nI d1)), (6, .int (nI (m 52 (6 * r + k)))), (5, .int (nI (6 * r + k))), (4, .int (nI c3)), (0, .ref (wB E + 39)), (1, .int (nI r))] [.int (nI d3)] (up2 f 39 0 (nI 0)) g0 w 57 := by
            intro d1 d2 d3 hd1 hd2 hd3 a1 a2 a3
            refine e_istore (dat d_M_request 93 rfl) (show 4 < 7 by decide) (lv2 := [(4, _), (3, _), (2, _), (6, _), (5, _), (0, _), (1, _)]) rfl ?_
            refine n_iinc (q := 4) (dat d_M_request 94 rfl) rfl (show 5 < 7 by decide) (lv2 := [(5, _), (4, _), (3, _), (2, _), (6, _), (0, _), (1, _)]) rfl ?_
            refine e_goto (dat d_M_request 95 rfl) (tgt := 39) (by decide) ?_
            refine e_lv [0, 1, 2, 3, 5, 6] rfl ?_
            exact ih (by omega) d1 d2 d3 hd1 hd2 hd3 a1 a2 a3
          have J119 : ∀ d1 d2, d1 ≤ 1 → d2 ≤ 1 → (d1 = 0 ↔ ∀ z, z < k + 1 → ¬ m 53 (6 * r + z) < 3) → (d2 = 0 ↔ ∀ z, z < k + 1 → ¬ (m 53 (6 * r + z) < 3 ∧ m 41 (m 52 (6 * r + z)) ≠ 0)) → Ev E (jq E i_M_request 3 0 0 f w (MO f (kR1 m (nI r)) m (rqM m (ix (nI r))) (nI (rqA m (ix (nI r))))) (fun _ => False)) 0 0 119 [(2, .int (nI d1)), (6, .int (nI (m 52 (6 * r + k)))), (5, .int (nI (6 * r + k))), (4, .int (nI c3)), (3, .int (nI c2)), (0, .ref (wB E + 39)), (1, .int (nI r))] [.int (nI d2)] (up2 f 39 0 (nI 0)) g0 w 57 := by
            intro d1 d2 hd1 hd2 a1 a2
            refine e_istore_n (dat d_M_request 67 rfl) rfl (show 3 < 7 by decide) (lv2 := [(3, _), (2, _), (6, _), (5, _), (4, _), (0, _), (1, _)]) rfl ?_
            refine e_iload (dat d_M_request 68 rfl) 4 rfl ?_
            refine n_if_ne (dat d_M_request 69 rfl) (tgt := 165) (by decide) (by omega) (fun h122 => ?_) (fun h122 => ?_)
            · refine n_iconst (dat d_M_request 90 rfl) 1 rfl ?_
              refine e_goto (dat d_M_request 91 rfl) (tgt := 170) (by decide) ?_
              refine J170 d1 d2 1 hd1 hd2 (by decide) a1 a2 ⟨fun h => absurd h (by decide), fun h => by
                exfalso
                have h1 := hI3.mpr (fun z hz => h z (by omega))
                have h2 := h k (by omega)
                first
                  | exact h122 h1
                  | exact h2 ⟨by omega, h152, h162⟩⟩
            · refine e_aload_n (dat d_M_request 70 rfl) 5 rfl rfl ?_
              refine s_qM (t := 53) (dat d_M_request 71 rfl) 16 k_515 (by decide) rfl rfl rfl ?_
              refine e_iload (dat d_M_request 72 rfl) 3 rfl ?_
              refine s_ild (N := 48) (dat d_M_request 73 rfl) rfl (by decide) rfl rfl (by omega) (rmf hm (by decide)) ?_
              refine n_if_le (dat d_M_request 74 rfl) (tgt := 169) (by decide) (lt64 (hW.b _ _)) (fun h132 => ?_) (fun h132 => ?_)
              · refine n_iconst (dat d_M_request 92 rfl) 0 rfl ?_
                refine J170 d1 d2 0 hd1 hd2 (by decide) a1 a2 ⟨fun _ z hz => by
                  by_cases e : z = k
                  · rw [e]
                    rintro ⟨b1, b2, b3⟩
                    first
                      | omega
                      | exact b2 h152
                  · exact hI3.mp (by omega) z (by omega), fun _ => rfl⟩
              · refine e_aload_n (dat d_M_request 75 rfl) 5 rfl rfl ?_
                refine s_qM (t := 42) (dat d_M_request 76 rfl) 4 k_503 (by decide) rfl rfl rfl ?_
                refine e_iload (dat d_M_request 77 rfl) 2 rfl ?_
                refine s_ild (N := 12) (dat d_M_request 78 rfl) rfl (by decide) rfl rfl (by omega) (rmf hm (by decide)) ?_
                refine e_aload_n (dat d_M_request 79 rfl) 5 rfl rfl ?_
                refine s_qM (t := 53) (dat d_M_request 80 rfl) 16 k_515 (by decide) rfl rfl rfl ?_
                refine e_iload (dat d_M_request 81 rfl) 3 rfl ?_
                refine s_ild (N := 48) (dat d_M_request 82 rfl) rfl (by decide) rfl rfl (by omega) (rmf hm (by decide)) ?_
                refine r_callS (t_M_positionOf (hW.b _ _)) c_M_positionOf (dat d_M_request 83 rfl) rfl k_605 rfl (show 1 ≤ 8 by decide) ⟨show 1 ≤ 3 by decide, show 20 ≤ 90 by decide⟩ ⟨show 0 ≤ 0 by decide, show 0 ≤ 0 by decide⟩ ?_
                refine e_icmp_eq (dat d_M_request 84 rfl) (tgt := 169) (by decide) (fun h152 => ?_) (fun h152 => ?_)
                · refine n_iconst (dat d_M_request 92 rfl) 0 rfl ?_
                  refine J170 d1 d2 0 hd1 hd2 (by decide) a1 a2 ⟨fun _ z hz => by
                    by_cases e : z = k
                    · rw [e]
                      rintro ⟨b1, b2, b3⟩
                      first
                        | omega
                        | exact b2 h152
                    · exact hI3.mp (by omega) z (by omega), fun _ => rfl⟩
                · refine e_aload_n (dat d_M_request 85 rfl) 5 rfl rfl ?_
                  refine s_qM (t := 41) (dat d_M_request 86 rfl) 3 k_502 (by decide) rfl rfl rfl ?_
                  refine e_iload (dat d_M_request 87 rfl) 2 rfl ?_
                  refine s_bld (N := 12) (dat d_M_request 88 rfl) rfl (by decide) rfl rfl (by omega) (rmf hm (by decide)) ?_
                  refine n_if_eq (dat d_M_request 89 rfl) (tgt := 169) (by decide) (lt64 (hW.b _ _)) (fun h162 => ?_) (fun h162 => ?_)
                  · refine n_iconst (dat d_M_request 92 rfl) 0 rfl ?_
                    refine J170 d1 d2 0 hd1 hd2 (by decide) a1 a2 ⟨fun _ z hz => by
                      by_cases e : z = k
                      · rw [e]
                        rintro ⟨b1, b2, b3⟩
                        first
                          | omega
                          | exact b2 h152
                      · exact hI3.mp (by omega) z (by omega), fun _ => rfl⟩
                  · refine n_iconst (dat d_M_request 90 rfl) 1 rfl ?_
                    refine e_goto (dat d_M_request 91 rfl) (tgt := 170) (by decide) ?_
                    refine J170 d1 d2 1 hd1 hd2 (by decide) a1 a2 ⟨fun h => absurd h (by decide), fun h => by
                      exfalso
                      have h1 := hI3.mpr (fun z hz => h z (by omega))
                      have h2 := h k (by omega)
                      first
                        | exact h122 h1
                        | exact h2 ⟨by omega, h152, h162⟩⟩
          have J86 : ∀ d1, d1 ≤ 1 → (d1 = 0 ↔ ∀ z, z < k + 1 → ¬ m 53 (6 * r + z) < 3) → Ev E (jq E i_M_request 3 0 0 f w (MO f (kR1 m (nI r)) m (rqM m (ix (nI r))) (nI (rqA m (ix (nI r))))) (fun _ => False)) 0 0 86 [(6, .int (nI (m 52 (6 * r + k)))), (5, .int (nI (6 * r + k))), (4, .int (nI c3)), (3, .int (nI c2)), (2, .int (nI c1)), (0, .ref (wB E + 39)), (1, .int (nI r))] [.int (nI d1)] (up2 f 39 0 (nI 0)) g0 w 57 := by
            intro d1 hd1 a1
            refine e_istore_n (dat d_M_request 50 rfl) rfl (show 2 < 7 by decide) (lv2 := [(2, _), (6, _), (5, _), (4, _), (3, _), (0, _), (1, _)]) rfl ?_
            refine e_iload_n (dat d_M_request 51 rfl) 4 rfl rfl ?_
            refine n_if_ne (dat d_M_request 52 rfl) (tgt := 114) (by decide) (by omega) (fun h88 => ?_) (fun h88 => ?_)
            · refine n_iconst (dat d_M_request 64 rfl) 1 rfl ?_
              refine e_goto (dat d_M_request 65 rfl) (tgt := 119) (by decide) ?_
              refine J119 d1 1 hd1 (by decide) a1 ⟨fun h => absurd h (by decide), fun h => by
                exfalso
                have h1 := hI2.mpr (fun z hz => h z (by omega))
                have h2 := h k (by omega)
                first
                  | exact h88 h1
                  | exact h2 ⟨h101, h111⟩⟩
            · refine e_aload_n (dat d_M_request 53 rfl) 5 rfl rfl ?_
              refine s_qM (t := 53) (dat d_M_request 54 rfl) 16 k_515 (by decide) rfl rfl rfl ?_
              refine e_iload (dat d_M_request 55 rfl) 2 rfl ?_
              refine s_ild (N := 48) (dat d_M_request 56 rfl) rfl (by decide) rfl rfl (by omega) (rmf hm (by decide)) ?_
              refine r_callS (t_M_passes (hW.b _ _)) c_M_passes (dat d_M_request 57 rfl) rfl k_602 rfl (show 0 ≤ 8 by decide) ⟨show 1 ≤ 3 by decide, show 20 ≤ 90 by decide⟩ ⟨show 0 ≤ 0 by decide, show 0 ≤ 0 by decide⟩ ?_
              refine n_if_eq (dat d_M_request 58 rfl) (tgt := 118) (by decide) if_lt (fun h101 => ?_) (fun h101 => ?_)
              · replace h101 := if_n h101
                refine n_iconst (dat d_M_request 66 rfl) 0 rfl ?_
                refine J119 d1 0 hd1 (by decide) a1 ⟨fun _ z hz => by
                  by_cases e : z = k
                  · rw [e]
                    rintro ⟨b1, b2⟩
                    first
                      | exact h101 b1
                      | exact b2 h111
                  · exact hI2.mp (by omega) z (by omega), fun _ => rfl⟩
              · replace h101 := if_p h101
                refine e_aload_n (dat d_M_request 59 rfl) 5 rfl rfl ?_
                refine s_qM (t := 41) (dat d_M_request 60 rfl) 3 k_502 (by decide) rfl rfl rfl ?_
                refine e_iload (dat d_M_request 61 rfl) 1 rfl ?_
                refine s_bld (N := 12) (dat d_M_request 62 rfl) rfl (by decide) rfl rfl (by omega) (rmf hm (by decide)) ?_
                refine n_if_eq (dat d_M_request 63 rfl) (tgt := 118) (by decide) (lt64 (hW.b _ _)) (fun h111 => ?_) (fun h111 => ?_)
                · refine n_iconst (dat d_M_request 66 rfl) 0 rfl ?_
                  refine J119 d1 0 hd1 (by decide) a1 ⟨fun _ z hz => by
                    by_cases e : z = k
                    · rw [e]
                      rintro ⟨b1, b2⟩
                      first
                        | exact h101 b1
                        | exact b2 h111
                    · exact hI2.mp (by omega) z (by omega), fun _ => rfl⟩
                · refine n_iconst (dat d_M_request 64 rfl) 1 rfl ?_
                  refine e_goto (dat d_M_request 65 rfl) (tgt := 119) (by decide) ?_
                  refine J119 d1 1 hd1 (by decide) a1 ⟨fun h => absurd h (by decide), fun h => by
                    exfalso
                    have h1 := hI2.mpr (fun z hz => h z (by omega))
                    have h2 := h k (by omega)
                    first
                      | exact h88 h1
                      | exact h2 ⟨h101, h111⟩⟩
          refine e_iload_n (dat d_M_request 39 rfl) 4 rfl rfl ?_
          refine n_if_ne (dat d_M_request 40 rfl) (tgt := 81) (by decide) (by omega) (fun h65 => ?_) (fun h65 => ?_)
          · refine n_iconst (dat d_M_request 47 rfl) 1 rfl ?_
            refine e_goto (dat d_M_request 48 rfl) (tgt := 86) (by decide) ?_
            refine J86 1 (by decide) ⟨fun h => absurd h (by decide), fun h => by
              exfalso
              have h1 := hI1.mpr (fun z hz => h z (by omega))
              have h2 := h k (by omega)
              first
                | exact h65 h1
                | exact h2 h78⟩
          · refine e_aload_n (dat d_M_request 41 rfl) 5 rfl rfl ?_
            refine s_qM (t := 53) (dat d_M_request 42 rfl) 16 k_515 (by decide) rfl rfl rfl ?_
            refine e_iload (dat d_M_request 43 rfl) 1 rfl ?_
            refine s_ild (N := 48) (dat d_M_request 44 rfl) rfl (by decide) rfl rfl (by omega) (rmf hm (by decide)) ?_
            refine r_callS (t_M_passes (hW.b _ _)) c_M_passes (dat d_M_request 45 rfl) rfl k_602 rfl (show 0 ≤ 8 by decide) ⟨show 1 ≤ 3 by decide, show 20 ≤ 90 by decide⟩ ⟨show 0 ≤ 0 by decide, show 0 ≤ 0 by decide⟩ ?_
            refine n_if_eq (dat d_M_request 46 rfl) (tgt := 85) (by decide) if_lt (fun h78 => ?_) (fun h78 => ?_)
            · replace h78 := if_n h78
              refine n_iconst (dat d_M_request 49 rfl) 0 rfl ?_
              refine J86 0 (by decide) ⟨fun _ z hz => by
                by_cases e : z = k
                · rw [e]
                  exact h78
                · exact hI1.mp (by omega) z (by omega), fun _ => rfl⟩
            · replace h78 := if_p h78
              refine n_iconst (dat d_M_request 47 rfl) 1 rfl ?_
              refine e_goto (dat d_M_request 48 rfl) (tgt := 86) (by decide) ?_
              refine J86 1 (by decide) ⟨fun h => absurd h (by decide), fun h => by
                exfalso
                have h1 := hI1.mpr (fun z hz => h z (by omega))
                have h2 := h k (by omega)
                first
                  | exact h65 h1
                  | exact h2 h78⟩
      exact L 0 (Nat.zero_le _) 0 0 0 (by decide) (by decide) (by decide) ⟨fun _ z hz => absurd hz (Nat.not_lt_zero _), fun _ => rfl⟩ ⟨fun _ z hz => absurd hz (Nat.not_lt_zero _), fun _ => rfl⟩ ⟨fun _ z hz => absurd hz (Nat.not_lt_zero _), fun _ => rfl⟩
    · first | exact absurd rfl h21 | exact absurd h21 (by decide)
  · replace h6 := if_p h6
    refine n_iconst (dat d_M_request 5 rfl) 1 rfl ?_
    refine e_goto (dat d_M_request 6 rfl) (tgt := 14) (by decide) ?_
    refine m_p0 (dat d_M_request 8 rfl) k_499 hm (fun hm => ?_)
    refine e_aload_n (dat d_M_request 9 rfl) 0 rfl rfl ?_
    refine s_gM (dat d_M_request 10 rfl) 0 k_499 (by decide) rfl rfl up2_eq ?_
    refine n_if_le (dat d_M_request 11 rfl) (tgt := 26) (by decide) (by omega) (fun h21 => ?_) (fun h21 => ?_)
    · first | exact absurd rfl h21 | exact absurd h21 (by decide)
    · refine n_iconst (dat d_M_request 12 rfl) 0 rfl ?_
      exact q_iret (dat d_M_request 13 rfl) rfl (show 0 ≤ 0 by decide) (show 0 ≤ 0 by decide) (mo_x hm up2_eq fr8.rf.p0 (if_pos h6) (by decide))
