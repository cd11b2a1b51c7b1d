theorem apI_neg {a : Nat} (h : a < 64) : apI a < 0 ↔ a = 0 := by
  unfold apI
  split
  · rename_i e
    exact ⟨fun _ => e, fun _ => by decide⟩
  · rename_i e
    exact ⟨fun h2 => absurd h2 (nI_pos (by omega)), fun h2 => absurd h2 e⟩
theorem posI_ne {a b : Nat} (ha : a ≠ 0) (hb : b < 64) : nI b = posI a ↔ b = psn a := by
  rw [posI, if_neg ha]
  exact nI_eq (by omega) (by have := psn_le a; omega)
theorem safe_look {m : wM} {K b : Nat} : safe (lookN m K) b ↔ safe m b := by
  have e : ∀ a b, a ≠ 50 → lookN m K a b = m a b := fun a b h => lookN_o h
  simp only [safe, rgt, e 48 _ (by decide), e 51 _ (by decide), e 53 _ (by decide), e 41 _ (by decide), e 52 _ (by decide), e 42 _ (by decide), e 43 _ (by decide), e 44 _ (by decide)]
theorem wv_look {m : wM} {K : Nat} (h : Wv m) : Wv (lookN m K) := by
  refine wv_k h (fun a b h9 => lookN_o (by omega)) (fun a b => ?_) (fun b => ?_)
  · unfold lookN
    split
    · decide
    · exact h.b a b
  · rw [lookN_o (a := 40) (by decide), lookN_o (a := 41) (by decide), lookN_o (a := 44) (by decide), lookN_o (a := 54) (by decide), lookN_o (a := 55) (by decide)]
    have := h.o b
    refine ⟨by omega, by omega, by omega, ?_, by omega, by omega⟩
    unfold lookN
    split <;> omega
theorem look_w1 {m : wM} {k : Nat} (h : (safe m k ∧ nrA m k) ∨ m 50 k = 1) : um (lookN m k) 50 k 1 = lookN m (k + 1) := by
  rw [lookN_s]
  split
  · rfl
  · rename_i h2
    have h3 : m 50 k = 1 := h.elim (fun h => absurd h h2) id
    funext a b
    unfold um
    split
    · rename_i h4
      rw [h4.1, h4.2, lookN, if_neg (fun h5 => by omega), h3]
    · rfl
theorem look_w0 {m : wM} {k : Nat} (h : ¬ (safe m k ∧ nrA m k)) (h3 : m 50 k = 0) : um (lookN m k) 50 k 0 = lookN m (k + 1) := by
  rw [lookN_s, if_neg h]
  funext a b
  unfold um
  split
  · rename_i h4
    rw [h4.1, h4.2, lookN, if_neg (fun h5 => by omega), h3]
  · rfl
abbrev barU (m : wM) (r z : Nat) : Prop := z ≠ r → ¬ (m 45 z = m 45 r ∧ (m 48 z = 1 ∨ m 48 z = 3)) ∧ ∀ j, j < m 51 z → ∀ i, i < m 51 r → ¬ (m 54 (6 * z + j) = 1 ∧ meetP m (6 * r + i) (6 * z + j))
theorem lv_2 {m : wM} {r k : Nat} (h1 : m 54 (6 * r + k) = 1) (hg : ¬ ∀ j, j < k + 1 → goU m (6 * r + j)) : um (lvN m r k) 54 (6 * r + k) 1 = lvN m r (k + 1) := by
  funext a b
  unfold um lvN
  by_cases hb : b = 6 * r + k
  · subst hb
    by_cases ha : a = 54
    · subst ha
      rw [if_pos ⟨rfl, rfl⟩, if_neg (fun h => hg (fun j hj => h.2.2.2.2 j (by omega))), h1]
    · simp [ha]
  · have e : (b < 6 * r + (k + 1)) ↔ (b < 6 * r + k) := by omega
    simp only [e, hb, and_false, if_false]
theorem sf_end {m : wM} {r k b : Nat} {d : Decidable (safe m r)} (hI : b = 1 ↔ (m 48 r = 1 ∧ ∀ z, z < k → rgt m (6 * r + z))) (hb : b ≤ 1) (hk : m 51 r = k) : some (Value.int (nI b)) = some (Value.int (nI (@ite Nat (safe m r) d 1 0))) := by
  by_cases e : b = 1
  · have h := hI.mp e
    rw [if_pos ⟨h.1, fun z hz => h.2 z (by omega)⟩, e]
  · rw [if_neg (fun h => e (hI.mpr ⟨h.1, fun z hz => h.2 z (by omega)⟩)), show b = 0 by omega]
theorem t_M_safe {E : wE} {m : wM} {f : wF} {w : Int64} {r : Nat} (hW : Wv m) (hm : Rm m f) (hr : r < m 39 7) : Cr E i_M_safe 1 [.ref (wB E + 39), .int (nI r)] f w (some (.int (nI (if safe m r then 1 else 0)))) f := by
  have hm0 := hm
  have h12 := hW.S
  have h8 := hW.R
  replace hm := Rf.of hm
  refine cr_of rfl rfl rfl (show 2 ≤ 4 by decide) ?_
  have h6 := hW.N hr
  have L : ∀ k, k ≤ m 51 r → ∀ b, b ≤ 1 → (b = 1 ↔ (m 48 r = 1 ∧ ∀ z, z < k → rgt m (6 * r + z))) → Ev E (jr E i_M_safe 1 f w (some (.int (nI (if safe m r then 1 else 0)))) f) 0 0 21 [(3, .int (nI (6 * r + k))), (2, .int (nI b)), (0, .ref (wB E + 39)), (1, .int (nI r))] [] f g0 w 57 := by
    apply lp_ind
    intro k hk ih b hb1 hI
    refine e_iload_n (dat d_M_safe 14 rfl) 0 rfl rfl ?_
    refine n_bipush (dat d_M_safe 15 rfl) 6 rfl ?_
    refine e_iload_n (dat d_M_safe 16 rfl) 3 rfl rfl ?_
    refine n_imul (dat d_M_safe 17 rfl) ?_
    refine e_aload_n (dat d_M_safe 18 rfl) 2 rfl rfl ?_
    refine s_qM (t := 51) (dat d_M_safe 19 rfl) 14 k_513 (by decide) rfl rfl rfl ?_
    refine e_iload_n (dat d_M_safe 20 rfl) 3 rfl rfl ?_
    refine s_ild (N := 8) (dat d_M_safe 21 rfl) rfl (by decide) rfl rfl (by omega) (rmf hm (by decide)) ?_
    refine n_iadd (dat d_M_safe 22 rfl) ?_
    refine n_icmp_ge (dat d_M_safe 23 rfl) (tgt := 109) (by decide) (by have := hW.b 51 r; omega) (by have := hW.b 51 r; omega) (fun h33 => ?_) (fun h33 => ?_)
    · refine e_iload_n (dat d_M_safe 63 rfl) 1 rfl rfl ?_
      exact q_zret (dat d_M_safe 64 rfl) rfl (z01 hb1) (show 0 ≤ 0 by decide) (show 0 ≤ 0 by decide) ⟨sf_end hI hb1 (by omega), rfl⟩
    · have hk1 : k < m 51 r := by omega
      have hw := hW.w hr hk1
      refine e_iload_n (dat d_M_safe 24 rfl) 1 rfl rfl ?_
      refine n_if_eq (dat d_M_safe 25 rfl) (tgt := 101) (by decide) (by omega) (fun h37 => ?_) (fun h37 => ?_)
      · refine n_iconst (dat d_M_safe 59 rfl) 0 rfl ?_
        refine e_istore_n (dat d_M_safe 60 rfl) rfl (show 2 < 4 by decide) (lv2 := [(2, _), (3, _), (0, _), (1, _)]) rfl ?_
        refine n_iinc (q := 1) (dat d_M_safe 61 rfl) rfl (show 3 < 4 by decide) (lv2 := [(3, _), (2, _), (0, _), (1, _)]) rfl ?_
        refine e_goto (dat d_M_safe 62 rfl) (tgt := 21) (by decide) ?_
        refine ih (by omega) 0 (by decide) ⟨fun h => absurd h (by decide), fun h => ?_⟩
        have h1 := hI.mpr ⟨h.1, fun z hz => h.2 z (by omega)⟩
        have h2 := h.2 k (by omega)
        first
          | omega
          | exact (h94 (h2.2.elim (fun h => absurd h h72) (fun h5 => ⟨(posI_ne h72 (hW.b _ _)).mpr h5.1, h5.2⟩))).elim
          | exact absurd ⟨h49, by have := (hW.o (m 52 (6 * r + k))).2.1; omega⟩ h2.1
      · refine e_aload_n (dat d_M_safe 26 rfl) 2 rfl rfl ?_
        refine s_qM (t := 53) (dat d_M_safe 27 rfl) 16 k_515 (by decide) rfl rfl rfl ?_
        refine e_iload_n (dat d_M_safe 28 rfl) 0 rfl rfl ?_
        refine s_ild (N := 48) (dat d_M_safe 29 rfl) rfl (by decide) rfl rfl (by omega) (rmf hm (by decide)) ?_
        refine r_callS (t_M_passes (hW.b _ _)) c_M_passes (dat d_M_safe 30 rfl) rfl k_602 rfl (show 0 ≤ 8 by decide) ⟨show 1 ≤ 1 by decide, show 20 ≤ 30 by decide⟩ ⟨show 0 ≤ 0 by decide, show 0 ≤ 0 by decide⟩ ?_
        refine n_if_eq (dat d_M_safe 31 rfl) (tgt := 66) (by decide) if_lt (fun h49 => ?_) (fun h49 => ?_)
        · replace h49 := if_n h49
          refine e_aload_n (dat d_M_safe 40 rfl) 2 rfl rfl ?_
          refine s_qM (t := 53) (dat d_M_safe 41 rfl) 16 k_515 (by decide) rfl rfl rfl ?_
          refine e_iload_n (dat d_M_safe 42 rfl) 0 rfl rfl ?_
          refine s_ild (N := 48) (dat d_M_safe 43 rfl) rfl (by decide) rfl rfl (by omega) (rmf hm (by decide)) ?_
          refine n_if_eq (dat d_M_safe 44 rfl) (tgt := 97) (by decide) (lt64 (hW.b _ _)) (fun h72 => ?_) (fun h72 => ?_)
          · refine n_iconst (dat d_M_safe 57 rfl) 1 rfl ?_
            refine e_goto (dat d_M_safe 58 rfl) (tgt := 102) (by decide) ?_
            refine e_istore_n (dat d_M_safe 60 rfl) rfl (show 2 < 4 by decide) (lv2 := [(2, _), (3, _), (0, _), (1, _)]) rfl ?_
            refine n_iinc (q := 1) (dat d_M_safe 61 rfl) rfl (show 3 < 4 by decide) (lv2 := [(3, _), (2, _), (0, _), (1, _)]) rfl ?_
            refine e_goto (dat d_M_safe 62 rfl) (tgt := 21) (by decide) ?_
            have h1 := hI.mp (show b = 1 by omega)
            have hrg : rgt m (6 * r + k) := by
              refine ⟨?_, ?_⟩
              · intro h
                first
                  | exact h49 h.1
                  | omega
              · first
                  | exact Or.inl h72
                  | exact Or.inr ⟨(posI_ne h72 (hW.b _ _)).mp h94.1, h94.2⟩
            refine ih (by omega) 1 (by decide) ⟨fun _ => ⟨h1.1, fun z hz => ?_⟩, fun _ => rfl⟩
            by_cases e : z = k
            · rw [e]
              exact hrg
            · exact h1.2 z (by omega)
          · refine e_aload_n (dat d_M_safe 45 rfl) 2 rfl rfl ?_
            refine e_aload_n (dat d_M_safe 46 rfl) 2 rfl rfl ?_
            refine s_qM (t := 52) (dat d_M_safe 47 rfl) 15 k_514 (by decide) rfl rfl rfl ?_
            refine e_iload_n (dat d_M_safe 48 rfl) 0 rfl rfl ?_
            refine s_ild (N := 48) (dat d_M_safe 49 rfl) rfl (by decide) rfl rfl (by omega) (rmf hm (by decide)) ?_
            refine e_aload_n (dat d_M_safe 50 rfl) 2 rfl rfl ?_
            refine s_qM (t := 53) (dat d_M_safe 51 rfl) 16 k_515 (by decide) rfl rfl rfl ?_
            refine e_iload_n (dat d_M_safe 52 rfl) 0 rfl rfl ?_
            refine s_ild (N := 48) (dat d_M_safe 53 rfl) rfl (by decide) rfl rfl (by omega) (rmf hm (by decide)) ?_
            refine r_callS (t_M_positionOf (hW.b _ _)) c_M_positionOf (dat d_M_safe 54 rfl) rfl k_605 rfl (show 2 ≤ 8 by decide) ⟨show 1 ≤ 1 by decide, show 20 ≤ 30 by decide⟩ ⟨show 0 ≤ 0 by decide, show 0 ≤ 0 by decide⟩ ?_
            refine r_call (t_M_found hW hm0 (by omega)) c_M_found (dat d_M_safe 55 rfl) rfl k_628 rfl rfl (by decide) (by omega) rfl (show 0 ≤ 8 by decide) ⟨show 1 ≤ 1 by decide, show 22 ≤ 30 by decide⟩ ⟨show 0 ≤ 0 by decide, show 0 ≤ 0 by decide⟩ ?_
            refine n_if_eq (dat d_M_safe 56 rfl) (tgt := 101) (by decide) if_lt (fun h94 => ?_) (fun h94 => ?_)
            · replace h94 := if_n h94
              refine n_iconst (dat d_M_safe 59 rfl) 0 rfl ?_
              refine e_istore_n (dat d_M_safe 60 rfl) rfl (show 2 < 4 by decide) (lv2 := [(2, _), (3, _), (0, _), (1, _)]) rfl ?_
              refine n_iinc (q := 1) (dat d_M_safe 61 rfl) rfl (show 3 < 4 by decide) (lv2 := [(3, _), (2, _), (0, _), (1, _)]) rfl ?_
              refine e_goto (dat d_M_safe 62 rfl) (tgt := 21) (by decide) ?_
              refine ih (by omega) 0 (by decide) ⟨fun h => absurd h (by decide), fun h => ?_⟩
              have h1 := hI.mpr ⟨h.1, fun z hz => h.2 z (by omega)⟩
              have h2 := h.2 k (by omega)
              first
                | omega
                | exact (h94 (h2.2.elim (fun h => absurd h h72) (fun h5 => ⟨(posI_ne h72 (hW.b _ _)).mpr h5.1, h5.2⟩))).elim
                | exact absurd ⟨h49, by have := (hW.o (m 52 (6 * r + k))).2.1; omega⟩ h2.1
            · replace h94 := if_p h94
              refine n_iconst (dat d_M_safe 57 rfl) 1 rfl ?_
              refine e_goto (dat d_M_safe 58 rfl) (tgt := 102) (by decide) ?_
              refine e_istore_n (dat d_M_safe 60 rfl) rfl (show 2 < 4 by decide) (lv2 := [(2, _), (3, _), (0, _), (1, _)]) rfl ?_
              refine n_iinc (q := 1) (dat d_M_safe 61 rfl) rfl (show 3 < 4 by decide) (lv2 := [(3, _), (2, _), (0, _), (1, _)]) rfl ?_
              refine e_goto (dat d_M_safe 62 rfl) (tgt := 21) (by decide) ?_
              have h1 := hI.mp (show b = 1 by omega)
              have hrg : rgt m (6 * r + k) := by
                refine ⟨?_, ?_⟩
                · intro h
                  first
                    | exact h49 h.1
                    | omega
                · first
                    | exact Or.inl h72
                    | exact Or.inr ⟨(posI_ne h72 (hW.b _ _)).mp h94.1, h94.2⟩
              refine ih (by omega) 1 (by decide) ⟨fun _ => ⟨h1.1, fun z hz => ?_⟩, fun _ => rfl⟩
              by_cases e : z = k
              · rw [e]
                exact hrg
              · exact h1.2 z (by omega)
        · replace h49 := if_p h49
          refine e_aload_n (dat d_M_safe 32 rfl) 2 rfl rfl ?_
          refine s_qM (t := 41) (dat d_M_safe 33 rfl) 3 k_502 (by decide) rfl rfl rfl ?_
          refine e_aload_n (dat d_M_safe 34 rfl) 2 rfl rfl ?_
          refine s_qM (t := 52) (dat d_M_safe 35 rfl) 15 k_514 (by decide) rfl rfl rfl ?_
          refine e_iload_n (dat d_M_safe 36 rfl) 0 rfl rfl ?_
          refine s_ild (N := 48) (dat d_M_safe 37 rfl) rfl (by decide) rfl rfl (by omega) (rmf hm (by decide)) ?_
          refine s_bld (N := 12) (dat d_M_safe 38 rfl) rfl (by decide) rfl rfl (by omega) (rmf hm (by decide)) ?_
          refine n_if_ne (dat d_M_safe 39 rfl) (tgt := 101) (by decide) (lt64 (hW.b _ _)) (fun h63 => ?_) (fun h63 => ?_)
          · refine n_iconst (dat d_M_safe 59 rfl) 0 rfl ?_
            refine e_istore_n (dat d_M_safe 60 rfl) rfl (show 2 < 4 by decide) (lv2 := [(2, _), (3, _), (0, _), (1, _)]) rfl ?_
            refine n_iinc (q := 1) (dat d_M_safe 61 rfl) rfl (show 3 < 4 by decide) (lv2 := [(3, _), (2, _), (0, _), (1, _)]) rfl ?_
            refine e_goto (dat d_M_safe 62 rfl) (tgt := 21) (by decide) ?_
            refine ih (by omega) 0 (by decide) ⟨fun h => absurd h (by decide), fun h => ?_⟩
            have h1 := hI.mpr ⟨h.1, fun z hz => h.2 z (by omega)⟩
            have h2 := h.2 k (by omega)
            first
              | omega
              | exact (h94 (h2.2.elim (fun h => absurd h h72) (fun h5 => ⟨(posI_ne h72 (hW.b _ _)).mpr h5.1, h5.2⟩))).elim
              | exact absurd ⟨h49, by have := (hW.o (m 52 (6 * r + k))).2.1; omega⟩ h2.1
          · refine e_aload_n (dat d_M_safe 40 rfl) 2 rfl rfl ?_
            refine s_qM (t := 53) (dat d_M_safe 41 rfl) 16 k_515 (by decide) rfl rfl rfl ?_
            refine e_iload_n (dat d_M_safe 42 rfl) 0 rfl rfl ?_
            refine s_ild (N := 48) (dat d_M_safe 43 rfl) rfl (by decide) rfl rfl (by omega) (rmf hm (by decide)) ?_
            refine n_if_eq (dat d_M_safe 44 rfl) (tgt := 97) (by decide) (lt64 (hW.b _ _)) (fun h72 => ?_) (fun h72 => ?_)
            · refine n_iconst (dat d_M_safe 57 rfl) 1 rfl ?_
              refine e_goto (dat d_M_safe 58 rfl) (tgt := 102) (by decide) ?_
              refine e_istore_n (dat d_M_safe 60 rfl) rfl (show 2 < 4 by decide) (lv2 := [(2, _), (3, _), (0, _), (1, _)]) rfl ?_
              refine n_iinc (q := 1) (dat d_M_safe 61 rfl) rfl (show 3 < 4 by decide) (lv2 := [(3, _), (2, _), (0, _), (1, _)]) rfl ?_
              refine e_goto (dat d_M_safe 62 rfl) (tgt := 21) (by decide) ?_
              have h1 := hI.mp (show b = 1 by omega)
              have hrg : rgt m (6 * r + k) := by
                refine ⟨?_, ?_⟩
                · intro h
                  first
                    | exact h49 h.1
                    | omega
                · first
                    | exact Or.inl h72
                    | exact Or.inr ⟨(posI_ne h72 (hW.b _ _)).mp h94.1, h94.2⟩
              refine ih (by omega) 1 (by decide) ⟨fun _ => ⟨h1.1, fun z hz => ?_⟩, fun _ => rfl⟩
              by_cases e : z = k
              · rw [e]
                exact hrg
              · exact h1.2 z (by omega)
            · refine e_aload_n (dat d_M_safe 45 rfl) 2 rfl rfl ?_
              refine e_aload_n (dat d_M_safe 46 rfl) 2 rfl rfl ?_
              refine s_qM (t := 52) (dat d_M_safe 47 rfl) 15 k_514 (by decide) rfl rfl rfl ?_
              refine e_iload_n (dat d_M_safe 48 rfl) 0 rfl rfl ?_
              refine s_ild (N := 48) (dat d_M_safe 49 rfl) rfl (by decide) rfl rfl (by omega) (rmf hm (by decide)) ?_
              refine e_aload_n (dat d_M_safe 50 rfl) 2 rfl rfl ?_
              refine s_qM (t := 53) (dat d_M_safe 51 rfl) 16 k_515 (by decide) rfl rfl rfl ?_
              refine e_iload_n (dat d_M_safe 52 rfl) 0 rfl rfl ?_
              refine s_ild (N := 48) (dat d_M_safe 53 rfl) rfl (by decide) rfl rfl (by omega) (rmf hm (by decide)) ?_
              refine r_callS (t_M_positionOf (hW.b _ _)) c_M_positionOf (dat d_M_safe 54 rfl) rfl k_605 rfl (show 2 ≤ 8 by decide) ⟨show 1 ≤ 1 by decide, show 20 ≤ 30 by decide⟩ ⟨show 0 ≤ 0 by decide, show 0 ≤ 0 by decide⟩ ?_
              refine r_call (t_M_found hW hm0 (by omega)) c_M_found (dat d_M_safe 55 rfl) rfl k_628 rfl rfl (by decide) (by omega) rfl (show 0 ≤ 8 by decide) ⟨show 1 ≤ 1 by decide, show 22 ≤ 30 by decide⟩ ⟨show 0 ≤ 0 by decide, show 0 ≤ 0 by decide⟩ ?_
              refine n_if_eq (dat d_M_safe 56 rfl) (tgt := 101) (by decide) if_lt (fun h94 => ?_) (fun h94 => ?_)
              · replace h94 := if_n h94
                refine n_iconst (dat d_M_safe 59 rfl) 0 rfl ?_
                refine e_istore_n (dat d_M_safe 60 rfl) rfl (show 2 < 4 by decide) (lv2 := [(2, _), (3, _), (0, _), (1, _)]) rfl ?_
                refine n_iinc (q := 1) (dat d_M_safe 61 rfl) rfl (show 3 < 4 by decide) (lv2 := [(3, _), (2, _), (0, _), (1, _)]) rfl ?_
                refine e_goto (dat d_M_safe 62 rfl) (tgt := 21) (by decide) ?_
                refine ih (by omega) 0 (by decide) ⟨fun h => absurd h (by decide), fun h => ?_⟩
                have h1 := hI.mpr ⟨h.1, fun z hz => h.2 z (by omega)⟩
                have h2 := h.2 k (by omega)
                first
                  | omega
                  | exact (h94 (h2.2.elim (fun h => absurd h h72) (fun h5 => ⟨(posI_ne h72 (hW.b _ _)).mpr h5.1, h5.2⟩))).elim
                  | exact absurd ⟨h49, by have := (hW.o (m 52 (6 * r + k))).2.1; omega⟩ h2.1
              · replace h94 := if_p h94
                refine n_iconst (dat d_M_safe 57 rfl) 1 rfl ?_
                refine e_goto (dat d_M_safe 58 rfl) (tgt := 102) (by decide) ?_
                refine e_istore_n (dat d_M_safe 60 rfl) rfl (show 2 < 4 by decide) (lv2 := [(2, _), (3, _), (0, _), (1, _)]) rfl ?_
                refine n_iinc (q := 1) (dat d_M_safe 61 rfl) rfl (show 3 < 4 by decide) (lv2 := [(3, _), (2, _), (0, _), (1, _)]) rfl ?_
                refine e_goto (dat d_M_safe 62 rfl) (tgt := 21) (by decide) ?_
                have h1 := hI.mp (show b = 1 by omega)
                have hrg : rgt m (6 * r + k) := by
                  refine ⟨?_, ?_⟩
                  · intro h
                    first
                      | exact h49 h.1
                      | omega
                  · first
                      | exact Or.inl h72
                      | exact Or.inr ⟨(posI_ne h72 (hW.b _ _)).mp h94.1, h94.2⟩
                refine ih (by omega) 1 (by decide) ⟨fun _ => ⟨h1.1, fun z hz => ?_⟩, fun _ => rfl⟩
                by_cases e : z = k
                · rw [e]
                  exact hrg
                · exact h1.2 z (by omega)
  refine e_aload_n (dat d_M_safe 0 rfl) 0 rfl rfl ?_
  refine s_qM (t := 48) (dat d_M_safe 1 rfl) 11 k_510 (by decide) rfl rfl rfl ?_
  refine e_iload_n (dat d_M_safe 2 rfl) 1 rfl rfl ?_
  refine s_ild (N := 8) (dat d_M_safe 3 rfl) rfl (by decide) rfl rfl (by omega) (rmf hm (by decide)) ?_
  refine n_iconst (dat d_M_safe 4 rfl) 1 rfl ?_
  refine n_icmp_ne (dat d_M_safe 5 rfl) (tgt := 14) (by decide) (lt64 (hW.b _ _)) (by decide) (fun h7 => ?_) (fun h7 => ?_)
  · refine n_iconst (dat d_M_safe 8 rfl) 0 rfl ?_
    refine e_istore_n (dat d_M_safe 9 rfl) rfl (show 2 < 4 by decide) (lv2 := [(2, _), (0, _), (1, _)]) rfl ?_
    refine n_bipush (dat d_M_safe 10 rfl) 6 rfl ?_
    refine e_iload_n (dat d_M_safe 11 rfl) 2 rfl rfl ?_
    refine n_imul (dat d_M_safe 12 rfl) ?_
    refine e_istore_n (dat d_M_safe 13 rfl) rfl (show 3 < 4 by decide) (lv2 := [(3, _), (2, _), (0, _), (1, _)]) rfl ?_
    exact L 0 (Nat.zero_le _) 0 (by decide) ⟨fun h => absurd h (by decide), fun h => absurd h.1 h7⟩
  · refine n_iconst (dat d_M_safe 6 rfl) 1 rfl ?_
    refine e_goto (dat d_M_safe 7 rfl) (tgt := 15) (by decide) ?_
    refine e_istore_n (dat d_M_safe 9 rfl) rfl (show 2 < 4 by decide) (lv2 := [(2, _), (0, _), (1, _)]) rfl ?_
    refine n_bipush (dat d_M_safe 10 rfl) 6 rfl ?_
    refine e_iload_n (dat d_M_safe 11 rfl) 2 rfl rfl ?_
    refine n_imul (dat d_M_safe 12 rfl) ?_
    refine e_istore_n (dat d_M_safe 13 rfl) rfl (show 3 < 4 by decide) (lv2 := [(3, _), (2, _), (0, _), (1, _)]) rfl ?_
    exact L 0 (Nat.zero_le _) 1 (by decide) ⟨fun _ => ⟨h7, fun z hz => absurd hz (Nat.not_lt_zero _)⟩, fun _ => rfl⟩
theorem t_M_look {E : wE} {m : wM} {f : wF} {w : Int64} (hW : Wv m) (hm : Rm m f) : Cq E i_M_look 2 0 0 [.ref (wB E + 39)] f w (fun v9 f9 => v9 = none ∧ Rm (look m) f9 ∧ fr9 f f9) (fun _ => False) := by
  have h12 := hW.S
  have h8 := hW.R
  replace hm := Rf.of hm
  refine cq_of rfl rfl rfl (show 1 ≤ 3 by decide) ?_
  have L : ∀ k, k ≤ m 39 7 → ∀ f1, Rf (lookN m k) f f1 → Ev E (jq E i_M_look 2 0 0 f w (fun v9 f9 => v9 = none ∧ Rm (look m) f9 ∧ fr9 f f9) (fun _ => False)) 0 0 2 [(1, .int (nI k)), (0, .ref (wB E + 39))] [] f1 g0 w 57 := by
    apply lp_ind
    intro k hk ih f1 hm
    generalize hM : lookN m k = M at hm
    have hW1 : Wv M := by
      rw [← hM]
      exact wv_look hW
    have eo : ∀ a b, a ≠ 50 → M a b = m a b := fun a b h => by
      rw [← hM]
      exact lookN_o h
    have g7 := eo 39 7 (by decide)
    have g1 := eo 39 1 (by decide)
    have h12 := hW1.S
    have h8 := hW1.R
    have e50 : M 50 k = m 50 k := by
      rw [← hM, lookN, if_neg (fun h => by omega)]
    have hsf : safe M k ↔ safe m k := by
      rw [← hM]
      exact safe_look
    have o50 := (hW.o k).2.2.2.1
    refine e_iload_n (dat d_M_look 2 rfl) 0 rfl rfl ?_
    refine e_aload_n (dat d_M_look 3 rfl) 1 rfl rfl ?_
    refine s_gM (dat d_M_look 4 rfl) 7 k_506 (by decide) rfl rfl (rmf7 hm) ?_
    refine n_icmp_ge (dat d_M_look 5 rfl) (tgt := 64) (by decide) (by omega) (by omega) (fun h7 => ?_) (fun h7 => ?_)
    · exact q_vret (dat d_M_look 36 rfl) rfl (show 0 ≤ 0 by decide) (show 0 ≤ 0 by decide) ⟨rfl, by rw [look, show m 39 7 = k by omega, hM]; exact hm.1, hm.2⟩
    · have hp := hW1.P (show k < M 39 7 by omega)
      have b46 := hW1.b 46 k
      refine e_aload_n (dat d_M_look 6 rfl) 1 rfl rfl ?_
      refine s_qM (t := 46) (dat d_M_look 7 rfl) 9 k_508 (by decide) rfl rfl rfl ?_
      refine e_iload_n (dat d_M_look 8 rfl) 0 rfl rfl ?_
      refine s_ild (N := 8) (dat d_M_look 9 rfl) rfl (by decide) rfl rfl (by omega) (rmf46 hm) ?_
      refine e_istore_n (dat d_M_look 10 rfl) rfl (show 2 < 3 by decide) (lv2 := [(2, _), (1, _), (0, _)]) rfl ?_
      refine e_aload_n (dat d_M_look 11 rfl) 2 rfl rfl ?_
      refine s_qM (t := 50) (dat d_M_look 12 rfl) 13 k_512 (by decide) rfl rfl rfl ?_
      refine e_iload_n (dat d_M_look 13 rfl) 1 rfl rfl ?_
      refine e_aload_n (dat d_M_look 14 rfl) 2 rfl rfl ?_
      refine s_qM (t := 50) (dat d_M_look 15 rfl) 13 k_512 (by decide) rfl rfl rfl ?_
      refine e_iload_n (dat d_M_look 16 rfl) 1 rfl rfl ?_
      refine s_bld (N := 8) (dat d_M_look 17 rfl) rfl (by decide) rfl rfl (by omega) (rmf hm (by decide)) ?_
      refine n_if_ne (dat d_M_look 18 rfl) (tgt := 52) (by decide) (lt64 (hW1.b _ _)) (fun h28 => ?_) (fun h28 => ?_)
      · refine n_iconst (dat d_M_look 30 rfl) 1 rfl ?_
        refine e_goto (dat d_M_look 31 rfl) (tgt := 57) (by decide) ?_
        refine m_bst (N := 8) (dat d_M_look 33 rfl) rfl (by decide) rfl rfl (by omega) (by decide) (by omega) hm (fun hm => ?_)
        refine n_iinc (q := 1) (dat d_M_look 34 rfl) rfl (show 1 < 3 by decide) (lv2 := [(1, _), (2, _), (0, _)]) rfl ?_
        refine e_goto (dat d_M_look 35 rfl) (tgt := 2) (by decide) ?_
        refine e_lv [0, 2] rfl ?_
        rw [← hM, look_w1 (by
          first
            | exact Or.inr (by omega)
            | exact Or.inl ⟨hsf.mp h36, Or.inl h40⟩
            | exact Or.inl ⟨hsf.mp h36, Or.inr (by rw [← eo 46 k (by decide), ← eo 41 _ (by decide)]; have := (hW1.o (M 46 k - 1)).2.1; omega)⟩)] at hm
        exact ih (by omega) _ hm
      · refine e_aload_n (dat d_M_look 19 rfl) 2 rfl rfl ?_
        refine e_iload_n (dat d_M_look 20 rfl) 1 rfl rfl ?_
        refine r_call (t_M_safe hW1 hm.1 (by omega)) c_M_safe (dat d_M_look 21 rfl) rfl k_624 rfl rfl (by decide) (by omega) rfl (show 2 ≤ 8 by decide) ⟨show 2 ≤ 2 by decide, show 53 ≤ 60 by decide⟩ ⟨show 0 ≤ 0 by decide, show 0 ≤ 0 by decide⟩ ?_
        refine n_if_eq (dat d_M_look 22 rfl) (tgt := 56) (by decide) if_lt (fun h36 => ?_) (fun h36 => ?_)
        · replace h36 := if_n h36
          refine n_iconst (dat d_M_look 32 rfl) 0 rfl ?_
          refine m_bst (N := 8) (dat d_M_look 33 rfl) rfl (by decide) rfl rfl (by omega) (by decide) (by omega) hm (fun hm => ?_)
          refine n_iinc (q := 1) (dat d_M_look 34 rfl) rfl (show 1 < 3 by decide) (lv2 := [(1, _), (2, _), (0, _)]) rfl ?_
          refine e_goto (dat d_M_look 35 rfl) (tgt := 2) (by decide) ?_
          refine e_lv [0, 2] rfl ?_
          rw [← hM, look_w0 (fun h => ?_) (by omega)] at hm
          · exact ih (by omega) _ hm
          · first
              | exact h36 (hsf.mpr h.1)
              | (have h2 := h.2
                 rw [nrA, ← eo 46 k (by decide), ← eo 41 _ (by decide)] at h2
                 omega)
        · replace h36 := if_p h36
          refine e_iload_n (dat d_M_look 23 rfl) 0 rfl rfl ?_
          refine e_if_lt (dat d_M_look 24 rfl) (tgt := 52) (by decide) (fun h40 => ?_) (fun h40 => ?_)
          · replace h40 : m 46 k = 0 := by
              rw [← eo 46 k (by decide)]
              exact (apI_neg (by omega)).mp h40
            refine n_iconst (dat d_M_look 30 rfl) 1 rfl ?_
            refine e_goto (dat d_M_look 31 rfl) (tgt := 57) (by decide) ?_
            refine m_bst (N := 8) (dat d_M_look 33 rfl) rfl (by decide) rfl rfl (by omega) (by decide) (by omega) hm (fun hm => ?_)
            refine n_iinc (q := 1) (dat d_M_look 34 rfl) rfl (show 1 < 3 by decide) (lv2 := [(1, _), (2, _), (0, _)]) rfl ?_
            refine e_goto (dat d_M_look 35 rfl) (tgt := 2) (by decide) ?_
            refine e_lv [0, 2] rfl ?_
            rw [← hM, look_w1 (by
              first
                | exact Or.inr (by omega)
                | exact Or.inl ⟨hsf.mp h36, Or.inl h40⟩
                | exact Or.inl ⟨hsf.mp h36, Or.inr (by rw [← eo 46 k (by decide), ← eo 41 _ (by decide)]; have := (hW1.o (M 46 k - 1)).2.1; omega)⟩)] at hm
            exact ih (by omega) _ hm
          · replace h40 : ¬ M 46 k = 0 := fun h => h40 ((apI_neg (by omega)).mpr h)
            refine e_aload_n (dat d_M_look 25 rfl) 2 rfl rfl ?_
            refine s_qM (t := 41) (dat d_M_look 26 rfl) 3 k_502 (by decide) rfl rfl rfl ?_
            refine e_iload_n (dat d_M_look 27 rfl) 0 rfl rfl ?_
            refine s_bld (N := 12) (dat d_M_look 28 rfl) rfl (by decide) rfl (show apI (M 46 k) = nI (M 46 k - 1) from if_neg h40) (by omega) (rmf hm (by decide)) ?_
            refine n_if_eq (dat d_M_look 29 rfl) (tgt := 56) (by decide) (lt64 (hW1.b _ _)) (fun h49 => ?_) (fun h49 => ?_)
            · refine n_iconst (dat d_M_look 32 rfl) 0 rfl ?_
              refine m_bst (N := 8) (dat d_M_look 33 rfl) rfl (by decide) rfl rfl (by omega) (by decide) (by omega) hm (fun hm => ?_)
              refine n_iinc (q := 1) (dat d_M_look 34 rfl) rfl (show 1 < 3 by decide) (lv2 := [(1, _), (2, _), (0, _)]) rfl ?_
              refine e_goto (dat d_M_look 35 rfl) (tgt := 2) (by decide) ?_
              refine e_lv [0, 2] rfl ?_
              rw [← hM, look_w0 (fun h => ?_) (by omega)] at hm
              · exact ih (by omega) _ hm
              · first
                  | exact h36 (hsf.mpr h.1)
                  | (have h2 := h.2
                     rw [nrA, ← eo 46 k (by decide), ← eo 41 _ (by decide)] at h2
                     omega)
            · refine n_iconst (dat d_M_look 30 rfl) 1 rfl ?_
              refine e_goto (dat d_M_look 31 rfl) (tgt := 57) (by decide) ?_
              refine m_bst (N := 8) (dat d_M_look 33 rfl) rfl (by decide) rfl rfl (by omega) (by decide) (by omega) hm (fun hm => ?_)
              refine n_iinc (q := 1) (dat d_M_look 34 rfl) rfl (show 1 < 3 by decide) (lv2 := [(1, _), (2, _), (0, _)]) rfl ?_
              refine e_goto (dat d_M_look 35 rfl) (tgt := 2) (by decide) ?_
              refine e_lv [0, 2] rfl ?_
              rw [← hM, look_w1 (by
                first
                  | exact Or.inr (by omega)
                  | exact Or.inl ⟨hsf.mp h36, Or.inl h40⟩
                  | exact Or.inl ⟨hsf.mp h36, Or.inr (by rw [← eo 46 k (by decide), ← eo 41 _ (by decide)]; have := (hW1.o (M 46 k - 1)).2.1; omega)⟩)] at hm
              exact ih (by omega) _ hm
  refine n_iconst (dat d_M_look 0 rfl) 0 rfl ?_
  refine e_istore_n (dat d_M_look 1 rfl) rfl (show 1 < 3 by decide) (lv2 := [(1, _), (0, _)]) rfl ?_
  exact L 0 (Nat.zero_le _) f (by rw [lookN_0]; exact hm)
theorem t_M_barred {E : wE} {m : wM} {f : wF} {w : Int64} {r : Nat} (hW : Wv m) (hm : Rm m f) (hr : r < m 39 7) : Cr E i_M_barred 2 [.ref (wB E + 39), .int (nI r)] f w (some (.int (nI (@ite Nat (∀ z, z < m 39 7 → barU m r z) (Classical.propDecidable _) 0 1)))) f := by
  have hm0 := hm
  have h12 := hW.S
  have h8 := hW.R
  replace hm := Rf.of hm
  refine cr_of rfl rfl rfl (show 2 ≤ 5 by decide) ?_
  have h6 := hW.N hr
  have L : ∀ k, k ≤ m 39 7 → (∀ z, z < k → barU m r z) → Ev E (jr E i_M_barred 2 f w (some (.int (nI (@ite Nat (∀ z, z < m 39 7 → barU m r z) (Classical.propDecidable _) 0 1)))) f) 0 0 2 [(2, .int (nI k)), (0, .ref (wB E + 39)), (1, .int (nI r))] [] f g0 w 57 := by
    apply lp_ind
    intro k hk ih hI
    refine e_iload_n (dat d_M_barred 2 rfl) 0 rfl rfl ?_
    refine e_aload_n (dat d_M_barred 3 rfl) 1 rfl rfl ?_
    refine s_gM (dat d_M_barred 4 rfl) 7 k_506 (by decide) rfl rfl (rmf7 hm) ?_
    refine n_icmp_ge (dat d_M_barred 5 rfl) (tgt := 133) (by decide) (by omega) (by omega) (fun h7 => ?_) (fun h7 => ?_)
    · refine n_iconst (dat d_M_barred 78 rfl) 0 rfl ?_
      exact q_zret (dat d_M_barred 79 rfl) rfl (z01 (by decide)) (show 0 ≤ 0 by decide) (show 0 ≤ 0 by decide) ⟨by rw [if_pos (fun z hz => hI z (by omega))], rfl⟩
    · refine e_iload_n (dat d_M_barred 6 rfl) 0 rfl rfl ?_
      refine e_iload_n (dat d_M_barred 7 rfl) 2 rfl rfl ?_
      refine n_icmp_eq (dat d_M_barred 8 rfl) (tgt := 127) (by decide) (by omega) (by omega) (fun h12 => ?_) (fun h12 => ?_)
      · refine n_iinc (q := 0) (dat d_M_barred 76 rfl) rfl (show 2 < 5 by decide) (lv2 := [(2, _), (0, _), (1, _)]) rfl ?_
        refine e_goto (dat d_M_barred 77 rfl) (tgt := 2) (by decide) ?_
        refine ih h7 (fun z hz => ?_)
        by_cases e : z = k
        · rw [e]
          exact fun h => absurd h12 h
        · exact hI z (by omega)
      · refine e_aload_n (dat d_M_barred 9 rfl) 1 rfl rfl ?_
        refine s_qM (t := 45) (dat d_M_barred 10 rfl) 8 k_507 (by decide) rfl rfl rfl ?_
        refine e_iload_n (dat d_M_barred 11 rfl) 0 rfl rfl ?_
        refine s_ild (N := 8) (dat d_M_barred 12 rfl) rfl (by decide) rfl rfl (by omega) (rmf hm (by decide)) ?_
        refine e_aload_n (dat d_M_barred 13 rfl) 1 rfl rfl ?_
        refine s_qM (t := 45) (dat d_M_barred 14 rfl) 8 k_507 (by decide) rfl rfl rfl ?_
        refine e_iload_n (dat d_M_barred 15 rfl) 2 rfl rfl ?_
        refine s_ild (N := 8) (dat d_M_barred 16 rfl) rfl (by decide) rfl rfl (by omega) (rmf hm (by decide)) ?_
        refine n_icmp_ne (dat d_M_barred 17 rfl) (tgt := 52) (by decide) (lt64 (hW.b _ _)) (lt64 (hW.b _ _)) (fun h27 => ?_) (fun h27 => ?_)
        · refine n_bipush (dat d_M_barred 32 rfl) 6 rfl ?_
          refine e_iload_n (dat d_M_barred 33 rfl) 0 rfl rfl ?_
          refine n_imul (dat d_M_barred 34 rfl) ?_
          refine e_istore_n (dat d_M_barred 35 rfl) rfl (show 3 < 5 by decide) (lv2 := [(3, _), (2, _), (0, _), (1, _)]) rfl ?_
          have h6k := hW.N h7
          have hsg : ¬ (m 45 k = m 45 r ∧ (m 48 k = 1 ∨ m 48 k = 3)) := by
            rintro ⟨a1, a2⟩
            first
              | exact h27 a1
              | exact a2.elim h37 h47
          have L2 : ∀ j, j ≤ m 51 k → (∀ z, z < j → ∀ i, i < m 51 r → ¬ (m 54 (6 * k + z) = 1 ∧ meetP m (6 * r + i) (6 * k + z))) → Ev E (jr E i_M_barred 2 f w (some (.int (nI (@ite Nat (∀ z, z < m 39 7 → barU m r z) (Classical.propDecidable _) 0 1)))) f) 0 0 57 [(3, .int (nI (6 * k + j))), (2, .int (nI k)), (0, .ref (wB E + 39)), (1, .int (nI r))] [] f g0 w 57 := by
            apply lp_ind
            intro j hj ihj hIj
            refine e_iload_n (dat d_M_barred 36 rfl) 0 rfl rfl ?_
            refine n_bipush (dat d_M_barred 37 rfl) 6 rfl ?_
            refine e_iload_n (dat d_M_barred 38 rfl) 1 rfl rfl ?_
            refine n_imul (dat d_M_barred 39 rfl) ?_
            refine e_aload_n (dat d_M_barred 40 rfl) 2 rfl rfl ?_
            refine s_qM (t := 51) (dat d_M_barred 41 rfl) 14 k_513 (by decide) rfl rfl rfl ?_
            refine e_iload_n (dat d_M_barred 42 rfl) 1 rfl rfl ?_
            refine s_ild (N := 8) (dat d_M_barred 43 rfl) rfl (by decide) rfl rfl (by omega) (rmf hm (by decide)) ?_
            refine n_iadd (dat d_M_barred 44 rfl) ?_
            refine n_icmp_ge (dat d_M_barred 45 rfl) (tgt := 127) (by decide) (by have := hW.b 51 k; omega) (by have := hW.b 51 k; omega) (fun h69 => ?_) (fun h69 => ?_)
            · refine n_iinc (q := 1) (dat d_M_barred 76 rfl) rfl (show 2 < 5 by decide) (lv2 := [(2, _), (3, _), (0, _), (1, _)]) rfl ?_
              refine e_goto (dat d_M_barred 77 rfl) (tgt := 2) (by decide) ?_
              refine e_lv [0, 2, 3] rfl ?_
              refine ih h7 (fun z hz => ?_)
              by_cases e : z = k
              · rw [e]
                exact fun _ => ⟨hsg, fun j9 hj9 => hIj j9 (by omega)⟩
              · exact hI z (by omega)
            · have hj1 : j < m 51 k := by omega
              refine n_bipush (dat d_M_barred 46 rfl) 6 rfl ?_
              refine e_iload_n (dat d_M_barred 47 rfl) 3 rfl rfl ?_
              refine n_imul (dat d_M_barred 48 rfl) ?_
              refine e_istore (dat d_M_barred 49 rfl) (show 4 < 5 by decide) (lv2 := [(4, _), (3, _), (2, _), (0, _), (1, _)]) rfl ?_
              have L3 : ∀ i, i ≤ m 51 r → (∀ z, z < i → ¬ (m 54 (6 * k + j) = 1 ∧ meetP m (6 * r + z) (6 * k + j))) → Ev E (jr E i_M_barred 2 f w (some (.int (nI (@ite Nat (∀ z, z < m 39 7 → barU m r z) (Classical.propDecidable _) 0 1)))) f) 0 0 78 [(4, .int (nI (6 * r + i))), (3, .int (nI (6 * k + j))), (2, .int (nI k)), (0, .ref (wB E + 39)), (1, .int (nI r))] [] f g0 w 57 := by
                apply lp_ind
                intro i hi ihi hIi
                refine e_iload (dat d_M_barred 50 rfl) 0 rfl ?_
                refine n_bipush (dat d_M_barred 51 rfl) 6 rfl ?_
                refine e_iload_n (dat d_M_barred 52 rfl) 4 rfl rfl ?_
                refine n_imul (dat d_M_barred 53 rfl) ?_
                refine e_aload_n (dat d_M_barred 54 rfl) 3 rfl rfl ?_
                refine s_qM (t := 51) (dat d_M_barred 55 rfl) 14 k_513 (by decide) rfl rfl rfl ?_
                refine e_iload_n (dat d_M_barred 56 rfl) 4 rfl rfl ?_
                refine s_ild (N := 8) (dat d_M_barred 57 rfl) rfl (by decide) rfl rfl (by omega) (rmf hm (by decide)) ?_
                refine n_iadd (dat d_M_barred 58 rfl) ?_
                refine n_icmp_ge (dat d_M_barred 59 rfl) (tgt := 121) (by decide) (by have := hW.b 51 r; omega) (by have := hW.b 51 r; omega) (fun h91 => ?_) (fun h91 => ?_)
                · refine n_iinc (q := 1) (dat d_M_barred 74 rfl) rfl (show 3 < 5 by decide) (lv2 := [(3, _), (4, _), (2, _), (0, _), (1, _)]) rfl ?_
                  refine e_goto (dat d_M_barred 75 rfl) (tgt := 57) (by decide) ?_
                  refine e_lv [0, 2, 3, 4] rfl ?_
                  refine ihj (by omega) (fun z hz => ?_)
                  by_cases e : z = j
                  · rw [e]
                    exact fun i9 hi9 => hIi i9 (by omega)
                  · exact hIj z (by omega)
                · have hi1 : i < m 51 r := by omega
                  refine e_aload_n (dat d_M_barred 60 rfl) 3 rfl rfl ?_
                  refine s_qM (t := 54) (dat d_M_barred 61 rfl) 17 k_516 (by decide) rfl rfl rfl ?_
                  refine e_iload_n (dat d_M_barred 62 rfl) 1 rfl rfl ?_
                  refine s_bld (N := 48) (dat d_M_barred 63 rfl) rfl (by decide) rfl rfl (by omega) (rmf hm (by decide)) ?_
                  refine n_if_eq (dat d_M_barred 64 rfl) (tgt := 115) (by decide) (lt64 (hW.b _ _)) (fun h100 => ?_) (fun h100 => ?_)
                  · refine n_iinc (q := 0) (dat d_M_barred 72 rfl) rfl (show 4 < 5 by decide) (lv2 := [(4, _), (3, _), (2, _), (0, _), (1, _)]) rfl ?_
                    refine e_goto (dat d_M_barred 73 rfl) (tgt := 78) (by decide) ?_
                    refine ihi (by omega) (fun z hz => ?_)
                    by_cases e : z = i
                    · rw [e]
                      rintro ⟨a1, a2⟩
                      first
                        | omega
                        | exact h110 a2
                    · exact hIi z (by omega)
                  · refine e_aload_n (dat d_M_barred 65 rfl) 3 rfl rfl ?_
                    refine e_iload (dat d_M_barred 66 rfl) 0 rfl ?_
                    refine e_iload_n (dat d_M_barred 67 rfl) 1 rfl rfl ?_
                    refine r_call (t_M_meet hW hm0 (by omega) (by omega)) c_M_meet (dat d_M_barred 68 rfl) rfl k_598 rfl rfl (by decide) (by omega) rfl (show 0 ≤ 8 by decide) ⟨show 2 ≤ 2 by decide, show 52 ≤ 60 by decide⟩ ⟨show 0 ≤ 0 by decide, show 0 ≤ 0 by decide⟩ ?_
                    refine n_if_eq (dat d_M_barred 69 rfl) (tgt := 115) (by decide) if_lt (fun h110 => ?_) (fun h110 => ?_)
                    · replace h110 := if_n h110
                      refine n_iinc (q := 0) (dat d_M_barred 72 rfl) rfl (show 4 < 5 by decide) (lv2 := [(4, _), (3, _), (2, _), (0, _), (1, _)]) rfl ?_
                      refine e_goto (dat d_M_barred 73 rfl) (tgt := 78) (by decide) ?_
                      refine ihi (by omega) (fun z hz => ?_)
                      by_cases e : z = i
                      · rw [e]
                        rintro ⟨a1, a2⟩
                        first
                          | omega
                          | exact h110 a2
                      · exact hIi z (by omega)
                    · replace h110 := if_p h110
                      refine n_iconst (dat d_M_barred 70 rfl) 1 rfl ?_
                      exact q_zret (dat d_M_barred 71 rfl) rfl (z01 (by decide)) (show 0 ≤ 0 by decide) (show 0 ≤ 0 by decide) ⟨by rw [if_neg (fun h => (h k h7 h12).2 j hj1 i hi1 ⟨by have := (hW.o (6 * k + j)).2.2.2.2.1; omega, h110⟩)], rfl⟩
              exact L3 0 (Nat.zero_le _) (fun z hz => absurd hz (Nat.not_lt_zero _))
          exact L2 0 (Nat.zero_le _) (fun z hz => absurd hz (Nat.not_lt_zero _))
        · refine e_aload_n (dat d_M_barred 18 rfl) 1 rfl rfl ?_
          refine s_qM (t := 48) (dat d_M_barred 19 rfl) 11 k_510 (by decide) rfl rfl rfl ?_
          refine e_iload_n (dat d_M_barred 20 rfl) 0 rfl rfl ?_
          refine s_ild (N := 8) (dat d_M_barred 21 rfl) rfl (by decide) rfl rfl (by omega) (rmf hm (by decide)) ?_
          refine n_iconst (dat d_M_barred 22 rfl) 1 rfl ?_
          refine n_icmp_eq (dat d_M_barred 23 rfl) (tgt := 50) (by decide) (lt64 (hW.b _ _)) (by decide) (fun h37 => ?_) (fun h37 => ?_)
          · refine n_iconst (dat d_M_barred 30 rfl) 1 rfl ?_
            exact q_zret (dat d_M_barred 31 rfl) rfl (z01 (by decide)) (show 0 ≤ 0 by decide) (show 0 ≤ 0 by decide) ⟨by rw [if_neg (fun h => (h k h7 h12).1 ⟨h27, by first | exact Or.inl h37 | exact Or.inr h47⟩)], rfl⟩
          · refine e_aload_n (dat d_M_barred 24 rfl) 1 rfl rfl ?_
            refine s_qM (t := 48) (dat d_M_barred 25 rfl) 11 k_510 (by decide) rfl rfl rfl ?_
            refine e_iload_n (dat d_M_barred 26 rfl) 0 rfl rfl ?_
            refine s_ild (N := 8) (dat d_M_barred 27 rfl) rfl (by decide) rfl rfl (by omega) (rmf hm (by decide)) ?_
            refine n_iconst (dat d_M_barred 28 rfl) 3 rfl ?_
            refine n_icmp_ne (dat d_M_barred 29 rfl) (tgt := 52) (by decide) (lt64 (hW.b _ _)) (by decide) (fun h47 => ?_) (fun h47 => ?_)
            · refine n_bipush (dat d_M_barred 32 rfl) 6 rfl ?_
              refine e_iload_n (dat d_M_barred 33 rfl) 0 rfl rfl ?_
              refine n_imul (dat d_M_barred 34 rfl) ?_
              refine e_istore_n (dat d_M_barred 35 rfl) rfl (show 3 < 5 by decide) (lv2 := [(3, _), (2, _), (0, _), (1, _)]) rfl ?_
              have h6k := hW.N h7
              have hsg : ¬ (m 45 k = m 45 r ∧ (m 48 k = 1 ∨ m 48 k = 3)) := by
                rintro ⟨a1, a2⟩
                first
                  | exact h27 a1
                  | exact a2.elim h37 h47
              have L2 : ∀ j, j ≤ m 51 k → (∀ z, z < j → ∀ i, i < m 51 r → ¬ (m 54 (6 * k + z) = 1 ∧ meetP m (6 * r + i) (6 * k + z))) → Ev E (jr E i_M_barred 2 f w (some (.int (nI (@ite Nat (∀ z, z < m 39 7 → barU m r z) (Classical.propDecidable _) 0 1)))) f) 0 0 57 [(3, .int (nI (6 * k + j))), (2, .int (nI k)), (0, .ref (wB E + 39)), (1, .int (nI r))] [] f g0 w 57 := by
                apply lp_ind
                intro j hj ihj hIj
                refine e_iload_n (dat d_M_barred 36 rfl) 0 rfl rfl ?_
                refine n_bipush (dat d_M_barred 37 rfl) 6 rfl ?_
                refine e_iload_n (dat d_M_barred 38 rfl) 1 rfl rfl ?_
                refine n_imul (dat d_M_barred 39 rfl) ?_
                refine e_aload_n (dat d_M_barred 40 rfl) 2 rfl rfl ?_
                refine s_qM (t := 51) (dat d_M_barred 41 rfl) 14 k_513 (by decide) rfl rfl rfl ?_
                refine e_iload_n (dat d_M_barred 42 rfl) 1 rfl rfl ?_
                refine s_ild (N := 8) (dat d_M_barred 43 rfl) rfl (by decide) rfl rfl (by omega) (rmf hm (by decide)) ?_
                refine n_iadd (dat d_M_barred 44 rfl) ?_
                refine n_icmp_ge (dat d_M_barred 45 rfl) (tgt := 127) (by decide) (by have := hW.b 51 k; omega) (by have := hW.b 51 k; omega) (fun h69 => ?_) (fun h69 => ?_)
                · refine n_iinc (q := 1) (dat d_M_barred 76 rfl) rfl (show 2 < 5 by decide) (lv2 := [(2, _), (3, _), (0, _), (1, _)]) rfl ?_
                  refine e_goto (dat d_M_barred 77 rfl) (tgt := 2) (by decide) ?_
                  refine e_lv [0, 2, 3] rfl ?_
                  refine ih h7 (fun z hz => ?_)
                  by_cases e : z = k
                  · rw [e]
                    exact fun _ => ⟨hsg, fun j9 hj9 => hIj j9 (by omega)⟩
                  · exact hI z (by omega)
                · have hj1 : j < m 51 k := by omega
                  refine n_bipush (dat d_M_barred 46 rfl) 6 rfl ?_
                  refine e_iload_n (dat d_M_barred 47 rfl) 3 rfl rfl ?_
                  refine n_imul (dat d_M_barred 48 rfl) ?_
                  refine e_istore (dat d_M_barred 49 rfl) (show 4 < 5 by decide) (lv2 := [(4, _), (3, _), (2, _), (0, _), (1, _)]) rfl ?_
                  have L3 : ∀ i, i ≤ m 51 r → (∀ z, z < i → ¬ (m 54 (6 * k + j) = 1 ∧ meetP m (6 * r + z) (6 * k + j))) → Ev E (jr E i_M_barred 2 f w (some (.int (nI (@ite Nat (∀ z, z < m 39 7 → barU m r z) (Classical.propDecidable _) 0 1)))) f) 0 0 78 [(4, .int (nI (6 * r + i))), (3, .int (nI (6 * k + j))), (2, .int (nI k)), (0, .ref (wB E + 39)), (1, .int (nI r))] [] f g0 w 57 := by
                    apply lp_ind
                    intro i hi ihi hIi
                    refine e_iload (dat d_M_barred 50 rfl) 0 rfl ?_
                    refine n_bipush (dat d_M_barred 51 rfl) 6 rfl ?_
                    refine e_iload_n (dat d_M_barred 52 rfl) 4 rfl rfl ?_
                    refine n_imul (dat d_M_barred 53 rfl) ?_
                    refine e_aload_n (dat d_M_barred 54 rfl) 3 rfl rfl ?_
                    refine s_qM (t := 51) (dat d_M_barred 55 rfl) 14 k_513 (by decide) rfl rfl rfl ?_
                    refine e_iload_n (dat d_M_barred 56 rfl) 4 rfl rfl ?_
                    refine s_ild (N := 8) (dat d_M_barred 57 rfl) rfl (by decide) rfl rfl (by omega) (rmf hm (by decide)) ?_
                    refine n_iadd (dat d_M_barred 58 rfl) ?_
                    refine n_icmp_ge (dat d_M_barred 59 rfl) (tgt := 121) (by decide) (by have := hW.b 51 r; omega) (by have := hW.b 51 r; omega) (fun h91 => ?_) (fun h91 => ?_)
                    · refine n_iinc (q := 1) (dat d_M_barred 74 rfl) rfl (show 3 < 5 by decide) (lv2 := [(3, _), (4, _), (2, _), (0, _), (1, _)]) rfl ?_
                      refine e_goto (dat d_M_barred 75 rfl) (tgt := 57) (by decide) ?_
                      refine e_lv [0, 2, 3, 4] rfl ?_
                      refine ihj (by omega) (fun z hz => ?_)
                      by_cases e : z = j
                      · rw [e]
                        exact fun i9 hi9 => hIi i9 (by omega)
                      · exact hIj z (by omega)
                    · have hi1 : i < m 51 r := by omega
                      refine e_aload_n (dat d_M_barred 60 rfl) 3 rfl rfl ?_
                      refine s_qM (t := 54) (dat d_M_barred 61 rfl) 17 k_516 (by decide) rfl rfl rfl ?_
                      refine e_iload_n (dat d_M_barred 62 rfl) 1 rfl rfl ?_
                      refine s_bld (N := 48) (dat d_M_barred 63 rfl) rfl (by decide) rfl rfl (by omega) (rmf hm (by decide)) ?_
                      refine n_if_eq (dat d_M_barred 64 rfl) (tgt := 115) (by decide) (lt64 (hW.b _ _)) (fun h100 => ?_) (fun h100 => ?_)
                      · refine n_iinc (q := 0) (dat d_M_barred 72 rfl) rfl (show 4 < 5 by decide) (lv2 := [(4, _), (3, _), (2, _), (0, _), (1, _)]) rfl ?_
                        refine e_goto (dat d_M_barred 73 rfl) (tgt := 78) (by decide) ?_
                        refine ihi (by omega) (fun z hz => ?_)
                        by_cases e : z = i
                        · rw [e]
                          rintro ⟨a1, a2⟩
                          first
                            | omega
                            | exact h110 a2
                        · exact hIi z (by omega)
                      · refine e_aload_n (dat d_M_barred 65 rfl) 3 rfl rfl ?_
                        refine e_iload (dat d_M_barred 66 rfl) 0 rfl ?_
                        refine e_iload_n (dat d_M_barred 67 rfl) 1 rfl rfl ?_
                        refine r_call (t_M_meet hW hm0 (by omega) (by omega)) c_M_meet (dat d_M_barred 68 rfl) rfl k_598 rfl rfl (by decide) (by omega) rfl (show 0 ≤ 8 by decide) ⟨show 2 ≤ 2 by decide, show 52 ≤ 60 by decide⟩ ⟨show 0 ≤ 0 by decide, show 0 ≤ 0 by decide⟩ ?_
                        refine n_if_eq (dat d_M_barred 69 rfl) (tgt := 115) (by decide) if_lt (fun h110 => ?_) (fun h110 => ?_)
                        · replace h110 := if_n h110
                          refine n_iinc (q := 0) (dat d_M_barred 72 rfl) rfl (show 4 < 5 by decide) (lv2 := [(4, _), (3, _), (2, _), (0, _), (1, _)]) rfl ?_
                          refine e_goto (dat d_M_barred 73 rfl) (tgt := 78) (by decide) ?_
                          refine ihi (by omega) (fun z hz => ?_)
                          by_cases e : z = i
                          · rw [e]
                            rintro ⟨a1, a2⟩
                            first
                              | omega
                              | exact h110 a2
                          · exact hIi z (by omega)
                        · replace h110 := if_p h110
                          refine n_iconst (dat d_M_barred 70 rfl) 1 rfl ?_
                          exact q_zret (dat d_M_barred 71 rfl) rfl (z01 (by decide)) (show 0 ≤ 0 by decide) (show 0 ≤ 0 by decide) ⟨by rw [if_neg (fun h => (h k h7 h12).2 j hj1 i hi1 ⟨by have := (hW.o (6 * k + j)).2.2.2.2.1; omega, h110⟩)], rfl⟩
                  exact L3 0 (Nat.zero_le _) (fun z hz => absurd hz (Nat.not_lt_zero _))
              exact L2 0 (Nat.zero_le _) (fun z hz => absurd hz (Nat.not_lt_zero _))
            · refine n_iconst (dat d_M_barred 30 rfl) 1 rfl ?_
              exact q_zret (dat d_M_barred 31 rfl) rfl (z01 (by decide)) (show 0 ≤ 0 by decide) (show 0 ≤ 0 by decide) ⟨by rw [if_neg (fun h => (h k h7 h12).1 ⟨h27, by first | exact Or.inl h37 | exact Or.inr h47⟩)], rfl⟩
  refine n_iconst (dat d_M_barred 0 rfl) 0 rfl ?_
  refine e_istore_n (dat d_M_barred 1 rfl) rfl (show 2 < 5 by decide) (lv2 := [(2, _), (0, _), (1, _)]) rfl ?_
  exact L 0 (Nat.zero_le _) (fun j hj => absurd hj (Nat.not_lt_zero _))
theorem t_M_leave {E : wE} {m : wM} {f : wF} {w : Int64} {r : Nat} (hW : Wv m) (hm : Rm m f) (hr : r < m 39 7) : Cq E i_M_leave 1 0 0 [.ref (wB E + 39), .int (nI r)] f w (fun v9 f9 => v9 = none ∧ Rm (lvR m r) f9 ∧ fr9 f f9) (fun _ => False) := by
  have h12 := hW.S
  have h8 := hW.R
  replace hm := Rf.of hm
  refine cq_of rfl rfl rfl (show 2 ≤ 5 by decide) ?_
  have h6 := hW.N hr
  have L : ∀ k, k ≤ m 51 r → ∀ b, b ≤ 1 → ∀ c, b + c = 1 → (b = 1 ↔ ∀ z, z < k → goU m (6 * r + z)) → ∀ f1, Rf (lvN m r k) f f1 → Ev E (jq E i_M_leave 1 0 0 f w (fun v9 f9 => v9 = none ∧ Rm (lvR m r) f9 ∧ fr9 f f9) (fun _ => False)) 0 0 10 [(4, .int (nI (6 * r + k))), (3, .int (nI c)), (2, .int (nI b)), (0, .ref (wB E + 39)), (1, .int (nI r))] [] f1 g0 w 57 := by
    apply lp_ind
    intro k hk ih b hb1 c hbc hI f1 hm
    have eo : ∀ a b, a ≠ 54 → lvN m r k a b = m a b := fun a b h => if_neg (fun h9 => h h9.1)
    have hW1 : Wv (lvN m r k) := wv_lvN hW
    generalize hM : lvN m r k = M at hm hW1 eo
    have g51 := eo 51 r (by decide)
    have g7 := eo 39 7 (by decide)
    have g1 := eo 39 1 (by decide)
    have k54 : M 54 (6 * r + k) = m 54 (6 * r + k) := by
      rw [← hM, lvN, if_neg (by omega)]
    have o54 := (hW.o (6 * r + k)).2.2.2.2.1
    have o55 := (hW.o (6 * r + k)).2.2.2.2.2
    refine e_iload (dat d_M_leave 8 rfl) 0 rfl ?_
    refine n_bipush (dat d_M_leave 9 rfl) 6 rfl ?_
    refine e_iload_n (dat d_M_leave 10 rfl) 4 rfl rfl ?_
    refine n_imul (dat d_M_leave 11 rfl) ?_
    refine e_aload_n (dat d_M_leave 12 rfl) 3 rfl rfl ?_
    refine s_qM (t := 51) (dat d_M_leave 13 rfl) 14 k_513 (by decide) rfl rfl rfl ?_
    refine e_iload_n (dat d_M_leave 14 rfl) 4 rfl rfl ?_
    refine s_ild (N := 8) (dat d_M_leave 15 rfl) rfl (by decide) rfl rfl (by omega) (rmf hm (by decide)) ?_
    refine n_iadd (dat d_M_leave 16 rfl) ?_
    refine n_icmp_ge (dat d_M_leave 17 rfl) (tgt := 120) (by decide) (by have := hW1.b 51 r; omega) (by have := hW1.b 51 r; omega) (fun h23 => ?_) (fun h23 => ?_)
    · refine e_iload_n (dat d_M_leave 67 rfl) 1 rfl rfl ?_
      refine n_if_ne (dat d_M_leave 68 rfl) (tgt := 129) (by decide) (by omega) (fun h121 => ?_) (fun h121 => ?_)
      · exact q_vret (dat d_M_leave 72 rfl) rfl (show 0 ≤ 0 by decide) (show 0 ≤ 0 by decide) ⟨rfl, by first | (rw [← lv_end (by omega) (fun z hz => hI.mp (by omega) z (by omega)), show m 51 r = k by omega, hM]; exact hm9) | (rw [lvR, if_neg (fun h => absurd (hI.mpr (fun z hz => h z (by omega))) (by omega)), show m 51 r = k by omega, hM]; exact hm.1), by first | exact hm.2.tr hf9 | exact hm.2⟩
      · refine e_aload_n (dat d_M_leave 69 rfl) 3 rfl rfl ?_
        refine e_iload_n (dat d_M_leave 70 rfl) 4 rfl rfl ?_
        refine q_call (t_M_release hW1 hm.1 (by omega)) c_M_release (dat d_M_leave 71 rfl) rfl k_578 rfl rfl (by decide) (by omega) rfl (show 0 ≤ 8 by decide) ⟨show 1 ≤ 1 by decide, show 22 ≤ 30 by decide⟩ ⟨show 0 ≤ 0 by decide, show 0 ≤ 0 by decide⟩ (fun v9 f9 h9 => ?_) (fun X9 h9 => h9.elim)
        obtain ⟨rfl, hm9, hf9⟩ := h9
        exact q_vret (dat d_M_leave 72 rfl) rfl (show 0 ≤ 0 by decide) (show 0 ≤ 0 by decide) ⟨rfl, by first | (rw [← lv_end (by omega) (fun z hz => hI.mp (by omega) z (by omega)), show m 51 r = k by omega, hM]; exact hm9) | (rw [lvR, if_neg (fun h => absurd (hI.mpr (fun z hz => h z (by omega))) (by omega)), show m 51 r = k by omega, hM]; exact hm.1), by first | exact hm.2.tr hf9 | exact hm.2⟩
    · refine e_aload_n (dat d_M_leave 18 rfl) 3 rfl rfl ?_
      refine s_qM (t := 53) (dat d_M_leave 19 rfl) 16 k_515 (by decide) rfl rfl rfl ?_
      refine e_iload (dat d_M_leave 20 rfl) 0 rfl ?_
      refine s_ild (N := 48) (dat d_M_leave 21 rfl) rfl (by decide) rfl rfl (by omega) (rmf hm (by decide)) ?_
      refine r_callS (t_M_passes (hW1.b _ _)) c_M_passes (dat d_M_leave 22 rfl) rfl k_602 rfl (show 0 ≤ 8 by decide) ⟨show 1 ≤ 1 by decide, show 20 ≤ 30 by decide⟩ ⟨show 0 ≤ 0 by decide, show 0 ≤ 0 by decide⟩ ?_
      refine n_if_eq (dat d_M_leave 23 rfl) (tgt := 114) (by decide) if_lt (fun h36 => ?_) (fun h36 => ?_)
      · replace h36 := if_n h36
        refine n_iinc (q := 0) (dat d_M_leave 65 rfl) rfl (show 4 < 5 by decide) (lv2 := [(4, _), (3, _), (2, _), (0, _), (1, _)]) rfl ?_
        refine e_goto (dat d_M_leave 66 rfl) (tgt := 10) (by decide) ?_
        have h0 : m 53 (6 * r + k) < 3 → m 54 (6 * r + k) = 0 := by
          intro a1
          rw [← eo 53 _ (by decide)] at a1
          first
            | exact absurd a1 h36
            | omega
        rw [← hM, ← lv_0 h0] at hm
        refine ih (by omega) b hb1 c hbc ⟨fun h z hz => ?_, fun h => hI.mpr (fun z hz => h z (by omega))⟩ _ hm
        by_cases e : z = k
        · rw [e]
          intro a1 a2
          have := h0 a1
          omega
        · exact hI.mp h z (by omega)
      · replace h36 := if_p h36
        have hk1 : k < M 51 r := by omega
        have hw := hW1.w (by omega) hk1
        refine e_aload_n (dat d_M_leave 24 rfl) 3 rfl rfl ?_
        refine s_qM (t := 54) (dat d_M_leave 25 rfl) 17 k_516 (by decide) rfl rfl rfl ?_
        refine e_iload (dat d_M_leave 26 rfl) 0 rfl ?_
        refine s_bld (N := 48) (dat d_M_leave 27 rfl) rfl (by decide) rfl rfl (by omega) (rmf hm (by decide)) ?_
        refine n_if_eq (dat d_M_leave 28 rfl) (tgt := 114) (by decide) (lt64 (hW1.b _ _)) (fun h46 => ?_) (fun h46 => ?_)
        · refine n_iinc (q := 0) (dat d_M_leave 65 rfl) rfl (show 4 < 5 by decide) (lv2 := [(4, _), (3, _), (2, _), (0, _), (1, _)]) rfl ?_
          refine e_goto (dat d_M_leave 66 rfl) (tgt := 10) (by decide) ?_
          have h0 : m 53 (6 * r + k) < 3 → m 54 (6 * r + k) = 0 := by
            intro a1
            rw [← eo 53 _ (by decide)] at a1
            first
              | exact absurd a1 h36
              | omega
          rw [← hM, ← lv_0 h0] at hm
          refine ih (by omega) b hb1 c hbc ⟨fun h z hz => ?_, fun h => hI.mpr (fun z hz => h z (by omega))⟩ _ hm
          by_cases e : z = k
          · rw [e]
            intro a1 a2
            have := h0 a1
            omega
          · exact hI.mp h z (by omega)
        · refine e_iload_n (dat d_M_leave 29 rfl) 2 rfl rfl ?_
          refine n_if_eq (dat d_M_leave 30 rfl) (tgt := 82) (by decide) (by omega) (fun h50 => ?_) (fun h50 => ?_)
          · refine n_iconst (dat d_M_leave 46 rfl) 0 rfl ?_
            refine e_istore_n (dat d_M_leave 47 rfl) rfl (show 2 < 5 by decide) (lv2 := [(2, _), (4, _), (3, _), (0, _), (1, _)]) rfl ?_
            refine e_aload_n (dat d_M_leave 48 rfl) 3 rfl rfl ?_
            refine s_qM (t := 54) (dat d_M_leave 49 rfl) 17 k_516 (by decide) rfl rfl rfl ?_
            refine e_iload (dat d_M_leave 50 rfl) 1 rfl ?_
            refine e_iload_n (dat d_M_leave 51 rfl) 0 rfl rfl ?_
            refine n_if_ne (dat d_M_leave 52 rfl) (tgt := 98) (by decide) (by omega) (fun h91 => ?_) (fun h91 => ?_)
            · first | exact absurd rfl h91 | exact absurd h91 (by decide)
            · refine n_iconst (dat d_M_leave 53 rfl) 1 rfl ?_
              refine e_goto (dat d_M_leave 54 rfl) (tgt := 99) (by decide) ?_
              refine m_bst (N := 48) (dat d_M_leave 56 rfl) rfl (by decide) rfl rfl (by omega) (by decide) (by omega) hm (fun hm => ?_)
              refine e_iload_n (dat d_M_leave 57 rfl) 2 rfl rfl ?_
              refine n_if_ne (dat d_M_leave 58 rfl) (tgt := 108) (by decide) (by omega) (fun h101 => ?_) (fun h101 => ?_)
              · refine n_iconst (dat d_M_leave 61 rfl) 1 rfl ?_
                refine e_goto (dat d_M_leave 62 rfl) (tgt := 113) (by decide) ?_
                refine e_istore_n (dat d_M_leave 64 rfl) rfl (show 3 < 5 by decide) (lv2 := [(3, _), (2, _), (4, _), (0, _), (1, _)]) rfl ?_
                refine n_iinc (q := 2) (dat d_M_leave 65 rfl) rfl (show 4 < 5 by decide) (lv2 := [(4, _), (3, _), (2, _), (0, _), (1, _)]) rfl ?_
                refine e_goto (dat d_M_leave 66 rfl) (tgt := 10) (by decide) ?_
                have hg : ¬ ∀ z, z < k + 1 → goU m (6 * r + z) := by
                  intro h
                  have h1 := hI.mpr (fun z hz => h z (by omega))
                  have h2 := h k (by omega) (by rw [← eo 53 _ (by decide)]; exact h36) (by omega)
                  rw [← eo 55 _ (by decide), ← eo 52 _ (by decide), ← eo 41 _ (by decide)] at h2
                  omega
                rw [← hM, lv_2 (by omega) hg] at hm
                refine ih (by omega) 0 (by decide) 1 ?_ ⟨fun h => absurd h (by decide), fun h => absurd h hg⟩ _ hm
                omega
              · refine e_iload_n (dat d_M_leave 59 rfl) 0 rfl rfl ?_
                refine n_if_ne (dat d_M_leave 60 rfl) (tgt := 112) (by decide) (by omega) (fun h105 => ?_) (fun h105 => ?_)
                · first | exact absurd rfl h105 | exact absurd h105 (by decide)
                · refine n_iconst (dat d_M_leave 61 rfl) 1 rfl ?_
                  refine e_goto (dat d_M_leave 62 rfl) (tgt := 113) (by decide) ?_
                  refine e_istore_n (dat d_M_leave 64 rfl) rfl (show 3 < 5 by decide) (lv2 := [(3, _), (2, _), (4, _), (0, _), (1, _)]) rfl ?_
                  refine n_iinc (q := 2) (dat d_M_leave 65 rfl) rfl (show 4 < 5 by decide) (lv2 := [(4, _), (3, _), (2, _), (0, _), (1, _)]) rfl ?_
                  refine e_goto (dat d_M_leave 66 rfl) (tgt := 10) (by decide) ?_
                  have hg : ¬ ∀ z, z < k + 1 → goU m (6 * r + z) := by
                    intro h
                    have h1 := hI.mpr (fun z hz => h z (by omega))
                    have h2 := h k (by omega) (by rw [← eo 53 _ (by decide)]; exact h36) (by omega)
                    rw [← eo 55 _ (by decide), ← eo 52 _ (by decide), ← eo 41 _ (by decide)] at h2
                    omega
                  rw [← hM, lv_2 (by omega) hg] at hm
                  refine ih (by omega) 0 (by decide) 1 ?_ ⟨fun h => absurd h (by decide), fun h => absurd h hg⟩ _ hm
                  omega
          · refine e_aload_n (dat d_M_leave 31 rfl) 3 rfl rfl ?_
            refine s_qM (t := 55) (dat d_M_leave 32 rfl) 18 k_517 (by decide) rfl rfl rfl ?_
            refine e_iload (dat d_M_leave 33 rfl) 0 rfl ?_
            refine s_bld (N := 48) (dat d_M_leave 34 rfl) rfl (by decide) rfl rfl (by omega) (rmf hm (by decide)) ?_
            refine n_if_eq (dat d_M_leave 35 rfl) (tgt := 82) (by decide) (lt64 (hW1.b _ _)) (fun h60 => ?_) (fun h60 => ?_)
            · refine n_iconst (dat d_M_leave 46 rfl) 0 rfl ?_
              refine e_istore_n (dat d_M_leave 47 rfl) rfl (show 2 < 5 by decide) (lv2 := [(2, _), (4, _), (3, _), (0, _), (1, _)]) rfl ?_
              refine e_aload_n (dat d_M_leave 48 rfl) 3 rfl rfl ?_
              refine s_qM (t := 54) (dat d_M_leave 49 rfl) 17 k_516 (by decide) rfl rfl rfl ?_
              refine e_iload (dat d_M_leave 50 rfl) 1 rfl ?_
              refine e_iload_n (dat d_M_leave 51 rfl) 0 rfl rfl ?_
              refine n_if_ne (dat d_M_leave 52 rfl) (tgt := 98) (by decide) (by omega) (fun h91 => ?_) (fun h91 => ?_)
              · first | exact absurd rfl h91 | exact absurd h91 (by decide)
              · refine n_iconst (dat d_M_leave 53 rfl) 1 rfl ?_
                refine e_goto (dat d_M_leave 54 rfl) (tgt := 99) (by decide) ?_
                refine m_bst (N := 48) (dat d_M_leave 56 rfl) rfl (by decide) rfl rfl (by omega) (by decide) (by omega) hm (fun hm => ?_)
                refine e_iload_n (dat d_M_leave 57 rfl) 2 rfl rfl ?_
                refine n_if_ne (dat d_M_leave 58 rfl) (tgt := 108) (by decide) (by omega) (fun h101 => ?_) (fun h101 => ?_)
                · refine n_iconst (dat d_M_leave 61 rfl) 1 rfl ?_
                  refine e_goto (dat d_M_leave 62 rfl) (tgt := 113) (by decide) ?_
                  refine e_istore_n (dat d_M_leave 64 rfl) rfl (show 3 < 5 by decide) (lv2 := [(3, _), (2, _), (4, _), (0, _), (1, _)]) rfl ?_
                  refine n_iinc (q := 2) (dat d_M_leave 65 rfl) rfl (show 4 < 5 by decide) (lv2 := [(4, _), (3, _), (2, _), (0, _), (1, _)]) rfl ?_
                  refine e_goto (dat d_M_leave 66 rfl) (tgt := 10) (by decide) ?_
                  have hg : ¬ ∀ z, z < k + 1 → goU m (6 * r + z) := by
                    intro h
                    have h1 := hI.mpr (fun z hz => h z (by omega))
                    have h2 := h k (by omega) (by rw [← eo 53 _ (by decide)]; exact h36) (by omega)
                    rw [← eo 55 _ (by decide), ← eo 52 _ (by decide), ← eo 41 _ (by decide)] at h2
                    omega
                  rw [← hM, lv_2 (by omega) hg] at hm
                  refine ih (by omega) 0 (by decide) 1 ?_ ⟨fun h => absurd h (by decide), fun h => absurd h hg⟩ _ hm
                  omega
                · refine e_iload_n (dat d_M_leave 59 rfl) 0 rfl rfl ?_
                  refine n_if_ne (dat d_M_leave 60 rfl) (tgt := 112) (by decide) (by omega) (fun h105 => ?_) (fun h105 => ?_)
                  · first | exact absurd rfl h105 | exact absurd h105 (by decide)
                  · refine n_iconst (dat d_M_leave 61 rfl) 1 rfl ?_
                    refine e_goto (dat d_M_leave 62 rfl) (tgt := 113) (by decide) ?_
                    refine e_istore_n (dat d_M_leave 64 rfl) rfl (show 3 < 5 by decide) (lv2 := [(3, _), (2, _), (4, _), (0, _), (1, _)]) rfl ?_
                    refine n_iinc (q := 2) (dat d_M_leave 65 rfl) rfl (show 4 < 5 by decide) (lv2 := [(4, _), (3, _), (2, _), (0, _), (1, _)]) rfl ?_
                    refine e_goto (dat d_M_leave 66 rfl) (tgt := 10) (by decide) ?_
                    have hg : ¬ ∀ z, z < k + 1 → goU m (6 * r + z) := by
                      intro h
                      have h1 := hI.mpr (fun z hz => h z (by omega))
                      have h2 := h k (by omega) (by rw [← eo 53 _ (by decide)]; exact h36) (by omega)
                      rw [← eo 55 _ (by decide), ← eo 52 _ (by decide), ← eo 41 _ (by decide)] at h2
                      omega
                    rw [← hM, lv_2 (by omega) hg] at hm
                    refine ih (by omega) 0 (by decide) 1 ?_ ⟨fun h => absurd h (by decide), fun h => absurd h hg⟩ _ hm
                    omega
            · refine e_aload_n (dat d_M_leave 36 rfl) 3 rfl rfl ?_
              refine s_qM (t := 41) (dat d_M_leave 37 rfl) 3 k_502 (by decide) rfl rfl rfl ?_
              refine e_aload_n (dat d_M_leave 38 rfl) 3 rfl rfl ?_
              refine s_qM (t := 52) (dat d_M_leave 39 rfl) 15 k_514 (by decide) rfl rfl rfl ?_
              refine e_iload (dat d_M_leave 40 rfl) 0 rfl ?_
              refine s_ild (N := 48) (dat d_M_leave 41 rfl) rfl (by decide) rfl rfl (by omega) (rmf hm (by decide)) ?_
              refine s_bld (N := 12) (dat d_M_leave 42 rfl) rfl (by decide) rfl rfl (by omega) (rmf hm (by decide)) ?_
              refine n_if_ne (dat d_M_leave 43 rfl) (tgt := 82) (by decide) (lt64 (hW1.b _ _)) (fun h75 => ?_) (fun h75 => ?_)
              · refine n_iconst (dat d_M_leave 46 rfl) 0 rfl ?_
                refine e_istore_n (dat d_M_leave 47 rfl) rfl (show 2 < 5 by decide) (lv2 := [(2, _), (4, _), (3, _), (0, _), (1, _)]) rfl ?_
                refine e_aload_n (dat d_M_leave 48 rfl) 3 rfl rfl ?_
                refine s_qM (t := 54) (dat d_M_leave 49 rfl) 17 k_516 (by decide) rfl rfl rfl ?_
                refine e_iload (dat d_M_leave 50 rfl) 1 rfl ?_
                refine e_iload_n (dat d_M_leave 51 rfl) 0 rfl rfl ?_
                refine n_if_ne (dat d_M_leave 52 rfl) (tgt := 98) (by decide) (by omega) (fun h91 => ?_) (fun h91 => ?_)
                · first | exact absurd rfl h91 | exact absurd h91 (by decide)
                · refine n_iconst (dat d_M_leave 53 rfl) 1 rfl ?_
                  refine e_goto (dat d_M_leave 54 rfl) (tgt := 99) (by decide) ?_
                  refine m_bst (N := 48) (dat d_M_leave 56 rfl) rfl (by decide) rfl rfl (by omega) (by decide) (by omega) hm (fun hm => ?_)
                  refine e_iload_n (dat d_M_leave 57 rfl) 2 rfl rfl ?_
                  refine n_if_ne (dat d_M_leave 58 rfl) (tgt := 108) (by decide) (by omega) (fun h101 => ?_) (fun h101 => ?_)
                  · refine n_iconst (dat d_M_leave 61 rfl) 1 rfl ?_
                    refine e_goto (dat d_M_leave 62 rfl) (tgt := 113) (by decide) ?_
                    refine e_istore_n (dat d_M_leave 64 rfl) rfl (show 3 < 5 by decide) (lv2 := [(3, _), (2, _), (4, _), (0, _), (1, _)]) rfl ?_
                    refine n_iinc (q := 2) (dat d_M_leave 65 rfl) rfl (show 4 < 5 by decide) (lv2 := [(4, _), (3, _), (2, _), (0, _), (1, _)]) rfl ?_
                    refine e_goto (dat d_M_leave 66 rfl) (tgt := 10) (by decide) ?_
                    have hg : ¬ ∀ z, z < k + 1 → goU m (6 * r + z) := by
                      intro h
                      have h1 := hI.mpr (fun z hz => h z (by omega))
                      have h2 := h k (by omega) (by rw [← eo 53 _ (by decide)]; exact h36) (by omega)
                      rw [← eo 55 _ (by decide), ← eo 52 _ (by decide), ← eo 41 _ (by decide)] at h2
                      omega
                    rw [← hM, lv_2 (by omega) hg] at hm
                    refine ih (by omega) 0 (by decide) 1 ?_ ⟨fun h => absurd h (by decide), fun h => absurd h hg⟩ _ hm
                    omega
                  · refine e_iload_n (dat d_M_leave 59 rfl) 0 rfl rfl ?_
                    refine n_if_ne (dat d_M_leave 60 rfl) (tgt := 112) (by decide) (by omega) (fun h105 => ?_) (fun h105 => ?_)
                    · first | exact absurd rfl h105 | exact absurd h105 (by decide)
                    · refine n_iconst (dat d_M_leave 61 rfl) 1 rfl ?_
                      refine e_goto (dat d_M_leave 62 rfl) (tgt := 113) (by decide) ?_
                      refine e_istore_n (dat d_M_leave 64 rfl) rfl (show 3 < 5 by decide) (lv2 := [(3, _), (2, _), (4, _), (0, _), (1, _)]) rfl ?_
                      refine n_iinc (q := 2) (dat d_M_leave 65 rfl) rfl (show 4 < 5 by decide) (lv2 := [(4, _), (3, _), (2, _), (0, _), (1, _)]) rfl ?_
                      refine e_goto (dat d_M_leave 66 rfl) (tgt := 10) (by decide) ?_
                      have hg : ¬ ∀ z, z < k + 1 → goU m (6 * r + z) := by
                        intro h
                        have h1 := hI.mpr (fun z hz => h z (by omega))
                        have h2 := h k (by omega) (by rw [← eo 53 _ (by decide)]; exact h36) (by omega)
                        rw [← eo 55 _ (by decide), ← eo 52 _ (by decide), ← eo 41 _ (by decide)] at h2
                        omega
                      rw [← hM, lv_2 (by omega) hg] at hm
                      refine ih (by omega) 0 (by decide) 1 ?_ ⟨fun h => absurd h (by decide), fun h => absurd h hg⟩ _ hm
                      omega
              · refine n_iconst (dat d_M_leave 44 rfl) 1 rfl ?_
                refine e_goto (dat d_M_leave 45 rfl) (tgt := 83) (by decide) ?_
                refine e_istore_n (dat d_M_leave 47 rfl) rfl (show 2 < 5 by decide) (lv2 := [(2, _), (4, _), (3, _), (0, _), (1, _)]) rfl ?_
                refine e_aload_n (dat d_M_leave 48 rfl) 3 rfl rfl ?_
                refine s_qM (t := 54) (dat d_M_leave 49 rfl) 17 k_516 (by decide) rfl rfl rfl ?_
                refine e_iload (dat d_M_leave 50 rfl) 1 rfl ?_
                refine e_iload_n (dat d_M_leave 51 rfl) 0 rfl rfl ?_
                refine n_if_ne (dat d_M_leave 52 rfl) (tgt := 98) (by decide) (by omega) (fun h91 => ?_) (fun h91 => ?_)
                · refine n_iconst (dat d_M_leave 55 rfl) 0 rfl ?_
                  refine m_bst (N := 48) (dat d_M_leave 56 rfl) rfl (by decide) rfl rfl (by omega) (by decide) (by omega) hm (fun hm => ?_)
                  refine e_iload_n (dat d_M_leave 57 rfl) 2 rfl rfl ?_
                  refine n_if_ne (dat d_M_leave 58 rfl) (tgt := 108) (by decide) (by omega) (fun h101 => ?_) (fun h101 => ?_)
                  · refine n_iconst (dat d_M_leave 61 rfl) 1 rfl ?_
                    refine e_goto (dat d_M_leave 62 rfl) (tgt := 113) (by decide) ?_
                    refine e_istore_n (dat d_M_leave 64 rfl) rfl (show 3 < 5 by decide) (lv2 := [(3, _), (2, _), (4, _), (0, _), (1, _)]) rfl ?_
                    refine n_iinc (q := 2) (dat d_M_leave 65 rfl) rfl (show 4 < 5 by decide) (lv2 := [(4, _), (3, _), (2, _), (0, _), (1, _)]) rfl ?_
                    refine e_goto (dat d_M_leave 66 rfl) (tgt := 10) (by decide) ?_
                    have hg : ∀ z, z < k + 1 → goU m (6 * r + z) := by
                      intro z hz
                      by_cases e : z = k
                      · rw [e]
                        intro a1 a2
                        rw [← eo 55 _ (by decide), ← eo 52 _ (by decide), ← eo 41 _ (by decide)]
                        have := (hW1.o (6 * r + k)).2.2.2.2.2
                        exact ⟨by omega, h75⟩
                      · exact hI.mp (by omega) z (by omega)
                    rw [← hM, lv_1 (by rw [← eo 53 _ (by decide)]; exact h36) hg] at hm
                    refine ih (by omega) 1 (by decide) 1 ?_ ⟨fun _ => hg, fun _ => rfl⟩ _ hm
                    omega
                  · refine e_iload_n (dat d_M_leave 59 rfl) 0 rfl rfl ?_
                    refine n_if_ne (dat d_M_leave 60 rfl) (tgt := 112) (by decide) (by omega) (fun h105 => ?_) (fun h105 => ?_)
                    · refine n_iconst (dat d_M_leave 63 rfl) 0 rfl ?_
                      refine e_istore_n (dat d_M_leave 64 rfl) rfl (show 3 < 5 by decide) (lv2 := [(3, _), (2, _), (4, _), (0, _), (1, _)]) rfl ?_
                      refine n_iinc (q := 2) (dat d_M_leave 65 rfl) rfl (show 4 < 5 by decide) (lv2 := [(4, _), (3, _), (2, _), (0, _), (1, _)]) rfl ?_
                      refine e_goto (dat d_M_leave 66 rfl) (tgt := 10) (by decide) ?_
                      have hg : ∀ z, z < k + 1 → goU m (6 * r + z) := by
                        intro z hz
                        by_cases e : z = k
                        · rw [e]
                          intro a1 a2
                          rw [← eo 55 _ (by decide), ← eo 52 _ (by decide), ← eo 41 _ (by decide)]
                          have := (hW1.o (6 * r + k)).2.2.2.2.2
                          exact ⟨by omega, h75⟩
                        · exact hI.mp (by omega) z (by omega)
                      rw [← hM, lv_1 (by rw [← eo 53 _ (by decide)]; exact h36) hg] at hm
                      refine ih (by omega) 1 (by decide) 0 ?_ ⟨fun _ => hg, fun _ => rfl⟩ _ hm
                      omega
                    · first | exact absurd rfl h105 | exact absurd h105 (by decide)
                · first | exact absurd rfl h91 | exact absurd h91 (by decide)
  refine n_iconst (dat d_M_leave 0 rfl) 1 rfl ?_
  refine e_istore_n (dat d_M_leave 1 rfl) rfl (show 2 < 5 by decide) (lv2 := [(2, _), (0, _), (1, _)]) rfl ?_
  refine n_iconst (dat d_M_leave 2 rfl) 0 rfl ?_
  refine e_istore_n (dat d_M_leave 3 rfl) rfl (show 3 < 5 by decide) (lv2 := [(3, _), (2, _), (0, _), (1, _)]) rfl ?_
  refine n_bipush (dat d_M_leave 4 rfl) 6 rfl ?_
  refine e_iload_n (dat d_M_leave 5 rfl) 3 rfl rfl ?_
  refine n_imul (dat d_M_leave 6 rfl) ?_
  refine e_istore (dat d_M_leave 7 rfl) (show 4 < 5 by decide) (lv2 := [(4, _), (3, _), (2, _), (0, _), (1, _)]) rfl ?_
  exact L 0 (Nat.zero_le _) 1 (by decide) 0 (by decide) ⟨fun _ z hz => absurd hz (Nat.not_lt_zero _), fun _ => rfl⟩ f (by rw [lv_z]; exact hm)
