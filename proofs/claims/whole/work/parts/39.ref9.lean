abbrev heldU (m : wM) (s v : Nat) : Prop := v % 6 < m 51 (v / 6) ∧ m 54 v = 1 ∧ m 52 v = s
abbrev psU (m : wM) (s v : Nat) : Prop := heldU m s v ∧ m 53 v < 3
abbrev flU (m : wM) (s v : Nat) : Prop := heldU m s v ∧ ¬ m 53 v < 3
def psR (m : wM) (s k : Nat) (t : Int32) : Prop := (∃ v, v < k ∧ psU m s v ∧ t = nI (v / 6)) ∨ ((∀ v, v < k → ¬ psU m s v) ∧ t = -1)
theorem psR_0 {m : wM} {s k : Nat} {t : Int32} (h : ¬ psU m s k) (hT : psR m s k t) : psR m s (k + 1) t := by
  rcases hT with ⟨v, h1, h2, h3⟩ | ⟨h1, h2⟩
  · exact Or.inl ⟨v, by omega, h2, h3⟩
  · refine Or.inr ⟨fun v hv => ?_, h2⟩
    by_cases e : v = k
    · rw [e]
      exact h
    · exact h1 v (by omega)
noncomputable def flh (m : wM) (s k r : Nat) : Nat := @ite Nat (∃ v, v < k ∧ v / 6 = r ∧ flU m s v) (Classical.propDecidable _) 1 0
theorem flh_z {m : wM} {s : Nat} : bts (fun r => flh m s 0 r) 8 = 0 := by
  refine bts_zero.mpr (fun r hr => if_neg ?_)
  rintro ⟨v, hv, -⟩
  exact absurd hv (Nat.not_lt_zero _)
theorem flh_0 {m : wM} {s k : Nat} (h : ¬ flU m s k) : bts (fun r => flh m s (k + 1) r) 8 = bts (fun r => flh m s k r) 8 := by
  refine bts_c (fun r hr => ?_)
  unfold flh
  by_cases h1 : ∃ v, v < k ∧ v / 6 = r ∧ flU m s v
  · obtain ⟨v, a1, a2, a3⟩ := h1
    rw [if_pos ⟨v, by omega, a2, a3⟩, if_pos ⟨v, a1, a2, a3⟩]
  · rw [if_neg h1, if_neg]
    rintro ⟨v, a1, a2, a3⟩
    by_cases e : v = k
    · rw [e] at a3
      exact h a3
    · exact h1 ⟨v, by omega, a2, a3⟩
theorem i_set256 : ∀ k, k < 8 → ∀ X, X < 256 → X / 2 ^ k % 2 = 0 → nI X ||| (nI 1 <<< (nI k &&& 31)) = nI (X + 2 ^ k) := by decide +kernel
theorem flh_1 {m : wM} {s k : Nat} (hW : Wv m) (hk : k < 6 * m 39 7) (h : flU m s k) : nI (bts (fun r => flh m s k r) 8) ||| (nI 1 <<< (nI (k / 6) &&& 31)) = nI (bts (fun r => flh m s (k + 1) r) 8) := by
  have h8 := hW.R
  have hr : k / 6 < m 39 7 := by omega
  have h6 := hW.N hr
  have h01 : ∀ r, flh m s k r ≤ 1 := by
    intro r
    unfold flh
    split <;> decide
  have h0 : flh m s k (k / 6) = 0 := by
    refine if_neg ?_
    rintro ⟨v, a1, a2, ⟨a3, a4, a5⟩, a6⟩
    have e1 : 6 * (k / 6) + v % 6 = v := by omega
    have e2 : 6 * (k / 6) + k % 6 = k := by omega
    have := hW.D (k / 6) (v % 6) (k % 6) hr (by rw [a2] at a3; exact a3) h.1.1 (by rw [e1, e2, a5, h.1.2.2])
    omega
  have hb := bts_bit h01 8 (k / 6) (by omega)
  have hl := bts_lt h01 8
  rw [i_set256 (k / 6) (by omega) _ hl (by rw [hb, h0])]
  have hu := bts_up (h := fun r => flh m s k r) (k := k / 6) (v := 1) (K := 8) (by omega)
  rw [h0, Nat.zero_mul, Nat.add_zero, Nat.one_mul] at hu
  have hu2 : bts (flh m s k) 8 + 2 ^ (k / 6) = bts (fun j => if j = k / 6 then 1 else flh m s k j) 8 := hu.symm
  rw [hu2]
  congr 1
  refine bts_c (fun r hr9 => ?_)
  unfold flh
  by_cases e : r = k / 6
  · rw [if_pos e, if_pos ⟨k, by omega, e.symm, h⟩]
  · rw [if_neg e]
    by_cases h1 : ∃ v, v < k ∧ v / 6 = r ∧ flU m s v
    · obtain ⟨v, a1, a2, a3⟩ := h1
      rw [if_pos ⟨v, a1, a2, a3⟩, if_pos ⟨v, by omega, a2, a3⟩]
    · rw [if_neg h1, if_neg]
      rintro ⟨v, a1, a2, a3⟩
      by_cases e2 : v = k
      · rw [e2] at a2
        exact e a2.symm
      · exact h1 ⟨v, by omega, a2, a3⟩
def trk2 (m : wM) (s c : Nat) (t : Int32) : Prop := (c = 0 → t = nI (m 41 s)) ∧ (c = 1 → psR m s (6 * m 39 7) t) ∧ (c = 2 → t = nI (bts (fun r => flh m s (6 * m 39 7) r) 8)) ∧ (c = 3 → t = if m 40 s = 0 then nI 0 else if m 43 s = 0 then nI (m 42 s) else -1) ∧ (c = 4 → t = nI (m 42 s)) ∧ (c = 5 → t = nI (m 43 s)) ∧ (c = 6 → t = nI (m 44 s))
theorem mt_x {f f2 f9 : wF} {c d : Nat} {m : wM} {P : Int32 → Prop} {t : Int32} (h : Rf m f2 f9) (e : f2 39 0 = nI d) (e8 : fr8 f f2) (hc : c = d) (h0 : d ≠ 0) : f9 39 0 = nI c ∧ fr8 f f9 ∧ (∃ t9, some (Value.int t) = some (Value.int t9) ∧ (c = 0 → P t9)) ∧ (c = 0 → Rm m f9) ∧ (c ≠ 0 → Rm m f9) := by
  subst hc
  exact ⟨(h.2 39 0 (Or.inr (Or.inr ⟨rfl, rfl⟩))).trans e, e8.p9 h.2, ⟨t, rfl, fun h9 => absurd h9 h0⟩, fun h9 => absurd h9 h0, fun _ => h.1⟩
theorem mr_t {f f2 f9 : wF} {c : Nat} {m : wM} {P : Int32 → Prop} {t : Int32} (h : Rf m f2 f9) (e : f2 39 0 = nI 0) (e8 : fr8 f f2) (hc : c = 0) (hP : P t) : f9 39 0 = nI c ∧ fr8 f f9 ∧ (∃ t9, some (Value.int t) = some (Value.int t9) ∧ (c = 0 → P t9)) ∧ (c = 0 → Rm m f9) ∧ (c ≠ 0 → Rm m f9) := by
  subst hc
  exact ⟨(h.2 39 0 (Or.inr (Or.inr ⟨rfl, rfl⟩))).trans e, e8.p9 h.2, ⟨t, rfl, fun _ => hP⟩, fun _ => h.1, fun h9 => absurd rfl h9⟩
theorem t_M_track {E : wE} {m : wM} {f : wF} {w : Int64} {x y : Int32} (hW : Wv m) (hm : Rm m f)  : Cq E i_M_track 1 0 0 [.ref (wB E + 39), .int x, .int y] f w (fun v9 f9 => f9 39 0 = nI (kTrk m x y) ∧ fr8 f f9 ∧ (∃ t, v9 = some (.int t) ∧ ((kTrk m x y) = 0 → trk2 m (ix x) (ix y) t)) ∧ ((kTrk m x y) = 0 → Rm m f9) ∧ ((kTrk m x y) ≠ 0 → Rm m f9)) (fun _ => False) := by
  have hm0 := hm
  have h12 := hW.S
  have h8 := hW.R
  replace hm := Rf.of hm
  refine cq_of rfl rfl rfl (show 3 ≤ 7 by decide) ?_
  refine e_aload_n (dat d_M_track 0 rfl) 0 rfl rfl ?_
  refine e_aload_n (dat d_M_track 1 rfl) 0 rfl rfl ?_
  refine e_iload_n (dat d_M_track 2 rfl) 1 rfl rfl ?_
  refine r_call (t_M_noSection hW hm0) c_M_noSection (dat d_M_track 3 rfl) rfl k_574 rfl rfl (by decide) (by omega) rfl (show 1 ≤ 8 by decide) ⟨show 1 ≤ 1 by decide, show 21 ≤ 30 by decide⟩ ⟨show 0 ≤ 0 by decide, show 0 ≤ 0 by decide⟩ ?_
  refine n_if_eq (dat d_M_track 4 rfl) (tgt := 13) (by decide) if_lt (fun h6 => ?_) (fun h6 => ?_)
  · replace h6 := if_n h6
    obtain ⟨i, hi, rfl⟩ := ix_of (x := x) (N := m 39 1) (by omega) h6
    have hx := ix_nI (show i < 64 by omega)
    refine e_iload_n (dat d_M_track 7 rfl) 2 rfl rfl ?_
    refine e_if_lt (dat d_M_track 8 rfl) (tgt := 23) (by decide) (fun h14 => ?_) (fun h14 => ?_)
    · refine n_iconst (dat d_M_track 12 rfl) 2 rfl ?_
      refine e_goto (dat d_M_track 13 rfl) (tgt := 28) (by decide) ?_
      refine m_p0 (dat d_M_track 15 rfl) k_499 hm (fun hm => ?_)
      refine e_aload_n (dat d_M_track 16 rfl) 0 rfl rfl ?_
      refine s_gM (dat d_M_track 17 rfl) 0 k_499 (by decide) rfl rfl up2_eq ?_
      refine n_if_le (dat d_M_track 18 rfl) (tgt := 40) (by decide) (by omega) (fun h35 => ?_) (fun h35 => ?_)
      · first | exact absurd rfl h35 | exact absurd h35 (by decide)
      · refine n_iconst (dat d_M_track 19 rfl) 0 rfl ?_
        exact q_iret (dat d_M_track 20 rfl) rfl (show 0 ≤ 0 by decide) (show 0 ≤ 0 by decide) (mt_x hm up2_eq fr8.rf.p0 (by rw [kTrk, if_neg h6, if_pos (by first | exact Or.inl (Int32.lt_iff_toInt_lt.mp h14) | (refine Or.inr ?_; have h9 := Int32.lt_iff_toInt_lt.mp (Int32.not_le.mp h20); rw [nI_toInt (by decide)] at h9; exact h9))]) (by decide))
    · refine e_iload_n (dat d_M_track 9 rfl) 2 rfl rfl ?_
      refine n_bipush (dat d_M_track 10 rfl) 6 rfl ?_
      refine e_icmp_le (dat d_M_track 11 rfl) (tgt := 27) (by decide) (fun h20 => ?_) (fun h20 => ?_)
      · have ho : ¬ (y.toInt < 0 ∨ 6 < y.toInt) := by
          have a1 : ¬ y.toInt < 0 := fun h => h14 (Int32.lt_iff_toInt_lt.mpr h)
          have a2 : y.toInt ≤ 6 := by
            have := Int32.le_iff_toInt_le.mp h20
            rw [nI_toInt (by decide)] at this
            exact this
          omega
        obtain ⟨c, hc, rfl⟩ := (tab_cs (N := 6) (by decide) y).elim id (fun h => absurd h ho)
        have hy := ix_nI (show c < 64 by omega)
        have hk0 : kTrk m (nI i) (nI c) = 0 := by
          rw [kTrk, if_neg h6, if_neg ho]
        refine n_iconst (dat d_M_track 14 rfl) 0 rfl ?_
        refine m_p0 (dat d_M_track 15 rfl) k_499 hm (fun hm => ?_)
        refine e_aload_n (dat d_M_track 16 rfl) 0 rfl rfl ?_
        refine s_gM (dat d_M_track 17 rfl) 0 k_499 (by decide) rfl rfl up2_eq ?_
        refine n_if_le (dat d_M_track 18 rfl) (tgt := 40) (by decide) (by omega) (fun h35 => ?_) (fun h35 => ?_)
        · refine e_iconst (v := -1) (dat d_M_track 21 rfl) rfl ?_
          refine e_istore_n (dat d_M_track 22 rfl) rfl (show 3 < 7 by decide) (lv2 := [(3, _), (0, _), (1, _), (2, _)]) rfl ?_
          refine n_iconst (dat d_M_track 23 rfl) 0 rfl ?_
          refine e_istore (dat d_M_track 24 rfl) (show 4 < 7 by decide) (lv2 := [(4, _), (3, _), (0, _), (1, _), (2, _)]) rfl ?_
          refine n_iconst (dat d_M_track 25 rfl) 0 rfl ?_
          refine e_istore (dat d_M_track 26 rfl) (show 5 < 7 by decide) (lv2 := [(5, _), (4, _), (3, _), (0, _), (1, _), (2, _)]) rfl ?_
          have L : ∀ k, k ≤ 6 * m 39 7 → ∀ t, psR m i k t → Ev E (jq E i_M_track 1 0 0 f w (fun v9 f9 => f9 39 0 = nI (kTrk m (nI i) (nI c)) ∧ fr8 f f9 ∧ (∃ t, v9 = some (.int t) ∧ ((kTrk m (nI i) (nI c)) = 0 → trk2 m (ix (nI i)) (ix (nI c)) t)) ∧ ((kTrk m (nI i) (nI c)) = 0 → Rm m f9) ∧ ((kTrk m (nI i) (nI c)) ≠ 0 → Rm m f9)) (fun _ => False)) 0 0 48 [(5, .int (nI k)), (4, .int (nI (bts (fun r => flh m i k r) 8))), (3, .int t), (0, .ref (wB E + 39)), (1, .int (nI i)), (2, .int (nI c))] [] (up2 f 39 0 (nI 0)) g0 w 57 := by
            apply lp_ind
            intro k hk ih t hT
            refine e_iload (dat d_M_track 27 rfl) 0 rfl ?_
            refine n_bipush (dat d_M_track 28 rfl) 6 rfl ?_
            refine e_aload_n (dat d_M_track 29 rfl) 3 rfl rfl ?_
            refine s_gM (dat d_M_track 30 rfl) 7 k_506 (by decide) rfl rfl (rmf7 hm) ?_
            refine n_imul (dat d_M_track 31 rfl) ?_
            refine n_icmp_ge (dat d_M_track 32 rfl) (tgt := 156) (by decide) (by omega) (by omega) (fun h57 => ?_) (fun h57 => ?_)
            · refine e_iload_n (dat d_M_track 82 rfl) 5 rfl rfl ?_
              have hcc : c = 0 ∨ c = 1 ∨ c = 2 ∨ c = 3 ∨ c = 4 ∨ c = 5 ∨ c = 6 := by omega
              rcases hcc with rfl | rfl | rfl | rfl | rfl | rfl | rfl
              · refine e_tabIn (dat d_M_track 83 rfl) (off := 39) (tgt := 196) (by decide +kernel) (by decide +kernel) (by decide +kernel) (by decide) ?_
                refine e_aload_n (dat d_M_track 84 rfl) 3 rfl rfl ?_
                refine s_qM (t := 41) (dat d_M_track 85 rfl) 3 k_502 (by decide) rfl rfl rfl ?_
                refine e_iload_n (dat d_M_track 86 rfl) 4 rfl rfl ?_
                refine s_bld (N := 12) (dat d_M_track 87 rfl) rfl (by decide) rfl rfl (by omega) (rmf hm (by decide)) ?_
                refine n_if_eq (dat d_M_track 88 rfl) (tgt := 209) (by decide) (lt64 (hW.b _ _)) (fun h202 => ?_) (fun h202 => ?_)
                · refine n_iconst (dat d_M_track 91 rfl) 0 rfl ?_
                  exact q_iret (dat d_M_track 92 rfl) rfl (show 0 ≤ 0 by decide) (show 0 ≤ 0 by decide) (mr_t hm up2_eq fr8.rf.p0 hk0 (by rw [hx, hy]; exact ⟨fun _ => (by first | rw [h202] | rw [show m 41 i = 1 by have := (hW.o i).2.1; omega]), fun h => absurd h (by omega), fun h => absurd h (by omega), fun h => absurd h (by omega), fun h => absurd h (by omega), fun h => absurd h (by omega), fun h => absurd h (by omega)⟩))
                · refine n_iconst (dat d_M_track 89 rfl) 1 rfl ?_
                  refine e_goto (dat d_M_track 90 rfl) (tgt := 210) (by decide) ?_
                  exact q_iret (dat d_M_track 92 rfl) rfl (show 0 ≤ 0 by decide) (show 0 ≤ 0 by decide) (mr_t hm up2_eq fr8.rf.p0 hk0 (by rw [hx, hy]; exact ⟨fun _ => (by first | rw [h202] | rw [show m 41 i = 1 by have := (hW.o i).2.1; omega]), fun h => absurd h (by omega), fun h => absurd h (by omega), fun h => absurd h (by omega), fun h => absurd h (by omega), fun h => absurd h (by omega), fun h => absurd h (by omega)⟩))
              · refine e_tabIn (dat d_M_track 83 rfl) (off := 54) (tgt := 211) (by decide +kernel) (by decide +kernel) (by decide +kernel) (by decide) ?_
                refine e_iload_n (dat d_M_track 93 rfl) 2 rfl rfl ?_
                exact q_iret (dat d_M_track 94 rfl) rfl (show 0 ≤ 0 by decide) (show 0 ≤ 0 by decide) (mr_t hm up2_eq fr8.rf.p0 hk0 (by rw [hx, hy]; exact ⟨fun h => absurd h (by omega), fun _ => (show k = 6 * m 39 7 by omega) ▸ hT, fun h => absurd h (by omega), fun h => absurd h (by omega), fun h => absurd h (by omega), fun h => absurd h (by omega), fun h => absurd h (by omega)⟩))
              · refine e_tabIn (dat d_M_track 83 rfl) (off := 56) (tgt := 213) (by decide +kernel) (by decide +kernel) (by decide +kernel) (by decide) ?_
                refine e_iload (dat d_M_track 95 rfl) 1 rfl ?_
                exact q_iret (dat d_M_track 96 rfl) rfl (show 0 ≤ 0 by decide) (show 0 ≤ 0 by decide) (mr_t hm up2_eq fr8.rf.p0 hk0 (by rw [hx, hy]; exact ⟨fun h => absurd h (by omega), fun h => absurd h (by omega), fun _ => (by rw [show k = 6 * m 39 7 by omega]), fun h => absurd h (by omega), fun h => absurd h (by omega), fun h => absurd h (by omega), fun h => absurd h (by omega)⟩))
              · refine e_tabIn (dat d_M_track 83 rfl) (off := 59) (tgt := 216) (by decide +kernel) (by decide +kernel) (by decide +kernel) (by decide) ?_
                refine e_aload_n (dat d_M_track 97 rfl) 3 rfl rfl ?_
                refine s_qM (t := 40) (dat d_M_track 98 rfl) 2 k_501 (by decide) rfl rfl rfl ?_
                refine e_iload_n (dat d_M_track 99 rfl) 4 rfl rfl ?_
                refine s_bld (N := 12) (dat d_M_track 100 rfl) rfl (by decide) rfl rfl (by omega) (rmf hm (by decide)) ?_
                refine n_if_ne (dat d_M_track 101 rfl) (tgt := 229) (by decide) (lt64 (hW.b _ _)) (fun h222 => ?_) (fun h222 => ?_)
                · refine e_aload_n (dat d_M_track 104 rfl) 3 rfl rfl ?_
                  refine s_qM (t := 43) (dat d_M_track 105 rfl) 5 k_504 (by decide) rfl rfl rfl ?_
                  refine e_iload_n (dat d_M_track 106 rfl) 4 rfl rfl ?_
                  refine s_ild (N := 12) (dat d_M_track 107 rfl) rfl (by decide) rfl rfl (by omega) (rmf hm (by decide)) ?_
                  refine n_if_le (dat d_M_track 108 rfl) (tgt := 242) (by decide) (lt64 (hW.b _ _)) (fun h235 => ?_) (fun h235 => ?_)
                  · refine e_aload_n (dat d_M_track 111 rfl) 3 rfl rfl ?_
                    refine s_qM (t := 42) (dat d_M_track 112 rfl) 4 k_503 (by decide) rfl rfl rfl ?_
                    refine e_iload_n (dat d_M_track 113 rfl) 4 rfl rfl ?_
                    refine s_ild (N := 12) (dat d_M_track 114 rfl) rfl (by decide) rfl rfl (by omega) (rmf hm (by decide)) ?_
                    exact q_iret (dat d_M_track 115 rfl) rfl (show 0 ≤ 0 by decide) (show 0 ≤ 0 by decide) (mr_t hm up2_eq fr8.rf.p0 hk0 (by rw [hx, hy]; exact ⟨fun h => absurd h (by omega), fun h => absurd h (by omega), fun h => absurd h (by omega), fun _ => (by first | rw [if_pos h222] | rw [if_neg h222, if_neg (by omega)] | rw [if_neg h222, if_pos (by omega)]), fun h => absurd h (by omega), fun h => absurd h (by omega), fun h => absurd h (by omega)⟩))
                  · refine e_iconst (v := -1) (dat d_M_track 109 rfl) rfl ?_
                    refine e_goto (dat d_M_track 110 rfl) (tgt := 248) (by decide) ?_
                    exact q_iret (dat d_M_track 115 rfl) rfl (show 0 ≤ 0 by decide) (show 0 ≤ 0 by decide) (mr_t hm up2_eq fr8.rf.p0 hk0 (by rw [hx, hy]; exact ⟨fun h => absurd h (by omega), fun h => absurd h (by omega), fun h => absurd h (by omega), fun _ => (by first | rw [if_pos h222] | rw [if_neg h222, if_neg (by omega)] | rw [if_neg h222, if_pos (by omega)]), fun h => absurd h (by omega), fun h => absurd h (by omega), fun h => absurd h (by omega)⟩))
                · refine n_iconst (dat d_M_track 102 rfl) 0 rfl ?_
                  refine e_goto (dat d_M_track 103 rfl) (tgt := 248) (by decide) ?_
                  exact q_iret (dat d_M_track 115 rfl) rfl (show 0 ≤ 0 by decide) (show 0 ≤ 0 by decide) (mr_t hm up2_eq fr8.rf.p0 hk0 (by rw [hx, hy]; exact ⟨fun h => absurd h (by omega), fun h => absurd h (by omega), fun h => absurd h (by omega), fun _ => (by first | rw [if_pos h222] | rw [if_neg h222, if_neg (by omega)] | rw [if_neg h222, if_pos (by omega)]), fun h => absurd h (by omega), fun h => absurd h (by omega), fun h => absurd h (by omega)⟩))
              · refine e_tabIn (dat d_M_track 83 rfl) (off := 92) (tgt := 249) (by decide +kernel) (by decide +kernel) (by decide +kernel) (by decide) ?_
                refine e_aload_n (dat d_M_track 116 rfl) 3 rfl rfl ?_
                refine s_qM (t := 42) (dat d_M_track 117 rfl) 4 k_503 (by decide) rfl rfl rfl ?_
                refine e_iload_n (dat d_M_track 118 rfl) 4 rfl rfl ?_
                refine s_ild (N := 12) (dat d_M_track 119 rfl) rfl (by decide) rfl rfl (by omega) (rmf hm (by decide)) ?_
                exact q_iret (dat d_M_track 120 rfl) rfl (show 0 ≤ 0 by decide) (show 0 ≤ 0 by decide) (mr_t hm up2_eq fr8.rf.p0 hk0 (by rw [hx, hy]; exact ⟨fun h => absurd h (by omega), fun h => absurd h (by omega), fun h => absurd h (by omega), fun h => absurd h (by omega), fun _ => rfl, fun h => absurd h (by omega), fun h => absurd h (by omega)⟩))
              · refine e_tabIn (dat d_M_track 83 rfl) (off := 99) (tgt := 256) (by decide +kernel) (by decide +kernel) (by decide +kernel) (by decide) ?_
                refine e_aload_n (dat d_M_track 121 rfl) 3 rfl rfl ?_
                refine s_qM (t := 43) (dat d_M_track 122 rfl) 5 k_504 (by decide) rfl rfl rfl ?_
                refine e_iload_n (dat d_M_track 123 rfl) 4 rfl rfl ?_
                refine s_ild (N := 12) (dat d_M_track 124 rfl) rfl (by decide) rfl rfl (by omega) (rmf hm (by decide)) ?_
                exact q_iret (dat d_M_track 125 rfl) rfl (show 0 ≤ 0 by decide) (show 0 ≤ 0 by decide) (mr_t hm up2_eq fr8.rf.p0 hk0 (by rw [hx, hy]; exact ⟨fun h => absurd h (by omega), fun h => absurd h (by omega), fun h => absurd h (by omega), fun h => absurd h (by omega), fun h => absurd h (by omega), fun _ => rfl, fun h => absurd h (by omega)⟩))
              · refine e_tabOut (dat d_M_track 83 rfl) (by decide +kernel) (tgt := 263) (by decide) ?_
                refine e_aload_n (dat d_M_track 126 rfl) 3 rfl rfl ?_
                refine s_qM (t := 44) (dat d_M_track 127 rfl) 6 k_505 (by decide) rfl rfl rfl ?_
                refine e_iload_n (dat d_M_track 128 rfl) 4 rfl rfl ?_
                refine s_bld (N := 12) (dat d_M_track 129 rfl) rfl (by decide) rfl rfl (by omega) (rmf hm (by decide)) ?_
                refine n_if_eq (dat d_M_track 130 rfl) (tgt := 276) (by decide) (lt64 (hW.b _ _)) (fun h269 => ?_) (fun h269 => ?_)
                · refine n_iconst (dat d_M_track 133 rfl) 0 rfl ?_
                  exact q_iret (dat d_M_track 134 rfl) rfl (show 0 ≤ 0 by decide) (show 0 ≤ 0 by decide) (mr_t hm up2_eq fr8.rf.p0 hk0 (by rw [hx, hy]; exact ⟨fun h => absurd h (by omega), fun h => absurd h (by omega), fun h => absurd h (by omega), fun h => absurd h (by omega), fun h => absurd h (by omega), fun h => absurd h (by omega), fun _ => (by first | rw [h269] | rw [show m 44 i = 1 by have := (hW.o i).2.2.1; omega])⟩))
                · refine n_iconst (dat d_M_track 131 rfl) 1 rfl ?_
                  refine e_goto (dat d_M_track 132 rfl) (tgt := 277) (by decide) ?_
                  exact q_iret (dat d_M_track 134 rfl) rfl (show 0 ≤ 0 by decide) (show 0 ≤ 0 by decide) (mr_t hm up2_eq fr8.rf.p0 hk0 (by rw [hx, hy]; exact ⟨fun h => absurd h (by omega), fun h => absurd h (by omega), fun h => absurd h (by omega), fun h => absurd h (by omega), fun h => absurd h (by omega), fun h => absurd h (by omega), fun _ => (by first | rw [h269] | rw [show m 44 i = 1 by have := (hW.o i).2.2.1; omega])⟩))
            · have hk6 : k < 48 := by omega
              refine e_iload (dat d_M_track 33 rfl) 0 rfl ?_
              refine n_bipush (dat d_M_track 34 rfl) 6 rfl ?_
              refine n_idiv (dat d_M_track 35 rfl) (by omega) ?_
              refine e_istore (dat d_M_track 36 rfl) (show 6 < 7 by decide) (lv2 := [(6, _), (5, _), (4, _), (3, _), (0, _), (1, _), (2, _)]) rfl ?_
              refine e_iload (dat d_M_track 37 rfl) 1 rfl ?_
              refine n_bipush (dat d_M_track 38 rfl) 6 rfl ?_
              refine n_irem (dat d_M_track 39 rfl) (by omega) ?_
              refine e_aload_n (dat d_M_track 40 rfl) 4 rfl rfl ?_
              refine s_qM (t := 51) (dat d_M_track 41 rfl) 14 k_513 (by decide) rfl rfl rfl ?_
              refine e_iload (dat d_M_track 42 rfl) 0 rfl ?_
              refine s_ild (N := 8) (dat d_M_track 43 rfl) rfl (by decide) rfl rfl (by omega) (rmf hm (by decide)) ?_
              refine n_icmp_ge (dat d_M_track 44 rfl) (tgt := 150) (by decide) (by omega) (lt64 (hW.b _ _)) (fun h79 => ?_) (fun h79 => ?_)
              · refine n_iinc (q := 1) (dat d_M_track 80 rfl) rfl (show 5 < 7 by decide) (lv2 := [(5, _), (6, _), (4, _), (3, _), (0, _), (1, _), (2, _)]) rfl ?_
                refine e_goto (dat d_M_track 81 rfl) (tgt := 48) (by decide) ?_
                refine e_lv [0, 2, 3, 4, 5, 6] rfl ?_
                have hnh : ¬ heldU m i k := by
                  rintro ⟨a1, a2, a3⟩
                  first
                    | omega
                    | exact h100 a3
                have e1 : (bts (fun r => flh m i (k + 1) r) 8) = (bts (fun r => flh m i k r) 8) := by
                  rw [flh_0 (fun h => hnh h.1)]
                have ih9 := ih (by omega) t (psR_0 (fun h => hnh h.1) hT)
                rw [e1] at ih9
                exact ih9
              · refine e_aload_n (dat d_M_track 45 rfl) 4 rfl rfl ?_
                refine s_qM (t := 54) (dat d_M_track 46 rfl) 17 k_516 (by decide) rfl rfl rfl ?_
                refine e_iload (dat d_M_track 47 rfl) 1 rfl ?_
                refine s_bld (N := 48) (dat d_M_track 48 rfl) rfl (by decide) rfl rfl (by omega) (rmf hm (by decide)) ?_
                refine n_if_eq (dat d_M_track 49 rfl) (tgt := 150) (by decide) (lt64 (hW.b _ _)) (fun h89 => ?_) (fun h89 => ?_)
                · refine n_iinc (q := 1) (dat d_M_track 80 rfl) rfl (show 5 < 7 by decide) (lv2 := [(5, _), (6, _), (4, _), (3, _), (0, _), (1, _), (2, _)]) rfl ?_
                  refine e_goto (dat d_M_track 81 rfl) (tgt := 48) (by decide) ?_
                  refine e_lv [0, 2, 3, 4, 5, 6] rfl ?_
                  have hnh : ¬ heldU m i k := by
                    rintro ⟨a1, a2, a3⟩
                    first
                      | omega
                      | exact h100 a3
                  have e1 : (bts (fun r => flh m i (k + 1) r) 8) = (bts (fun r => flh m i k r) 8) := by
                    rw [flh_0 (fun h => hnh h.1)]
                  have ih9 := ih (by omega) t (psR_0 (fun h => hnh h.1) hT)
                  rw [e1] at ih9
                  exact ih9
                · refine e_aload_n (dat d_M_track 50 rfl) 4 rfl rfl ?_
                  refine s_qM (t := 52) (dat d_M_track 51 rfl) 15 k_514 (by decide) rfl rfl rfl ?_
                  refine e_iload (dat d_M_track 52 rfl) 1 rfl ?_
                  refine s_ild (N := 48) (dat d_M_track 53 rfl) rfl (by decide) rfl rfl (by omega) (rmf hm (by decide)) ?_
                  refine e_iload_n (dat d_M_track 54 rfl) 5 rfl rfl ?_
                  refine n_icmp_ne (dat d_M_track 55 rfl) (tgt := 150) (by decide) (lt64 (hW.b _ _)) (by omega) (fun h100 => ?_) (fun h100 => ?_)
                  · refine n_iinc (q := 1) (dat d_M_track 80 rfl) rfl (show 5 < 7 by decide) (lv2 := [(5, _), (6, _), (4, _), (3, _), (0, _), (1, _), (2, _)]) rfl ?_
                    refine e_goto (dat d_M_track 81 rfl) (tgt := 48) (by decide) ?_
                    refine e_lv [0, 2, 3, 4, 5, 6] rfl ?_
                    have hnh : ¬ heldU m i k := by
                      rintro ⟨a1, a2, a3⟩
                      first
                        | omega
                        | exact h100 a3
                    have e1 : (bts (fun r => flh m i (k + 1) r) 8) = (bts (fun r => flh m i k r) 8) := by
                      rw [flh_0 (fun h => hnh h.1)]
                    have ih9 := ih (by omega) t (psR_0 (fun h => hnh h.1) hT)
                    rw [e1] at ih9
                    exact ih9
                  · refine e_aload_n (dat d_M_track 56 rfl) 4 rfl rfl ?_
                    refine s_qM (t := 53) (dat d_M_track 57 rfl) 16 k_515 (by decide) rfl rfl rfl ?_
                    refine e_iload (dat d_M_track 58 rfl) 1 rfl ?_
                    refine s_ild (N := 48) (dat d_M_track 59 rfl) rfl (by decide) rfl rfl (by omega) (rmf hm (by decide)) ?_
                    refine r_callS (t_M_passes (hW.b _ _)) c_M_passes (dat d_M_track 60 rfl) rfl k_602 rfl (show 0 ≤ 8 by decide) ⟨show 1 ≤ 1 by decide, show 20 ≤ 30 by decide⟩ ⟨show 0 ≤ 0 by decide, show 0 ≤ 0 by decide⟩ ?_
                    refine n_if_eq (dat d_M_track 61 rfl) (tgt := 121) (by decide) if_lt (fun h113 => ?_) (fun h113 => ?_)
                    · replace h113 := if_n h113
                      refine e_iload_n (dat d_M_track 64 rfl) 3 rfl rfl ?_
                      refine e_istore_n (dat d_M_track 65 rfl) rfl (show 3 < 7 by decide) (lv2 := [(3, _), (6, _), (5, _), (4, _), (0, _), (1, _), (2, _)]) rfl ?_
                      refine e_aload_n (dat d_M_track 66 rfl) 4 rfl rfl ?_
                      refine s_qM (t := 53) (dat d_M_track 67 rfl) 16 k_515 (by decide) rfl rfl rfl ?_
                      refine e_iload (dat d_M_track 68 rfl) 2 rfl ?_
                      refine s_ild (N := 48) (dat d_M_track 69 rfl) rfl (by decide) rfl rfl (by omega) (rmf hm (by decide)) ?_
                      refine r_callS (t_M_passes (hW.b _ _)) c_M_passes (dat d_M_track 70 rfl) rfl k_602 rfl (show 0 ≤ 8 by decide) ⟨show 1 ≤ 1 by decide, show 20 ≤ 30 by decide⟩ ⟨show 0 ≤ 0 by decide, show 0 ≤ 0 by decide⟩ ?_
                      refine n_if_eq (dat d_M_track 71 rfl) (tgt := 141) (by decide) if_lt (fun h133 => ?_) (fun h133 => ?_)
                      · replace h133 := if_n h133
                        refine e_iload (dat d_M_track 74 rfl) 3 rfl ?_
                        refine n_iconst (dat d_M_track 75 rfl) 1 rfl ?_
                        refine e_iload (dat d_M_track 76 rfl) 1 rfl ?_
                        refine e_ishl (dat d_M_track 77 rfl) ?_
                        refine e_ior (dat d_M_track 78 rfl) ?_
                        refine e_istore (dat d_M_track 79 rfl) (show 4 < 7 by decide) (lv2 := [(4, _), (3, _), (6, _), (5, _), (0, _), (1, _), (2, _)]) rfl ?_
                        refine n_iinc (q := 3) (dat d_M_track 80 rfl) rfl (show 5 < 7 by decide) (lv2 := [(5, _), (4, _), (3, _), (6, _), (0, _), (1, _), (2, _)]) rfl ?_
                        refine e_goto (dat d_M_track 81 rfl) (tgt := 48) (by decide) ?_
                        refine e_lv [0, 1, 2, 4, 5, 6] rfl ?_
                        have hhu : heldU m i k := ⟨h79, by have := (hW.o k).2.2.2.2.1; omega, h100⟩
                        have ih9 := ih (by omega) t (psR_0 (fun h => h113 h.2) hT)
                        rw [← flh_1 hW (by omega) ⟨hhu, h113⟩] at ih9
                        exact ih9
                      · replace h133 := if_p h133
                        exact absurd h133 h113
                    · replace h113 := if_p h113
                      refine e_iload (dat d_M_track 62 rfl) 0 rfl ?_
                      refine e_goto (dat d_M_track 63 rfl) (tgt := 122) (by decide) ?_
                      refine e_istore_n (dat d_M_track 65 rfl) rfl (show 3 < 7 by decide) (lv2 := [(3, _), (6, _), (5, _), (4, _), (0, _), (1, _), (2, _)]) rfl ?_
                      refine e_aload_n (dat d_M_track 66 rfl) 4 rfl rfl ?_
                      refine s_qM (t := 53) (dat d_M_track 67 rfl) 16 k_515 (by decide) rfl rfl rfl ?_
                      refine e_iload (dat d_M_track 68 rfl) 2 rfl ?_
                      refine s_ild (N := 48) (dat d_M_track 69 rfl) rfl (by decide) rfl rfl (by omega) (rmf hm (by decide)) ?_
                      refine r_callS (t_M_passes (hW.b _ _)) c_M_passes (dat d_M_track 70 rfl) rfl k_602 rfl (show 0 ≤ 8 by decide) ⟨show 1 ≤ 1 by decide, show 20 ≤ 30 by decide⟩ ⟨show 0 ≤ 0 by decide, show 0 ≤ 0 by decide⟩ ?_
                      refine n_if_eq (dat d_M_track 71 rfl) (tgt := 141) (by decide) if_lt (fun h133 => ?_) (fun h133 => ?_)
                      · replace h133 := if_n h133
                        exact absurd h113 h133
                      · replace h133 := if_p h133
                        refine e_iload (dat d_M_track 72 rfl) 3 rfl ?_
                        refine e_goto (dat d_M_track 73 rfl) (tgt := 148) (by decide) ?_
                        refine e_istore (dat d_M_track 79 rfl) (show 4 < 7 by decide) (lv2 := [(4, _), (3, _), (6, _), (5, _), (0, _), (1, _), (2, _)]) rfl ?_
                        refine n_iinc (q := 3) (dat d_M_track 80 rfl) rfl (show 5 < 7 by decide) (lv2 := [(5, _), (4, _), (3, _), (6, _), (0, _), (1, _), (2, _)]) rfl ?_
                        refine e_goto (dat d_M_track 81 rfl) (tgt := 48) (by decide) ?_
                        refine e_lv [0, 1, 2, 4, 5, 6] rfl ?_
                        have hhu : heldU m i k := ⟨h79, by have := (hW.o k).2.2.2.2.1; omega, h100⟩
                        have e1 : (bts (fun r => flh m i (k + 1) r) 8) = (bts (fun r => flh m i k r) 8) := by
                          rw [flh_0 (fun h => h.2 h113)]
                        have ih9 := ih (by omega) (nI (k / 6)) (Or.inl ⟨k, by omega, ⟨hhu, h113⟩, rfl⟩)
                        rw [e1] at ih9
                        exact ih9
          have L0 := L 0 (Nat.zero_le _) (-1) (Or.inr ⟨fun v hv => absurd hv (Nat.not_lt_zero _), rfl⟩)
          rw [flh_z] at L0
          exact L0
        · first | exact absurd rfl h35 | exact absurd h35 (by decide)
      · refine n_iconst (dat d_M_track 12 rfl) 2 rfl ?_
        refine e_goto (dat d_M_track 13 rfl) (tgt := 28) (by decide) ?_
        refine m_p0 (dat d_M_track 15 rfl) k_499 hm (fun hm => ?_)
        refine e_aload_n (dat d_M_track 16 rfl) 0 rfl rfl ?_
        refine s_gM (dat d_M_track 17 rfl) 0 k_499 (by decide) rfl rfl up2_eq ?_
        refine n_if_le (dat d_M_track 18 rfl) (tgt := 40) (by decide) (by omega) (fun h35 => ?_) (fun h35 => ?_)
        · first | exact absurd rfl h35 | exact absurd h35 (by decide)
        · refine n_iconst (dat d_M_track 19 rfl) 0 rfl ?_
          exact q_iret (dat d_M_track 20 rfl) rfl (show 0 ≤ 0 by decide) (show 0 ≤ 0 by decide) (mt_x hm up2_eq fr8.rf.p0 (by rw [kTrk, if_neg h6, if_pos (by first | exact Or.inl (Int32.lt_iff_toInt_lt.mp h14) | (refine Or.inr ?_; have h9 := Int32.lt_iff_toInt_lt.mp (Int32.not_le.mp h20); rw [nI_toInt (by decide)] at h9; exact h9))]) (by decide))
  · replace h6 := if_p h6
    refine n_iconst (dat d_M_track 5 rfl) 1 rfl ?_
    refine e_goto (dat d_M_track 6 rfl) (tgt := 28) (by decide) ?_
    refine m_p0 (dat d_M_track 15 rfl) k_499 hm (fun hm => ?_)
    refine e_aload_n (dat d_M_track 16 rfl) 0 rfl rfl ?_
    refine s_gM (dat d_M_track 17 rfl) 0 k_499 (by decide) rfl rfl up2_eq ?_
    refine n_if_le (dat d_M_track 18 rfl) (tgt := 40) (by decide) (by omega) (fun h35 => ?_) (fun h35 => ?_)
    · first | exact absurd rfl h35 | exact absurd h35 (by decide)
    · refine n_iconst (dat d_M_track 19 rfl) 0 rfl ?_
      exact q_iret (dat d_M_track 20 rfl) rfl (show 0 ≤ 0 by decide) (show 0 ≤ 0 by decide) (mt_x hm up2_eq fr8.rf.p0 (if_pos h6) (by decide))
