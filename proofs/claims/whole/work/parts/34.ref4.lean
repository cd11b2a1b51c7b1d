theorem wv_rte {m : wM} {sg ap dl : Nat} (h : Wv m) (h1 : sg < 64) (h2 : ap < 64) (h3 : dl < 64) : Wv (um (um (um (um m 45 (m 39 7) sg) 46 (m 39 7) ap) 47 (m 39 7) dl) 51 (m 39 7) 0) := by
  have eo : ∀ a b, ¬ (b = m 39 7 ∧ (a = 45 ∨ a = 46 ∨ a = 47 ∨ a = 51)) → um (um (um (um m 45 (m 39 7) sg) 46 (m 39 7) ap) 47 (m 39 7) dl) 51 (m 39 7) 0 a b = m a b := by
    intro a b h9
    unfold um
    rw [if_neg (by omega), if_neg (by omega), if_neg (by omega), if_neg (by omega)]
  have e64 : ∀ a b, um (um (um (um m 45 (m 39 7) sg) 46 (m 39 7) ap) 47 (m 39 7) dl) 51 (m 39 7) 0 a b < 64 := by
    intro a b
    unfold um
    have := h.b a b
    repeat' split
    all_goals omega
  generalize um (um (um (um m 45 (m 39 7) sg) 46 (m 39 7) ap) 47 (m 39 7) dl) 51 (m 39 7) 0 = M at eo e64 ⊢
  have e1 := eo 39 1 (by omega)
  have e7 := eo 39 7 (by omega)
  obtain ⟨a1, a2, a3, a4, a5, a6, a7⟩ := h
  refine ⟨by omega, by omega, e64, fun b => ?_, fun r hr => ?_, fun r k hr hk => ?_, ?_⟩
  · have := a4 b
    rw [eo 40 b (by omega), eo 41 b (by omega), eo 44 b (by omega), eo 50 b (by omega), eo 54 b (by omega), eo 55 b (by omega)]
    exact this
  · rw [e7] at hr
    rw [eo 46 r (by omega), eo 51 r (by omega), e1]
    exact a5 r hr
  · rw [e7] at hr
    rw [eo 51 r (by omega)] at hk
    rw [eo 52 _ (by omega), eo 53 _ (by omega), e1]
    exact a6 r k hr hk
  · intro r k j hr hk hj he
    rw [e7] at hr
    rw [eo 51 r (by omega)] at hk hj
    rw [eo 52 _ (by omega), eo 52 _ (by omega)] at he
    exact a7 r k j hr hk hj he
theorem occ_u0 {m : wM} {s k : Nat} (hz : ¬ hitU m s k) : occU m s (k + 1) = occU m s k := by
  have hA : ∀ b, hitR m s (k + 1) b ↔ hitR m s k b := by
    intro b
    constructor
    · intro h h2
      refine h (fun v hv h3 => ?_)
      by_cases h4 : v = k
      · rw [h4] at h3
        exact hz h3.2
      · exact h2 v (by omega) h3
    · intro h h2
      exact h (fun v hv h3 => h2 v (by omega) h3)
  have hB : ∀ b, (b < k + 1 ∧ hitU m s b) ↔ (b < k ∧ hitU m s b) := by
    intro b
    constructor
    · rintro ⟨h1, h2⟩
      refine ⟨?_, h2⟩
      have : b ≠ k := fun h => hz (h ▸ h2)
      omega
    · rintro ⟨h1, h2⟩
      exact ⟨by omega, h2⟩
  funext a b
  unfold occU
  simp only [hA, hB]
theorem occ_u1 {m : wM} {s k : Nat} (hu : hitU m s k) : um (um (um (occU m s k) 48 (k / 6) 2) 49 (k / 6) 0) 55 k 1 = occU m s (k + 1) := by
  have hA : ∀ b, hitR m s (k + 1) b ↔ (hitR m s k b ∨ b = k / 6) := by
    intro b
    constructor
    · intro h
      by_cases hb : b = k / 6
      · exact Or.inr hb
      · refine Or.inl (fun h4 => h (fun v hv h5 => ?_))
        by_cases h7 : v = k
        · rw [h7] at h5
          exact hb h5.1.symm
        · exact h4 v (by omega) h5
    · rintro (h | h)
      · exact fun h4 => h (fun v hv h5 => h4 v (by omega) h5)
      · exact fun h4 => h4 k (by omega) ⟨h.symm, hu⟩
  have hB : ∀ b, (b < k + 1 ∧ hitU m s b) ↔ ((b < k ∧ hitU m s b) ∨ b = k) := by
    intro b
    constructor
    · rintro ⟨h4, h5⟩
      by_cases h7 : b = k
      · exact Or.inr h7
      · exact Or.inl ⟨by omega, h5⟩
    · rintro (⟨h4, h5⟩ | h4)
      · exact ⟨by omega, h5⟩
      · rw [h4]
        exact ⟨by omega, hu⟩
  funext a b
  unfold um occU
  simp only [hA, hB]
  by_cases a48 : a = 48
  · subst a48
    by_cases hb : b = k / 6 <;> simp [hb]
  · by_cases a49 : a = 49
    · subst a49
      by_cases hb : b = k / 6 <;> simp [hb]
    · by_cases a55 : a = 55
      · subst a55
        by_cases hb : b = k <;> simp [hb]
      · simp [a48, a49, a55]
def occM2 (m : wM) (s : Nat) : wM := if m 41 s = 0 then look (occU m s (6 * m 39 7)) else m
def vacM2 (m : wM) (s : Nat) : wM := if m 41 s = 0 then m else look (lvA (um m 41 s 0) (m 39 7))
theorem Rf.tr {m m' : wM} {f0 f f1 : wF} (h : Rf m f0 f) (h1 : Rm m' f1) (h2 : fr9 f f1) : Rf m' f0 f1 := ⟨h1, h.2.tr h2⟩
theorem t_M_route {E : wE} {m : wM} {f : wF} {w : Int64} {x y z : Int32} (hW : Wv m) (hm : Rm m f)  : Cq E i_M_route 1 0 0 [.ref (wB E + 39), .int x, .int y, .int z] f w (fun v9 f9 => f9 39 0 = nI (kRte m x y z) ∧ fr8 f f9 ∧ (∃ t, v9 = some (.int t) ∧ ((kRte m x y z) = 0 → t = nI (m 39 7))) ∧ ((kRte m x y z) = 0 → ∃ sg ap dl, (sg < 64 ∧ ap < 64 ∧ dl < 64) ∧ x = nI sg ∧ y = apI ap ∧ z = nI dl ∧ Rm (rteM m sg ap dl) f9) ∧ ((kRte m x y z) ≠ 0 → Rm m f9)) (fun _ => False) := by
  have hm0 := hm
  have h12 := hW.S
  have h8 := hW.R
  replace hm := Rf.of hm
  refine cq_of rfl rfl rfl (show 4 ≤ 4 by decide) ?_
  refine e_aload_n (dat d_M_route 0 rfl) 0 rfl rfl ?_
  refine e_iload_n (dat d_M_route 1 rfl) 2 rfl rfl ?_
  refine e_iconst (v := -1) (dat d_M_route 2 rfl) rfl ?_
  refine e_icmp_eq (dat d_M_route 3 rfl) (tgt := 18) (by decide) (fun h3 => ?_) (fun h3 => ?_)
  · have n1 : ¬ (y ≠ -1 ∧ noS m y) := by first | exact fun h => h.1 h3 | exact fun h => h11 h.2
    refine e_iload_n (dat d_M_route 10 rfl) 1 rfl rfl ?_
    refine e_if_lt (dat d_M_route 11 rfl) (tgt := 38) (by decide) (fun h19 => ?_) (fun h19 => ?_)
    · refine n_iconst (dat d_M_route 21 rfl) 2 rfl ?_
      refine e_goto (dat d_M_route 22 rfl) (tgt := 56) (by decide) ?_
      refine m_p0 (dat d_M_route 30 rfl) k_499 hm (fun hm => ?_)
      refine e_aload_n (dat d_M_route 31 rfl) 0 rfl rfl ?_
      refine s_gM (dat d_M_route 32 rfl) 0 k_499 (by decide) rfl rfl up2_eq ?_
      refine n_if_le (dat d_M_route 33 rfl) (tgt := 68) (by decide) (by omega) (fun h63 => ?_) (fun h63 => ?_)
      · first | exact absurd rfl h63 | exact absurd h63 (by decide)
      · refine n_iconst (dat d_M_route 34 rfl) 0 rfl ?_
        exact q_iret (dat d_M_route 35 rfl) rfl (show 0 ≤ 0 by decide) (show 0 ≤ 0 by decide) (mr_x hm up2_eq fr8.rf.p0 (by rw [kRte, if_neg n1, if_pos (by first | exact Or.inl (Or.inl h19) | exact Or.inl (Or.inr ((i56 rfl (by decide)).mp h24)) | exact Or.inr (Or.inl h29) | exact Or.inr (Or.inr h35))]) (by decide))
    · refine e_iload_n (dat d_M_route 12 rfl) 1 rfl rfl ?_
      refine n_iconst (dat d_M_route 13 rfl) 5 rfl ?_
      refine e_icmp_gt (dat d_M_route 14 rfl) (tgt := 38) (by decide) (fun h24 => ?_) (fun h24 => ?_)
      · refine n_iconst (dat d_M_route 21 rfl) 2 rfl ?_
        refine e_goto (dat d_M_route 22 rfl) (tgt := 56) (by decide) ?_
        refine m_p0 (dat d_M_route 30 rfl) k_499 hm (fun hm => ?_)
        refine e_aload_n (dat d_M_route 31 rfl) 0 rfl rfl ?_
        refine s_gM (dat d_M_route 32 rfl) 0 k_499 (by decide) rfl rfl up2_eq ?_
        refine n_if_le (dat d_M_route 33 rfl) (tgt := 68) (by decide) (by omega) (fun h63 => ?_) (fun h63 => ?_)
        · first | exact absurd rfl h63 | exact absurd h63 (by decide)
        · refine n_iconst (dat d_M_route 34 rfl) 0 rfl ?_
          exact q_iret (dat d_M_route 35 rfl) rfl (show 0 ≤ 0 by decide) (show 0 ≤ 0 by decide) (mr_x hm up2_eq fr8.rf.p0 (by rw [kRte, if_neg n1, if_pos (by first | exact Or.inl (Or.inl h19) | exact Or.inl (Or.inr ((i56 rfl (by decide)).mp h24)) | exact Or.inr (Or.inl h29) | exact Or.inr (Or.inr h35))]) (by decide))
      · refine e_iload_n (dat d_M_route 15 rfl) 3 rfl rfl ?_
        refine n_iconst (dat d_M_route 16 rfl) 1 rfl ?_
        refine e_icmp_lt (dat d_M_route 17 rfl) (tgt := 38) (by decide) (fun h29 => ?_) (fun h29 => ?_)
        · refine n_iconst (dat d_M_route 21 rfl) 2 rfl ?_
          refine e_goto (dat d_M_route 22 rfl) (tgt := 56) (by decide) ?_
          refine m_p0 (dat d_M_route 30 rfl) k_499 hm (fun hm => ?_)
          refine e_aload_n (dat d_M_route 31 rfl) 0 rfl rfl ?_
          refine s_gM (dat d_M_route 32 rfl) 0 k_499 (by decide) rfl rfl up2_eq ?_
          refine n_if_le (dat d_M_route 33 rfl) (tgt := 68) (by decide) (by omega) (fun h63 => ?_) (fun h63 => ?_)
          · first | exact absurd rfl h63 | exact absurd h63 (by decide)
          · refine n_iconst (dat d_M_route 34 rfl) 0 rfl ?_
            exact q_iret (dat d_M_route 35 rfl) rfl (show 0 ≤ 0 by decide) (show 0 ≤ 0 by decide) (mr_x hm up2_eq fr8.rf.p0 (by rw [kRte, if_neg n1, if_pos (by first | exact Or.inl (Or.inl h19) | exact Or.inl (Or.inr ((i56 rfl (by decide)).mp h24)) | exact Or.inr (Or.inl h29) | exact Or.inr (Or.inr h35))]) (by decide))
        · refine e_iload_n (dat d_M_route 18 rfl) 3 rfl rfl ?_
          refine n_bipush (dat d_M_route 19 rfl) 9 rfl ?_
          refine e_icmp_le (dat d_M_route 20 rfl) (tgt := 42) (by decide) (fun h35 => ?_) (fun h35 => ?_)
          · refine e_aload_n (dat d_M_route 23 rfl) 0 rfl rfl ?_
            refine s_gM (dat d_M_route 24 rfl) 7 k_506 (by decide) rfl rfl (rmf7 hm) ?_
            refine n_bipush (dat d_M_route 25 rfl) 8 rfl ?_
            refine n_icmp_ne (dat d_M_route 26 rfl) (tgt := 55) (by decide) (by omega) (by omega) (fun h48 => ?_) (fun h48 => ?_)
            · have n2 : ¬ ((x < 0 ∨ nI 6 ≤ x) ∨ z < nI 1 ∨ ¬ z ≤ nI 9) := fun h => h.elim (fun h => h.elim h19 (fun h => h24 ((i56 rfl (by decide)).mpr h))) (fun h => h.elim h29 (fun h => h h35))
              obtain ⟨sg, hsg, ex⟩ := ix_of (x := x) (N := 6) (by decide) (fun h => n2 (Or.inl h))
              obtain ⟨dl, hd1, hd9, ez⟩ := dl_of (z := z) (N := 9) (by decide) h29 h35
              obtain ⟨ap, hap, ey⟩ : ∃ ap, ap ≤ m 39 1 ∧ y = apI ap := by
                by_cases e : y = -1
                · exact ⟨0, Nat.zero_le _, e⟩
                · obtain ⟨i, hi, e2⟩ := ix_of (x := y) (N := m 39 1) (by omega) (fun h => n1 ⟨e, h⟩)
                  exact ⟨i + 1, hi, e2⟩
              subst ex
              subst ez
              refine n_iconst (dat d_M_route 29 rfl) 0 rfl ?_
              refine m_p0 (dat d_M_route 30 rfl) k_499 hm (fun hm => ?_)
              refine e_aload_n (dat d_M_route 31 rfl) 0 rfl rfl ?_
              refine s_gM (dat d_M_route 32 rfl) 0 k_499 (by decide) rfl rfl up2_eq ?_
              refine n_if_le (dat d_M_route 33 rfl) (tgt := 68) (by decide) (by omega) (fun h63 => ?_) (fun h63 => ?_)
              · refine e_aload_n (dat d_M_route 36 rfl) 0 rfl rfl ?_
                refine s_qM (t := 45) (dat d_M_route 37 rfl) 8 k_507 (by decide) rfl rfl rfl ?_
                refine e_aload_n (dat d_M_route 38 rfl) 0 rfl rfl ?_
                refine s_gM (dat d_M_route 39 rfl) 7 k_506 (by decide) rfl rfl (rmf7e (a := m 39 7) hm rfl) ?_
                refine e_iload_n (dat d_M_route 40 rfl) 1 rfl rfl ?_
                refine m_ist (N := 8) (dat d_M_route 41 rfl) rfl (by decide) rfl rfl (by omega) (by decide) hm (fun hm => ?_)
                refine e_aload_n (dat d_M_route 42 rfl) 0 rfl rfl ?_
                refine s_qM (t := 46) (dat d_M_route 43 rfl) 9 k_508 (by decide) rfl rfl rfl ?_
                refine e_aload_n (dat d_M_route 44 rfl) 0 rfl rfl ?_
                refine s_gM (dat d_M_route 45 rfl) 7 k_506 (by decide) rfl rfl (rmf7e (a := m 39 7) hm rfl) ?_
                refine e_iload_n (dat d_M_route 46 rfl) 2 rfl rfl ?_
                refine m_ist46 (dat d_M_route 47 rfl) rfl (by omega) ey hm (fun hm => ?_)
                refine e_aload_n (dat d_M_route 48 rfl) 0 rfl rfl ?_
                refine s_qM (t := 47) (dat d_M_route 49 rfl) 10 k_509 (by decide) rfl rfl rfl ?_
                refine e_aload_n (dat d_M_route 50 rfl) 0 rfl rfl ?_
                refine s_gM (dat d_M_route 51 rfl) 7 k_506 (by decide) rfl rfl (rmf7e (a := m 39 7) hm rfl) ?_
                refine e_iload_n (dat d_M_route 52 rfl) 3 rfl rfl ?_
                refine m_ist (N := 8) (dat d_M_route 53 rfl) rfl (by decide) rfl rfl (by omega) (by decide) hm (fun hm => ?_)
                refine e_aload_n (dat d_M_route 54 rfl) 0 rfl rfl ?_
                refine s_qM (t := 51) (dat d_M_route 55 rfl) 14 k_513 (by decide) rfl rfl rfl ?_
                refine e_aload_n (dat d_M_route 56 rfl) 0 rfl rfl ?_
                refine s_gM (dat d_M_route 57 rfl) 7 k_506 (by decide) rfl rfl (rmf7e (a := m 39 7) hm rfl) ?_
                refine n_iconst (dat d_M_route 58 rfl) 0 rfl ?_
                refine m_ist (N := 8) (dat d_M_route 59 rfl) rfl (by decide) rfl rfl (by omega) (by decide) hm (fun hm => ?_)
                refine e_aload_n (dat d_M_route 60 rfl) 0 rfl rfl ?_
                refine e_aload_n (dat d_M_route 61 rfl) 0 rfl rfl ?_
                refine s_gM (dat d_M_route 62 rfl) 7 k_506 (by decide) rfl rfl (rmf7e (a := m 39 7) hm rfl) ?_
                refine q_call (t_M_release (wv_rte hW (by omega) (by omega) (by omega)) hm.1 (by omega)) c_M_release (dat d_M_route 63 rfl) rfl k_578 rfl rfl (by decide) (by omega) rfl (show 0 ≤ 8 by decide) ⟨show 1 ≤ 1 by decide, show 22 ≤ 30 by decide⟩ ⟨show 0 ≤ 0 by decide, show 0 ≤ 0 by decide⟩ (fun v9 f9 h9 => ?_) (fun X9 h9 => h9.elim)
                obtain ⟨rfl, hm9, hf9⟩ := h9
                replace hm := Rf.tr hm hm9 hf9
                refine e_aload_n (dat d_M_route 64 rfl) 0 rfl rfl ?_
                refine e_dup (dat d_M_route 65 rfl) rfl ?_
                refine s_gM (dat d_M_route 66 rfl) 7 k_506 (by decide) rfl rfl (rmf7e (a := m 39 7) hm rfl) ?_
                refine n_iconst (dat d_M_route 67 rfl) 1 rfl ?_
                refine n_iadd (dat d_M_route 68 rfl) ?_
                refine m_p7 (dat d_M_route 69 rfl) k_506 hm (fun hm => ?_)
                refine e_aload_n (dat d_M_route 70 rfl) 0 rfl rfl ?_
                refine s_gM (dat d_M_route 71 rfl) 7 k_506 (by decide) rfl rfl (rmf7e (a := m 39 7 + 1) hm rfl) ?_
                refine n_iconst (dat d_M_route 72 rfl) 1 rfl ?_
                refine n_isub1 (dat d_M_route 73 rfl) ?_
                exact q_iret (dat d_M_route 74 rfl) rfl (show 0 ≤ 0 by decide) (show 0 ≤ 0 by decide) (mr_r hm.2 up2_eq fr8.rf.p0 (by rw [kRte, if_neg n1, if_neg n2, if_neg h48]) rfl ⟨sg, ap, dl, ⟨by omega, by omega, by omega⟩, rfl, ey, rfl, rte_eq ▸ hm.1⟩)
              · first | exact absurd rfl h63 | exact absurd h63 (by decide)
            · refine n_iconst (dat d_M_route 27 rfl) 3 rfl ?_
              refine e_goto (dat d_M_route 28 rfl) (tgt := 56) (by decide) ?_
              refine m_p0 (dat d_M_route 30 rfl) k_499 hm (fun hm => ?_)
              refine e_aload_n (dat d_M_route 31 rfl) 0 rfl rfl ?_
              refine s_gM (dat d_M_route 32 rfl) 0 k_499 (by decide) rfl rfl up2_eq ?_
              refine n_if_le (dat d_M_route 33 rfl) (tgt := 68) (by decide) (by omega) (fun h63 => ?_) (fun h63 => ?_)
              · first | exact absurd rfl h63 | exact absurd h63 (by decide)
              · refine n_iconst (dat d_M_route 34 rfl) 0 rfl ?_
                exact q_iret (dat d_M_route 35 rfl) rfl (show 0 ≤ 0 by decide) (show 0 ≤ 0 by decide) (mr_x hm up2_eq fr8.rf.p0 (by rw [kRte, if_neg n1, if_neg (fun h => h.elim (fun h => h.elim h19 (fun h => h24 ((i56 rfl (by decide)).mpr h))) (fun h => h.elim h29 (fun h => h h35))), if_pos h48]) (by decide))
          · refine n_iconst (dat d_M_route 21 rfl) 2 rfl ?_
            refine e_goto (dat d_M_route 22 rfl) (tgt := 56) (by decide) ?_
            refine m_p0 (dat d_M_route 30 rfl) k_499 hm (fun hm => ?_)
            refine e_aload_n (dat d_M_route 31 rfl) 0 rfl rfl ?_
            refine s_gM (dat d_M_route 32 rfl) 0 k_499 (by decide) rfl rfl up2_eq ?_
            refine n_if_le (dat d_M_route 33 rfl) (tgt := 68) (by decide) (by omega) (fun h63 => ?_) (fun h63 => ?_)
            · first | exact absurd rfl h63 | exact absurd h63 (by decide)
            · refine n_iconst (dat d_M_route 34 rfl) 0 rfl ?_
              exact q_iret (dat d_M_route 35 rfl) rfl (show 0 ≤ 0 by decide) (show 0 ≤ 0 by decide) (mr_x hm up2_eq fr8.rf.p0 (by rw [kRte, if_neg n1, if_pos (by first | exact Or.inl (Or.inl h19) | exact Or.inl (Or.inr ((i56 rfl (by decide)).mp h24)) | exact Or.inr (Or.inl h29) | exact Or.inr (Or.inr h35))]) (by decide))
  · refine e_aload_n (dat d_M_route 4 rfl) 0 rfl rfl ?_
    refine e_iload_n (dat d_M_route 5 rfl) 2 rfl rfl ?_
    refine r_call (t_M_noSection hW hm0) c_M_noSection (dat d_M_route 6 rfl) rfl k_574 rfl rfl (by decide) (by omega) rfl (show 1 ≤ 8 by decide) ⟨show 1 ≤ 1 by decide, show 21 ≤ 30 by decide⟩ ⟨show 0 ≤ 0 by decide, show 0 ≤ 0 by decide⟩ ?_
    refine n_if_eq (dat d_M_route 7 rfl) (tgt := 18) (by decide) if_lt (fun h11 => ?_) (fun h11 => ?_)
    · replace h11 := if_n h11
      have n1 : ¬ (y ≠ -1 ∧ noS m y) := by first | exact fun h => h.1 h3 | exact fun h => h11 h.2
      refine e_iload_n (dat d_M_route 10 rfl) 1 rfl rfl ?_
      refine e_if_lt (dat d_M_route 11 rfl) (tgt := 38) (by decide) (fun h19 => ?_) (fun h19 => ?_)
      · refine n_iconst (dat d_M_route 21 rfl) 2 rfl ?_
        refine e_goto (dat d_M_route 22 rfl) (tgt := 56) (by decide) ?_
        refine m_p0 (dat d_M_route 30 rfl) k_499 hm (fun hm => ?_)
        refine e_aload_n (dat d_M_route 31 rfl) 0 rfl rfl ?_
        refine s_gM (dat d_M_route 32 rfl) 0 k_499 (by decide) rfl rfl up2_eq ?_
        refine n_if_le (dat d_M_route 33 rfl) (tgt := 68) (by decide) (by omega) (fun h63 => ?_) (fun h63 => ?_)
        · first | exact absurd rfl h63 | exact absurd h63 (by decide)
        · refine n_iconst (dat d_M_route 34 rfl) 0 rfl ?_
          exact q_iret (dat d_M_route 35 rfl) rfl (show 0 ≤ 0 by decide) (show 0 ≤ 0 by decide) (mr_x hm up2_eq fr8.rf.p0 (by rw [kRte, if_neg n1, if_pos (by first | exact Or.inl (Or.inl h19) | exact Or.inl (Or.inr ((i56 rfl (by decide)).mp h24)) | exact Or.inr (Or.inl h29) | exact Or.inr (Or.inr h35))]) (by decide))
      · refine e_iload_n (dat d_M_route 12 rfl) 1 rfl rfl ?_
        refine n_iconst (dat d_M_route 13 rfl) 5 rfl ?_
        refine e_icmp_gt (dat d_M_route 14 rfl) (tgt := 38) (by decide) (fun h24 => ?_) (fun h24 => ?_)
        · refine n_iconst (dat d_M_route 21 rfl) 2 rfl ?_
          refine e_goto (dat d_M_route 22 rfl) (tgt := 56) (by decide) ?_
          refine m_p0 (dat d_M_route 30 rfl) k_499 hm (fun hm => ?_)
          refine e_aload_n (dat d_M_route 31 rfl) 0 rfl rfl ?_
          refine s_gM (dat d_M_route 32 rfl) 0 k_499 (by decide) rfl rfl up2_eq ?_
          refine n_if_le (dat d_M_route 33 rfl) (tgt := 68) (by decide) (by omega) (fun h63 => ?_) (fun h63 => ?_)
          · first | exact absurd rfl h63 | exact absurd h63 (by decide)
          · refine n_iconst (dat d_M_route 34 rfl) 0 rfl ?_
            exact q_iret (dat d_M_route 35 rfl) rfl (show 0 ≤ 0 by decide) (show 0 ≤ 0 by decide) (mr_x hm up2_eq fr8.rf.p0 (by rw [kRte, if_neg n1, if_pos (by first | exact Or.inl (Or.inl h19) | exact Or.inl (Or.inr ((i56 rfl (by decide)).mp h24)) | exact Or.inr (Or.inl h29) | exact Or.inr (Or.inr h35))]) (by decide))
        · refine e_iload_n (dat d_M_route 15 rfl) 3 rfl rfl ?_
          refine n_iconst (dat d_M_route 16 rfl) 1 rfl ?_
          refine e_icmp_lt (dat d_M_route 17 rfl) (tgt := 38) (by decide) (fun h29 => ?_) (fun h29 => ?_)
          · refine n_iconst (dat d_M_route 21 rfl) 2 rfl ?_
            refine e_goto (dat d_M_route 22 rfl) (tgt := 56) (by decide) ?_
            refine m_p0 (dat d_M_route 30 rfl) k_499 hm (fun hm => ?_)
            refine e_aload_n (dat d_M_route 31 rfl) 0 rfl rfl ?_
            refine s_gM (dat d_M_route 32 rfl) 0 k_499 (by decide) rfl rfl up2_eq ?_
            refine n_if_le (dat d_M_route 33 rfl) (tgt := 68) (by decide) (by omega) (fun h63 => ?_) (fun h63 => ?_)
            · first | exact absurd rfl h63 | exact absurd h63 (by decide)
            · refine n_iconst (dat d_M_route 34 rfl) 0 rfl ?_
              exact q_iret (dat d_M_route 35 rfl) rfl (show 0 ≤ 0 by decide) (show 0 ≤ 0 by decide) (mr_x hm up2_eq fr8.rf.p0 (by rw [kRte, if_neg n1, if_pos (by first | exact Or.inl (Or.inl h19) | exact Or.inl (Or.inr ((i56 rfl (by decide)).mp h24)) | exact Or.inr (Or.inl h29) | exact Or.inr (Or.inr h35))]) (by decide))
          · refine e_iload_n (dat d_M_route 18 rfl) 3 rfl rfl ?_
            refine n_bipush (dat d_M_route 19 rfl) 9 rfl ?_
            refine e_icmp_le (dat d_M_route 20 rfl) (tgt := 42) (by decide) (fun h35 => ?_) (fun h35 => ?_)
            · refine e_aload_n (dat d_M_route 23 rfl) 0 rfl rfl ?_
              refine s_gM (dat d_M_route 24 rfl) 7 k_506 (by decide) rfl rfl (rmf7 hm) ?_
              refine n_bipush (dat d_M_route 25 rfl) 8 rfl ?_
              refine n_icmp_ne (dat d_M_route 26 rfl) (tgt := 55) (by decide) (by omega) (by omega) (fun h48 => ?_) (fun h48 => ?_)
              · have n2 : ¬ ((x < 0 ∨ nI 6 ≤ x) ∨ z < nI 1 ∨ ¬ z ≤ nI 9) := fun h => h.elim (fun h => h.elim h19 (fun h => h24 ((i56 rfl (by decide)).mpr h))) (fun h => h.elim h29 (fun h => h h35))
                obtain ⟨sg, hsg, ex⟩ := ix_of (x := x) (N := 6) (by decide) (fun h => n2 (Or.inl h))
                obtain ⟨dl, hd1, hd9, ez⟩ := dl_of (z := z) (N := 9) (by decide) h29 h35
                obtain ⟨ap, hap, ey⟩ : ∃ ap, ap ≤ m 39 1 ∧ y = apI ap := by
                  by_cases e : y = -1
                  · exact ⟨0, Nat.zero_le _, e⟩
                  · obtain ⟨i, hi, e2⟩ := ix_of (x := y) (N := m 39 1) (by omega) (fun h => n1 ⟨e, h⟩)
                    exact ⟨i + 1, hi, e2⟩
                subst ex
                subst ez
                refine n_iconst (dat d_M_route 29 rfl) 0 rfl ?_
                refine m_p0 (dat d_M_route 30 rfl) k_499 hm (fun hm => ?_)
                refine e_aload_n (dat d_M_route 31 rfl) 0 rfl rfl ?_
                refine s_gM (dat d_M_route 32 rfl) 0 k_499 (by decide) rfl rfl up2_eq ?_
                refine n_if_le (dat d_M_route 33 rfl) (tgt := 68) (by decide) (by omega) (fun h63 => ?_) (fun h63 => ?_)
                · refine e_aload_n (dat d_M_route 36 rfl) 0 rfl rfl ?_
                  refine s_qM (t := 45) (dat d_M_route 37 rfl) 8 k_507 (by decide) rfl rfl rfl ?_
                  refine e_aload_n (dat d_M_route 38 rfl) 0 rfl rfl ?_
                  refine s_gM (dat d_M_route 39 rfl) 7 k_506 (by decide) rfl rfl (rmf7e (a := m 39 7) hm rfl) ?_
                  refine e_iload_n (dat d_M_route 40 rfl) 1 rfl rfl ?_
                  refine m_ist (N := 8) (dat d_M_route 41 rfl) rfl (by decide) rfl rfl (by omega) (by decide) hm (fun hm => ?_)
                  refine e_aload_n (dat d_M_route 42 rfl) 0 rfl rfl ?_
                  refine s_qM (t := 46) (dat d_M_route 43 rfl) 9 k_508 (by decide) rfl rfl rfl ?_
                  refine e_aload_n (dat d_M_route 44 rfl) 0 rfl rfl ?_
                  refine s_gM (dat d_M_route 45 rfl) 7 k_506 (by decide) rfl rfl (rmf7e (a := m 39 7) hm rfl) ?_
                  refine e_iload_n (dat d_M_route 46 rfl) 2 rfl rfl ?_
                  refine m_ist46 (dat d_M_route 47 rfl) rfl (by omega) ey hm (fun hm => ?_)
                  refine e_aload_n (dat d_M_route 48 rfl) 0 rfl rfl ?_
                  refine s_qM (t := 47) (dat d_M_route 49 rfl) 10 k_509 (by decide) rfl rfl rfl ?_
                  refine e_aload_n (dat d_M_route 50 rfl) 0 rfl rfl ?_
                  refine s_gM (dat d_M_route 51 rfl) 7 k_506 (by decide) rfl rfl (rmf7e (a := m 39 7) hm rfl) ?_
                  refine e_iload_n (dat d_M_route 52 rfl) 3 rfl rfl ?_
                  refine m_ist (N := 8) (dat d_M_route 53 rfl) rfl (by decide) rfl rfl (by omega) (by decide) hm (fun hm => ?_)
                  refine e_aload_n (dat d_M_route 54 rfl) 0 rfl rfl ?_
                  refine s_qM (t := 51) (dat d_M_route 55 rfl) 14 k_513 (by decide) rfl rfl rfl ?_
                  refine e_aload_n (dat d_M_route 56 rfl) 0 rfl rfl ?_
                  refine s_gM (dat d_M_route 57 rfl) 7 k_506 (by decide) rfl rfl (rmf7e (a := m 39 7) hm rfl) ?_
                  refine n_iconst (dat d_M_route 58 rfl) 0 rfl ?_
                  refine m_ist (N := 8) (dat d_M_route 59 rfl) rfl (by decide) rfl rfl (by omega) (by decide) hm (fun hm => ?_)
                  refine e_aload_n (dat d_M_route 60 rfl) 0 rfl rfl ?_
                  refine e_aload_n (dat d_M_route 61 rfl) 0 rfl rfl ?_
                  refine s_gM (dat d_M_route 62 rfl) 7 k_506 (by decide) rfl rfl (rmf7e (a := m 39 7) hm rfl) ?_
                  refine q_call (t_M_release (wv_rte hW (by omega) (by omega) (by omega)) hm.1 (by omega)) c_M_release (dat d_M_route 63 rfl) rfl k_578 rfl rfl (by decide) (by omega) rfl (show 0 ≤ 8 by decide) ⟨show 1 ≤ 1 by decide, show 22 ≤ 30 by decide⟩ ⟨show 0 ≤ 0 by decide, show 0 ≤ 0 by decide⟩ (fun v9 f9 h9 => ?_) (fun X9 h9 => h9.elim)
                  obtain ⟨rfl, hm9, hf9⟩ := h9
                  replace hm := Rf.tr hm hm9 hf9
                  refine e_aload_n (dat d_M_route 64 rfl) 0 rfl rfl ?_
                  refine e_dup (dat d_M_route 65 rfl) rfl ?_
                  refine s_gM (dat d_M_route 66 rfl) 7 k_506 (by decide) rfl rfl (rmf7e (a := m 39 7) hm rfl) ?_
                  refine n_iconst (dat d_M_route 67 rfl) 1 rfl ?_
                  refine n_iadd (dat d_M_route 68 rfl) ?_
                  refine m_p7 (dat d_M_route 69 rfl) k_506 hm (fun hm => ?_)
                  refine e_aload_n (dat d_M_route 70 rfl) 0 rfl rfl ?_
                  refine s_gM (dat d_M_route 71 rfl) 7 k_506 (by decide) rfl rfl (rmf7e (a := m 39 7 + 1) hm rfl) ?_
                  refine n_iconst (dat d_M_route 72 rfl) 1 rfl ?_
                  refine n_isub1 (dat d_M_route 73 rfl) ?_
                  exact q_iret (dat d_M_route 74 rfl) rfl (show 0 ≤ 0 by decide) (show 0 ≤ 0 by decide) (mr_r hm.2 up2_eq fr8.rf.p0 (by rw [kRte, if_neg n1, if_neg n2, if_neg h48]) rfl ⟨sg, ap, dl, ⟨by omega, by omega, by omega⟩, rfl, ey, rfl, rte_eq ▸ hm.1⟩)
                · first | exact absurd rfl h63 | exact absurd h63 (by decide)
              · refine n_iconst (dat d_M_route 27 rfl) 3 rfl ?_
                refine e_goto (dat d_M_route 28 rfl) (tgt := 56) (by decide) ?_
                refine m_p0 (dat d_M_route 30 rfl) k_499 hm (fun hm => ?_)
                refine e_aload_n (dat d_M_route 31 rfl) 0 rfl rfl ?_
                refine s_gM (dat d_M_route 32 rfl) 0 k_499 (by decide) rfl rfl up2_eq ?_
                refine n_if_le (dat d_M_route 33 rfl) (tgt := 68) (by decide) (by omega) (fun h63 => ?_) (fun h63 => ?_)
                · first | exact absurd rfl h63 | exact absurd h63 (by decide)
                · refine n_iconst (dat d_M_route 34 rfl) 0 rfl ?_
                  exact q_iret (dat d_M_route 35 rfl) rfl (show 0 ≤ 0 by decide) (show 0 ≤ 0 by decide) (mr_x hm up2_eq fr8.rf.p0 (by rw [kRte, if_neg n1, if_neg (fun h => h.elim (fun h => h.elim h19 (fun h => h24 ((i56 rfl (by decide)).mpr h))) (fun h => h.elim h29 (fun h => h h35))), if_pos h48]) (by decide))
            · refine n_iconst (dat d_M_route 21 rfl) 2 rfl ?_
              refine e_goto (dat d_M_route 22 rfl) (tgt := 56) (by decide) ?_
              refine m_p0 (dat d_M_route 30 rfl) k_499 hm (fun hm => ?_)
              refine e_aload_n (dat d_M_route 31 rfl) 0 rfl rfl ?_
              refine s_gM (dat d_M_route 32 rfl) 0 k_499 (by decide) rfl rfl up2_eq ?_
              refine n_if_le (dat d_M_route 33 rfl) (tgt := 68) (by decide) (by omega) (fun h63 => ?_) (fun h63 => ?_)
              · first | exact absurd rfl h63 | exact absurd h63 (by decide)
              · refine n_iconst (dat d_M_route 34 rfl) 0 rfl ?_
                exact q_iret (dat d_M_route 35 rfl) rfl (show 0 ≤ 0 by decide) (show 0 ≤ 0 by decide) (mr_x hm up2_eq fr8.rf.p0 (by rw [kRte, if_neg n1, if_pos (by first | exact Or.inl (Or.inl h19) | exact Or.inl (Or.inr ((i56 rfl (by decide)).mp h24)) | exact Or.inr (Or.inl h29) | exact Or.inr (Or.inr h35))]) (by decide))
    · replace h11 := if_p h11
      refine n_iconst (dat d_M_route 8 rfl) 1 rfl ?_
      refine e_goto (dat d_M_route 9 rfl) (tgt := 56) (by decide) ?_
      refine m_p0 (dat d_M_route 30 rfl) k_499 hm (fun hm => ?_)
      refine e_aload_n (dat d_M_route 31 rfl) 0 rfl rfl ?_
      refine s_gM (dat d_M_route 32 rfl) 0 k_499 (by decide) rfl rfl up2_eq ?_
      refine n_if_le (dat d_M_route 33 rfl) (tgt := 68) (by decide) (by omega) (fun h63 => ?_) (fun h63 => ?_)
      · first | exact absurd rfl h63 | exact absurd h63 (by decide)
      · refine n_iconst (dat d_M_route 34 rfl) 0 rfl ?_
        exact q_iret (dat d_M_route 35 rfl) rfl (show 0 ≤ 0 by decide) (show 0 ≤ 0 by decide) (mr_x hm up2_eq fr8.rf.p0 (if_pos ⟨h3, h11⟩) (by decide))
theorem t_M_occupy {E : wE} {m : wM} {f : wF} {w : Int64} {x : Int32} (hW : Wv m) (hm : Rm m f)  : Cq E i_M_occupy 3 0 0 [.ref (wB E + 39), .int x] f w (MO f (kS1 m x) m (occM2 m (ix x)) (nI (if m 41 (ix x) = 0 then 1 else 0))) (fun _ => False) := by
  have hm0 := hm
  have h12 := hW.S
  have h8 := hW.R
  replace hm := Rf.of hm
  refine cq_of rfl rfl rfl (show 2 ≤ 4 by decide) ?_
  refine e_aload_n (dat d_M_occupy 0 rfl) 0 rfl rfl ?_
  refine e_aload_n (dat d_M_occupy 1 rfl) 0 rfl rfl ?_
  refine e_iload_n (dat d_M_occupy 2 rfl) 1 rfl rfl ?_
  refine r_call (t_M_noSection hW hm0) c_M_noSection (dat d_M_occupy 3 rfl) rfl k_574 rfl rfl (by decide) (by omega) rfl (show 1 ≤ 8 by decide) ⟨show 1 ≤ 3 by decide, show 21 ≤ 90 by decide⟩ ⟨show 0 ≤ 0 by decide, show 0 ≤ 0 by decide⟩ ?_
  refine n_if_eq (dat d_M_occupy 4 rfl) (tgt := 13) (by decide) if_lt (fun h6 => ?_) (fun h6 => ?_)
  · replace h6 := if_n h6
    obtain ⟨i, hi, rfl⟩ := ix_of (x := x) (N := m 39 1) (by omega) h6
    have hx := ix_nI (show i < 64 by omega)
    refine n_iconst (dat d_M_occupy 7 rfl) 0 rfl ?_
    refine m_p0 (dat d_M_occupy 8 rfl) k_499 hm (fun hm => ?_)
    refine e_aload_n (dat d_M_occupy 9 rfl) 0 rfl rfl ?_
    refine s_gM (dat d_M_occupy 10 rfl) 0 k_499 (by decide) rfl rfl up2_eq ?_
    refine n_if_gt (dat d_M_occupy 11 rfl) (tgt := 33) (by decide) (by omega) (fun h21 => ?_) (fun h21 => ?_)
    · first | exact absurd rfl h21 | exact absurd h21 (by decide)
    · refine e_aload_n (dat d_M_occupy 12 rfl) 0 rfl rfl ?_
      refine s_qM (t := 41) (dat d_M_occupy 13 rfl) 3 k_502 (by decide) rfl rfl rfl ?_
      refine e_iload_n (dat d_M_occupy 14 rfl) 1 rfl rfl ?_
      refine s_bld (N := 12) (dat d_M_occupy 15 rfl) rfl (by decide) rfl rfl (by omega) (rmf hm (by decide)) ?_
      refine n_if_eq (dat d_M_occupy 16 rfl) (tgt := 35) (by decide) (lt64 (hW.b _ _)) (fun h30 => ?_) (fun h30 => ?_)
      · refine e_aload_n (dat d_M_occupy 19 rfl) 0 rfl rfl ?_
        refine s_qM (t := 41) (dat d_M_occupy 20 rfl) 3 k_502 (by decide) rfl rfl rfl ?_
        refine e_iload_n (dat d_M_occupy 21 rfl) 1 rfl rfl ?_
        refine n_iconst (dat d_M_occupy 22 rfl) 1 rfl ?_
        refine m_bst (N := 12) (dat d_M_occupy 23 rfl) rfl (by decide) rfl rfl (by omega) (by decide) (by omega) hm (fun hm => ?_)
        refine n_iconst (dat d_M_occupy 24 rfl) 0 rfl ?_
        refine e_istore_n (dat d_M_occupy 25 rfl) rfl (show 2 < 4 by decide) (lv2 := [(2, _), (0, _), (1, _)]) rfl ?_
        have L : ∀ k, k ≤ 6 * m 39 7 → ∀ f1, Rf (occU m i k) (up2 f 39 0 (nI 0)) f1 → Ev E (jq E i_M_occupy 3 0 0 f w (MO f (kS1 m (nI i)) m (occM2 m (ix (nI i))) (nI (if m 41 (ix (nI i)) = 0 then 1 else 0))) (fun _ => False)) 0 0 44 [(2, .int (nI k)), (0, .ref (wB E + 39)), (1, .int (nI i))] [] f1 g0 w 57 := by
          apply lp_ind
          intro k hk ih f1 hm
          generalize hM : occU m i k = M at hm
          have hW1 : Wv M := by
            rw [← hM]
            exact wv_occ hW
          have e39 : ∀ b, M 39 b = m 39 b := fun b => by
            rw [← hM]
            exact (by unfold occU; rw [if_neg (by omega), if_neg (by omega), if_neg (by omega), if_neg (by omega)])
          have e51 : ∀ b, M 51 b = m 51 b := fun b => by
            rw [← hM]
            exact (by unfold occU; rw [if_neg (by omega), if_neg (by omega), if_neg (by omega), if_neg (by omega)])
          have e52 : ∀ b, M 52 b = m 52 b := fun b => by
            rw [← hM]
            exact (by unfold occU; rw [if_neg (by omega), if_neg (by omega), if_neg (by omega), if_neg (by omega)])
          have e53 : ∀ b, M 53 b = m 53 b := fun b => by
            rw [← hM]
            exact (by unfold occU; rw [if_neg (by omega), if_neg (by omega), if_neg (by omega), if_neg (by omega)])
          have e54 : ∀ b, M 54 b = m 54 b := fun b => by
            rw [← hM]
            exact (by unfold occU; rw [if_neg (by omega), if_neg (by omega), if_neg (by omega), if_neg (by omega)])
          have h12 := hW1.S
          have h8 := hW1.R
          have g1 := e39 1
          have g7 := e39 7
          refine e_iload_n (dat d_M_occupy 26 rfl) 0 rfl rfl ?_
          refine n_bipush (dat d_M_occupy 27 rfl) 6 rfl ?_
          refine e_aload_n (dat d_M_occupy 28 rfl) 1 rfl rfl ?_
          refine s_gM (dat d_M_occupy 29 rfl) 7 k_506 (by decide) rfl rfl (rmf7 hm) ?_
          refine n_imul (dat d_M_occupy 30 rfl) ?_
          refine n_icmp_ge (dat d_M_occupy 31 rfl) (tgt := 131) (by decide) (by omega) (by omega) (fun h52 => ?_) (fun h52 => ?_)
          · refine e_aload_n (dat d_M_occupy 78 rfl) 1 rfl rfl ?_
            refine q_call (t_M_look hW1 hm.1) c_M_look (dat d_M_occupy 79 rfl) rfl k_620 rfl rfl (by decide) (by omega) rfl (show 0 ≤ 8 by decide) ⟨show 3 ≤ 3 by decide, show 82 ≤ 90 by decide⟩ ⟨show 0 ≤ 0 by decide, show 0 ≤ 0 by decide⟩ (fun v9 f9 h9 => ?_) (fun X9 h9 => h9.elim)
            obtain ⟨rfl, hm9, hf9⟩ := h9
            refine n_iconst (dat d_M_occupy 80 rfl) 1 rfl ?_
            exact q_zret (dat d_M_occupy 81 rfl) rfl (z01 (by decide)) (show 0 ≤ 0 by decide) (show 0 ≤ 0 by decide) (mo_r (by rw [hx, occM2, if_pos h30, show 6 * m 39 7 = k by omega, hM]; exact hm9) (hm.2.tr hf9) up2_eq fr8.rf.p0 (if_neg h6) (by rw [hx, if_pos h30]))
          · have hk6 : k < 48 := by omega
            refine e_iload_n (dat d_M_occupy 32 rfl) 0 rfl rfl ?_
            refine n_bipush (dat d_M_occupy 33 rfl) 6 rfl ?_
            refine n_idiv (dat d_M_occupy 34 rfl) (by omega) ?_
            refine e_istore_n (dat d_M_occupy 35 rfl) rfl (show 3 < 4 by decide) (lv2 := [(3, _), (2, _), (0, _), (1, _)]) rfl ?_
            refine e_iload_n (dat d_M_occupy 36 rfl) 1 rfl rfl ?_
            refine n_bipush (dat d_M_occupy 37 rfl) 6 rfl ?_
            refine n_irem (dat d_M_occupy 38 rfl) (by omega) ?_
            refine e_aload_n (dat d_M_occupy 39 rfl) 2 rfl rfl ?_
            refine s_qM (t := 51) (dat d_M_occupy 40 rfl) 14 k_513 (by decide) rfl rfl rfl ?_
            refine e_iload_n (dat d_M_occupy 41 rfl) 0 rfl rfl ?_
            refine s_ild (N := 8) (dat d_M_occupy 42 rfl) rfl (by decide) rfl rfl (by omega) (rmf hm (by decide)) ?_
            refine n_icmp_ge (dat d_M_occupy 43 rfl) (tgt := 125) (by decide) (by omega) (lt64 (hW1.b _ _)) (fun h70 => ?_) (fun h70 => ?_)
            · refine n_iinc (q := 1) (dat d_M_occupy 76 rfl) rfl (show 2 < 4 by decide) (lv2 := [(2, _), (3, _), (0, _), (1, _)]) rfl ?_
              refine e_goto (dat d_M_occupy 77 rfl) (tgt := 44) (by decide) ?_
              refine e_lv [0, 2, 3] rfl ?_
              rw [← hM, ← occ_u0 (fun h => ?_)] at hm
              · exact ih (by omega) _ hm
              · obtain ⟨a1, a2, a3, a4⟩ := h
                rw [← e51] at a1
                rw [← e54] at a2
                rw [← e53] at a3
                rw [← e52] at a4
                first
                  | omega
                  | exact h91 a3
            · refine e_aload_n (dat d_M_occupy 44 rfl) 2 rfl rfl ?_
              refine s_qM (t := 54) (dat d_M_occupy 45 rfl) 17 k_516 (by decide) rfl rfl rfl ?_
              refine e_iload_n (dat d_M_occupy 46 rfl) 1 rfl rfl ?_
              refine s_bld (N := 48) (dat d_M_occupy 47 rfl) rfl (by decide) rfl rfl (by omega) (rmf hm (by decide)) ?_
              refine n_if_eq (dat d_M_occupy 48 rfl) (tgt := 125) (by decide) (lt64 (hW1.b _ _)) (fun h79 => ?_) (fun h79 => ?_)
              · refine n_iinc (q := 1) (dat d_M_occupy 76 rfl) rfl (show 2 < 4 by decide) (lv2 := [(2, _), (3, _), (0, _), (1, _)]) rfl ?_
                refine e_goto (dat d_M_occupy 77 rfl) (tgt := 44) (by decide) ?_
                refine e_lv [0, 2, 3] rfl ?_
                rw [← hM, ← occ_u0 (fun h => ?_)] at hm
                · exact ih (by omega) _ hm
                · obtain ⟨a1, a2, a3, a4⟩ := h
                  rw [← e51] at a1
                  rw [← e54] at a2
                  rw [← e53] at a3
                  rw [← e52] at a4
                  first
                    | omega
                    | exact h91 a3
              · refine e_aload_n (dat d_M_occupy 49 rfl) 2 rfl rfl ?_
                refine s_qM (t := 53) (dat d_M_occupy 50 rfl) 16 k_515 (by decide) rfl rfl rfl ?_
                refine e_iload_n (dat d_M_occupy 51 rfl) 1 rfl rfl ?_
                refine s_ild (N := 48) (dat d_M_occupy 52 rfl) rfl (by decide) rfl rfl (by omega) (rmf hm (by decide)) ?_
                refine r_callS (t_M_passes (hW1.b _ _)) c_M_passes (dat d_M_occupy 53 rfl) rfl k_602 rfl (show 0 ≤ 8 by decide) ⟨show 1 ≤ 3 by decide, show 20 ≤ 90 by decide⟩ ⟨show 0 ≤ 0 by decide, show 0 ≤ 0 by decide⟩ ?_
                refine n_if_eq (dat d_M_occupy 54 rfl) (tgt := 125) (by decide) if_lt (fun h91 => ?_) (fun h91 => ?_)
                · replace h91 := if_n h91
                  refine n_iinc (q := 1) (dat d_M_occupy 76 rfl) rfl (show 2 < 4 by decide) (lv2 := [(2, _), (3, _), (0, _), (1, _)]) rfl ?_
                  refine e_goto (dat d_M_occupy 77 rfl) (tgt := 44) (by decide) ?_
                  refine e_lv [0, 2, 3] rfl ?_
                  rw [← hM, ← occ_u0 (fun h => ?_)] at hm
                  · exact ih (by omega) _ hm
                  · obtain ⟨a1, a2, a3, a4⟩ := h
                    rw [← e51] at a1
                    rw [← e54] at a2
                    rw [← e53] at a3
                    rw [← e52] at a4
                    first
                      | omega
                      | exact h91 a3
                · replace h91 := if_p h91
                  refine e_aload_n (dat d_M_occupy 55 rfl) 2 rfl rfl ?_
                  refine s_qM (t := 52) (dat d_M_occupy 56 rfl) 15 k_514 (by decide) rfl rfl rfl ?_
                  refine e_iload_n (dat d_M_occupy 57 rfl) 1 rfl rfl ?_
                  refine s_ild (N := 48) (dat d_M_occupy 58 rfl) rfl (by decide) rfl rfl (by omega) (rmf hm (by decide)) ?_
                  refine e_iload_n (dat d_M_occupy 59 rfl) 3 rfl rfl ?_
                  refine n_icmp_ne (dat d_M_occupy 60 rfl) (tgt := 125) (by decide) (lt64 (hW1.b _ _)) (by omega) (fun h101 => ?_) (fun h101 => ?_)
                  · refine n_iinc (q := 1) (dat d_M_occupy 76 rfl) rfl (show 2 < 4 by decide) (lv2 := [(2, _), (3, _), (0, _), (1, _)]) rfl ?_
                    refine e_goto (dat d_M_occupy 77 rfl) (tgt := 44) (by decide) ?_
                    refine e_lv [0, 2, 3] rfl ?_
                    rw [← hM, ← occ_u0 (fun h => ?_)] at hm
                    · exact ih (by omega) _ hm
                    · obtain ⟨a1, a2, a3, a4⟩ := h
                      rw [← e51] at a1
                      rw [← e54] at a2
                      rw [← e53] at a3
                      rw [← e52] at a4
                      first
                        | omega
                        | exact h91 a3
                  · refine e_aload_n (dat d_M_occupy 61 rfl) 2 rfl rfl ?_
                    refine s_qM (t := 48) (dat d_M_occupy 62 rfl) 11 k_510 (by decide) rfl rfl rfl ?_
                    refine e_iload_n (dat d_M_occupy 63 rfl) 0 rfl rfl ?_
                    refine n_iconst (dat d_M_occupy 64 rfl) 2 rfl ?_
                    refine m_ist (N := 8) (dat d_M_occupy 65 rfl) rfl (by decide) rfl rfl (by omega) (by decide) hm (fun hm => ?_)
                    refine e_aload_n (dat d_M_occupy 66 rfl) 2 rfl rfl ?_
                    refine s_qM (t := 49) (dat d_M_occupy 67 rfl) 12 k_511 (by decide) rfl rfl rfl ?_
                    refine e_iload_n (dat d_M_occupy 68 rfl) 0 rfl rfl ?_
                    refine n_iconst (dat d_M_occupy 69 rfl) 0 rfl ?_
                    refine m_ist (N := 8) (dat d_M_occupy 70 rfl) rfl (by decide) rfl rfl (by omega) (by decide) hm (fun hm => ?_)
                    refine e_aload_n (dat d_M_occupy 71 rfl) 2 rfl rfl ?_
                    refine s_qM (t := 55) (dat d_M_occupy 72 rfl) 18 k_517 (by decide) rfl rfl rfl ?_
                    refine e_iload_n (dat d_M_occupy 73 rfl) 1 rfl rfl ?_
                    refine n_iconst (dat d_M_occupy 74 rfl) 1 rfl ?_
                    refine m_bst (N := 48) (dat d_M_occupy 75 rfl) rfl (by decide) rfl rfl (by omega) (by decide) (by omega) hm (fun hm => ?_)
                    refine n_iinc (q := 1) (dat d_M_occupy 76 rfl) rfl (show 2 < 4 by decide) (lv2 := [(2, _), (3, _), (0, _), (1, _)]) rfl ?_
                    refine e_goto (dat d_M_occupy 77 rfl) (tgt := 44) (by decide) ?_
                    refine e_lv [0, 2, 3] rfl ?_
                    have hu : hitU m i k := ⟨by rw [← e51]; exact h70, by rw [← e54]; have := (hW1.o k).2.2.2.2.1; omega, by rw [← e53]; exact h91, by rw [← e52]; exact h101⟩
                    rw [← hM, occ_u1 hu] at hm
                    exact ih (by omega) _ hm
        rw [← occ_z] at hm
        exact L 0 (Nat.zero_le _) _ hm
      · refine n_iconst (dat d_M_occupy 17 rfl) 0 rfl ?_
        exact q_zret (dat d_M_occupy 18 rfl) rfl (z01 (by decide)) (show 0 ≤ 0 by decide) (show 0 ≤ 0 by decide) (mo_r (by rw [hx, occM2, if_neg h30]; exact hm.1) hm.2 up2_eq fr8.rf.p0 (if_neg h6) (by rw [hx, if_neg h30]))
  · replace h6 := if_p h6
    refine n_iconst (dat d_M_occupy 5 rfl) 1 rfl ?_
    refine e_goto (dat d_M_occupy 6 rfl) (tgt := 14) (by decide) ?_
    refine m_p0 (dat d_M_occupy 8 rfl) k_499 hm (fun hm => ?_)
    refine e_aload_n (dat d_M_occupy 9 rfl) 0 rfl rfl ?_
    refine s_gM (dat d_M_occupy 10 rfl) 0 k_499 (by decide) rfl rfl up2_eq ?_
    refine n_if_gt (dat d_M_occupy 11 rfl) (tgt := 33) (by decide) (by omega) (fun h21 => ?_) (fun h21 => ?_)
    · refine n_iconst (dat d_M_occupy 17 rfl) 0 rfl ?_
      exact q_zret (dat d_M_occupy 18 rfl) rfl (z01 (by decide)) (show 0 ≤ 0 by decide) (show 0 ≤ 0 by decide) (mo_x hm up2_eq fr8.rf.p0 (if_pos h6) (by decide))
    · first | exact absurd rfl h21 | exact absurd h21 (by decide)
theorem t_M_vacate {E : wE} {m : wM} {f : wF} {w : Int64} {x : Int32} (hW : Wv m) (hm : Rm m f)  : Cq E i_M_vacate 3 0 0 [.ref (wB E + 39), .int x] f w (MO f (kS1 m x) m (vacM2 m (ix x)) (nI (if m 41 (ix x) = 0 then 0 else 1))) (fun _ => False) := by
  have hm0 := hm
  have h12 := hW.S
  have h8 := hW.R
  replace hm := Rf.of hm
  refine cq_of rfl rfl rfl (show 2 ≤ 3 by decide) ?_
  refine e_aload_n (dat d_M_vacate 0 rfl) 0 rfl rfl ?_
  refine e_aload_n (dat d_M_vacate 1 rfl) 0 rfl rfl ?_
  refine e_iload_n (dat d_M_vacate 2 rfl) 1 rfl rfl ?_
  refine r_call (t_M_noSection hW hm0) c_M_noSection (dat d_M_vacate 3 rfl) rfl k_574 rfl rfl (by decide) (by omega) rfl (show 1 ≤ 8 by decide) ⟨show 1 ≤ 3 by decide, show 21 ≤ 90 by decide⟩ ⟨show 0 ≤ 0 by decide, show 0 ≤ 0 by decide⟩ ?_
  refine n_if_eq (dat d_M_vacate 4 rfl) (tgt := 13) (by decide) if_lt (fun h6 => ?_) (fun h6 => ?_)
  · replace h6 := if_n h6
    obtain ⟨i, hi, rfl⟩ := ix_of (x := x) (N := m 39 1) (by omega) h6
    have hx := ix_nI (show i < 64 by omega)
    refine n_iconst (dat d_M_vacate 7 rfl) 0 rfl ?_
    refine m_p0 (dat d_M_vacate 8 rfl) k_499 hm (fun hm => ?_)
    refine e_aload_n (dat d_M_vacate 9 rfl) 0 rfl rfl ?_
    refine s_gM (dat d_M_vacate 10 rfl) 0 k_499 (by decide) rfl rfl up2_eq ?_
    refine n_if_gt (dat d_M_vacate 11 rfl) (tgt := 33) (by decide) (by omega) (fun h21 => ?_) (fun h21 => ?_)
    · first | exact absurd rfl h21 | exact absurd h21 (by decide)
    · refine e_aload_n (dat d_M_vacate 12 rfl) 0 rfl rfl ?_
      refine s_qM (t := 41) (dat d_M_vacate 13 rfl) 3 k_502 (by decide) rfl rfl rfl ?_
      refine e_iload_n (dat d_M_vacate 14 rfl) 1 rfl rfl ?_
      refine s_bld (N := 12) (dat d_M_vacate 15 rfl) rfl (by decide) rfl rfl (by omega) (rmf hm (by decide)) ?_
      refine n_if_ne (dat d_M_vacate 16 rfl) (tgt := 35) (by decide) (lt64 (hW.b _ _)) (fun h30 => ?_) (fun h30 => ?_)
      · refine e_aload_n (dat d_M_vacate 19 rfl) 0 rfl rfl ?_
        refine s_qM (t := 41) (dat d_M_vacate 20 rfl) 3 k_502 (by decide) rfl rfl rfl ?_
        refine e_iload_n (dat d_M_vacate 21 rfl) 1 rfl rfl ?_
        refine n_iconst (dat d_M_vacate 22 rfl) 0 rfl ?_
        refine m_bst (N := 12) (dat d_M_vacate 23 rfl) rfl (by decide) rfl rfl (by omega) (by decide) (by omega) hm (fun hm => ?_)
        refine n_iconst (dat d_M_vacate 24 rfl) 0 rfl ?_
        refine e_istore_n (dat d_M_vacate 25 rfl) rfl (show 2 < 3 by decide) (lv2 := [(2, _), (0, _), (1, _)]) rfl ?_
        have L : ∀ k, k ≤ m 39 7 → ∀ f1, Rf (lvA (um m 41 i 0) k) (up2 f 39 0 (nI 0)) f1 → Ev E (jq E i_M_vacate 3 0 0 f w (MO f (kS1 m (nI i)) m (vacM2 m (ix (nI i))) (nI (if m 41 (ix (nI i)) = 0 then 0 else 1))) (fun _ => False)) 0 0 44 [(2, .int (nI k)), (0, .ref (wB E + 39))] [] f1 g0 w 57 := by
          apply lp_ind
          intro k hk ih f1 hm
          generalize hM : lvA (um m 41 i 0) k = M at hm
          have hW1 : Wv M := by
            rw [← hM]
            exact wv_lvA (wv_um41 hW (by decide)) k
          have e39 : ∀ b, M 39 b = m 39 b := fun b => by
            rw [← hM]
            exact (lvo (by decide) k).trans (if_neg (fun h => absurd h.1 (by decide)))
          have h12 := hW1.S
          have h8 := hW1.R
          have g1 := e39 1
          have g7 := e39 7
          refine e_iload_n (dat d_M_vacate 26 rfl) 0 rfl rfl ?_
          refine e_aload_n (dat d_M_vacate 27 rfl) 1 rfl rfl ?_
          refine s_gM (dat d_M_vacate 28 rfl) 7 k_506 (by decide) rfl rfl (rmf7 hm) ?_
          refine n_icmp_ge (dat d_M_vacate 29 rfl) (tgt := 73) (by decide) (by omega) (by omega) (fun h49 => ?_) (fun h49 => ?_)
          · refine e_aload_n (dat d_M_vacate 41 rfl) 1 rfl rfl ?_
            refine q_call (t_M_look hW1 hm.1) c_M_look (dat d_M_vacate 42 rfl) rfl k_620 rfl rfl (by decide) (by omega) rfl (show 0 ≤ 8 by decide) ⟨show 3 ≤ 3 by decide, show 82 ≤ 90 by decide⟩ ⟨show 0 ≤ 0 by decide, show 0 ≤ 0 by decide⟩ (fun v9 f9 h9 => ?_) (fun X9 h9 => h9.elim)
            obtain ⟨rfl, hm9, hf9⟩ := h9
            refine n_iconst (dat d_M_vacate 43 rfl) 1 rfl ?_
            exact q_zret (dat d_M_vacate 44 rfl) rfl (z01 (by decide)) (show 0 ≤ 0 by decide) (show 0 ≤ 0 by decide) (mo_r (by rw [hx, vacM2, if_neg h30, show m 39 7 = k by omega, hM]; exact hm9) (hm.2.tr hf9) up2_eq fr8.rf.p0 (if_neg h6) (by rw [hx, if_neg h30]))
          · refine e_aload_n (dat d_M_vacate 30 rfl) 1 rfl rfl ?_
            refine s_qM (t := 48) (dat d_M_vacate 31 rfl) 11 k_510 (by decide) rfl rfl rfl ?_
            refine e_iload_n (dat d_M_vacate 32 rfl) 0 rfl rfl ?_
            refine s_ild (N := 8) (dat d_M_vacate 33 rfl) rfl (by decide) rfl rfl (by omega) (rmf hm (by decide)) ?_
            refine n_iconst (dat d_M_vacate 34 rfl) 2 rfl ?_
            refine n_icmp_ne (dat d_M_vacate 35 rfl) (tgt := 67) (by decide) (lt64 (hW1.b _ _)) (by decide) (fun h59 => ?_) (fun h59 => ?_)
            · refine n_iinc (q := 0) (dat d_M_vacate 39 rfl) rfl (show 2 < 3 by decide) (lv2 := [(2, _), (0, _)]) rfl ?_
              refine e_goto (dat d_M_vacate 40 rfl) (tgt := 44) (by decide) ?_
              have hs : lvA (um m 41 i 0) (k + 1) = M := by
                show (if lvA (um m 41 i 0) k 48 k = 2 then lvR (lvA (um m 41 i 0) k) k else lvA (um m 41 i 0) k) = M
                rw [hM, if_neg h59]
              rw [← hs] at hm
              exact ih (by omega) _ hm
            · refine e_aload_n (dat d_M_vacate 36 rfl) 1 rfl rfl ?_
              refine e_iload_n (dat d_M_vacate 37 rfl) 0 rfl rfl ?_
              refine q_call (t_M_leave hW1 hm.1 (by omega)) c_M_leave (dat d_M_vacate 38 rfl) rfl k_644 rfl rfl (by decide) (by omega) rfl (show 0 ≤ 8 by decide) ⟨show 2 ≤ 3 by decide, show 54 ≤ 90 by decide⟩ ⟨show 0 ≤ 0 by decide, show 0 ≤ 0 by decide⟩ (fun v9 f9 h9 => ?_) (fun X9 h9 => h9.elim)
              obtain ⟨rfl, hm9, hf9⟩ := h9
              refine n_iinc (q := 0) (dat d_M_vacate 39 rfl) rfl (show 2 < 3 by decide) (lv2 := [(2, _), (0, _)]) rfl ?_
              refine e_goto (dat d_M_vacate 40 rfl) (tgt := 44) (by decide) ?_
              have hs : Rm (lvA (um m 41 i 0) (k + 1)) f9 := by
                show Rm (if lvA (um m 41 i 0) k 48 k = 2 then lvR (lvA (um m 41 i 0) k) k else lvA (um m 41 i 0) k) f9
                rw [hM, if_pos h59]
                exact hm9
              exact ih (by omega) _ (Rf.tr hm hs hf9)
        refine e_lv [0, 1] rfl ?_
        exact L 0 (Nat.zero_le _) _ hm
      · refine n_iconst (dat d_M_vacate 17 rfl) 0 rfl ?_
        exact q_zret (dat d_M_vacate 18 rfl) rfl (z01 (by decide)) (show 0 ≤ 0 by decide) (show 0 ≤ 0 by decide) (mo_r (by rw [hx, vacM2, if_pos h30]; exact hm.1) hm.2 up2_eq fr8.rf.p0 (if_neg h6) (by rw [hx, if_pos h30]))
  · replace h6 := if_p h6
    refine n_iconst (dat d_M_vacate 5 rfl) 1 rfl ?_
    refine e_goto (dat d_M_vacate 6 rfl) (tgt := 14) (by decide) ?_
    refine m_p0 (dat d_M_vacate 8 rfl) k_499 hm (fun hm => ?_)
    refine e_aload_n (dat d_M_vacate 9 rfl) 0 rfl rfl ?_
    refine s_gM (dat d_M_vacate 10 rfl) 0 k_499 (by decide) rfl rfl up2_eq ?_
    refine n_if_gt (dat d_M_vacate 11 rfl) (tgt := 33) (by decide) (by omega) (fun h21 => ?_) (fun h21 => ?_)
    · refine n_iconst (dat d_M_vacate 17 rfl) 0 rfl ?_
      exact q_zret (dat d_M_vacate 18 rfl) rfl (z01 (by decide)) (show 0 ≤ 0 by decide) (show 0 ≤ 0 by decide) (mo_x hm up2_eq fr8.rf.p0 (if_pos h6) (by decide))
    · first | exact absurd rfl h21 | exact absurd h21 (by decide)
theorem t_M_breakPoints {E : wE} {m : wM} {f : wF} {w : Int64} {x : Int32} {b : Nat} (hW : Wv m) (hm : Rm m f) (hb : b ≤ 1) : Cq E i_M_breakPoints 3 0 0 [.ref (wB E + 39), .int x, .int (nI b)] f w (MV f (kBrk m x) m (look (um m 44 (ix x) b))) (fun _ => False) := by
  have hm0 := hm
  have h12 := hW.S
  have h8 := hW.R
  replace hm := Rf.of hm
  refine cq_of rfl rfl rfl (show 3 ≤ 3 by decide) ?_
  refine e_aload_n (dat d_M_breakPoints 0 rfl) 0 rfl rfl ?_
  refine e_aload_n (dat d_M_breakPoints 1 rfl) 0 rfl rfl ?_
  refine e_iload_n (dat d_M_breakPoints 2 rfl) 1 rfl rfl ?_
  refine r_call (t_M_noSection hW hm0) c_M_noSection (dat d_M_breakPoints 3 rfl) rfl k_574 rfl rfl (by decide) (by omega) rfl (show 1 ≤ 8 by decide) ⟨show 1 ≤ 3 by decide, show 21 ≤ 90 by decide⟩ ⟨show 0 ≤ 0 by decide, show 0 ≤ 0 by decide⟩ ?_
  refine n_if_eq (dat d_M_breakPoints 4 rfl) (tgt := 13) (by decide) if_lt (fun h6 => ?_) (fun h6 => ?_)
  · replace h6 := if_n h6
    obtain ⟨i, hi, rfl⟩ := ix_of (x := x) (N := m 39 1) (by omega) h6
    have hx := ix_nI (show i < 64 by omega)
    refine e_aload_n (dat d_M_breakPoints 7 rfl) 0 rfl rfl ?_
    refine s_qM (t := 40) (dat d_M_breakPoints 8 rfl) 2 k_501 (by decide) rfl rfl rfl ?_
    refine e_iload_n (dat d_M_breakPoints 9 rfl) 1 rfl rfl ?_
    refine s_bld (N := 12) (dat d_M_breakPoints 10 rfl) rfl (by decide) rfl rfl (by omega) (rmf hm (by decide)) ?_
    refine n_if_ne (dat d_M_breakPoints 11 rfl) (tgt := 26) (by decide) (lt64 (hW.b _ _)) (fun h19 => ?_) (fun h19 => ?_)
    · refine n_iconst (dat d_M_breakPoints 14 rfl) 0 rfl ?_
      refine m_p0 (dat d_M_breakPoints 15 rfl) k_499 hm (fun hm => ?_)
      refine e_aload_n (dat d_M_breakPoints 16 rfl) 0 rfl rfl ?_
      refine s_gM (dat d_M_breakPoints 17 rfl) 0 k_499 (by decide) rfl rfl up2_eq ?_
      refine n_if_le (dat d_M_breakPoints 18 rfl) (tgt := 38) (by decide) (by omega) (fun h34 => ?_) (fun h34 => ?_)
      · refine e_aload_n (dat d_M_breakPoints 20 rfl) 0 rfl rfl ?_
        refine s_qM (t := 44) (dat d_M_breakPoints 21 rfl) 6 k_505 (by decide) rfl rfl rfl ?_
        refine e_iload_n (dat d_M_breakPoints 22 rfl) 1 rfl rfl ?_
        refine e_iload_n (dat d_M_breakPoints 23 rfl) 2 rfl rfl ?_
        refine m_bst (N := 12) (dat d_M_breakPoints 24 rfl) rfl (by decide) rfl rfl (by omega) (by decide) (by omega) hm (fun hm => ?_)
        refine e_aload_n (dat d_M_breakPoints 25 rfl) 0 rfl rfl ?_
        refine q_call (t_M_look (wv_um44 hW hb) hm.1) c_M_look (dat d_M_breakPoints 26 rfl) rfl k_620 rfl rfl (by decide) (by omega) rfl (show 0 ≤ 8 by decide) ⟨show 3 ≤ 3 by decide, show 82 ≤ 90 by decide⟩ ⟨show 0 ≤ 0 by decide, show 0 ≤ 0 by decide⟩ (fun v9 f9 h9 => ?_) (fun X9 h9 => h9.elim)
        obtain ⟨rfl, hm9, hf9⟩ := h9
        exact q_vret (dat d_M_breakPoints 27 rfl) rfl (show 0 ≤ 0 by decide) (show 0 ≤ 0 by decide) (mv_r (by rw [hx]; exact hm9) (hm.2.tr hf9) up2_eq fr8.rf.p0 (by rw [kBrk, if_neg h6, hx, if_neg h19]))
      · first | exact absurd rfl h34 | exact absurd h34 (by decide)
    · refine n_iconst (dat d_M_breakPoints 12 rfl) 2 rfl ?_
      refine e_goto (dat d_M_breakPoints 13 rfl) (tgt := 27) (by decide) ?_
      refine m_p0 (dat d_M_breakPoints 15 rfl) k_499 hm (fun hm => ?_)
      refine e_aload_n (dat d_M_breakPoints 16 rfl) 0 rfl rfl ?_
      refine s_gM (dat d_M_breakPoints 17 rfl) 0 k_499 (by decide) rfl rfl up2_eq ?_
      refine n_if_le (dat d_M_breakPoints 18 rfl) (tgt := 38) (by decide) (by omega) (fun h34 => ?_) (fun h34 => ?_)
      · first | exact absurd rfl h34 | exact absurd h34 (by decide)
      · exact q_vret (dat d_M_breakPoints 19 rfl) rfl (show 0 ≤ 0 by decide) (show 0 ≤ 0 by decide) (mv_x hm up2_eq fr8.rf.p0 (by rw [kBrk, if_neg h6, hx, if_pos h19]) (by decide))
  · replace h6 := if_p h6
    refine n_iconst (dat d_M_breakPoints 5 rfl) 1 rfl ?_
    refine e_goto (dat d_M_breakPoints 6 rfl) (tgt := 27) (by decide) ?_
    refine m_p0 (dat d_M_breakPoints 15 rfl) k_499 hm (fun hm => ?_)
    refine e_aload_n (dat d_M_breakPoints 16 rfl) 0 rfl rfl ?_
    refine s_gM (dat d_M_breakPoints 17 rfl) 0 k_499 (by decide) rfl rfl up2_eq ?_
    refine n_if_le (dat d_M_breakPoints 18 rfl) (tgt := 38) (by decide) (by omega) (fun h34 => ?_) (fun h34 => ?_)
    · first | exact absurd rfl h34 | exact absurd h34 (by decide)
    · exact q_vret (dat d_M_breakPoints 19 rfl) rfl (show 0 ≤ 0 by decide) (show 0 ≤ 0 by decide) (mv_x hm up2_eq fr8.rf.p0 (if_pos h6) (by decide))
