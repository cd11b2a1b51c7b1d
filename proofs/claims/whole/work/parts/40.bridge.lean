/-! the two programs' answers are the same, wherever the invariant holds -/
theorem lie_pos {m : wM} {i h : Nat} (hh : h ≠ 0) (h2 : m 42 i < 64) : lieI m i = posI h ↔ (m 42 i = psn h ∧ m 43 i = 0) := by
  have hp := psn_le h
  rw [posI, if_neg hh]
  unfold lieI
  by_cases e : m 43 i = 0
  · rw [if_pos e, nI_eq (by omega) (by omega)]
    exact ⟨fun h => ⟨h, e⟩, fun h => h.1⟩
  · rw [if_neg e]
    exact ⟨fun h => absurd h.symm (nI_m1 (by omega)), fun h => absurd h.2 e⟩
theorem safe_iff {m : wM} {r : Nat} (h : Jv m) (hr : r < m 39 7) : (m 48 r = 1 ∧ clrP m r ∧ fndP m r) ↔ safe m r := by
  have hW := h.W
  constructor
  · rintro ⟨h1, h2, h3⟩
    refine ⟨h1, fun k hk => ⟨fun h4 => h2 k hk ⟨h4.1, by omega⟩, ?_⟩⟩
    by_cases e : m 53 (6 * r + k) = 0
    · exact Or.inl e
    · have h4 := h3 k hk (fun h9 => e ((h.U r k hr hk).2.2.1.mpr h9))
      have h5 := (lie_pos e (hW.b _ _)).mp h4.1
      exact Or.inr ⟨h5.1, h5.2, h4.2⟩
  · rintro ⟨h1, h2⟩
    refine ⟨h1, fun k hk h4 => ?_, fun k hk h4 => ?_⟩
    · have := (hW.o (m 52 (6 * r + k))).2.1
      exact (h2 k hk).1 ⟨h4.1, by omega⟩
    · have e : m 53 (6 * r + k) ≠ 0 := fun h9 => h4 ((h.U r k hr hk).2.2.1.mp h9)
      have h5 := (h2 k hk).2.resolve_left e
      exact ⟨(lie_pos e (hW.b _ _)).mpr ⟨h5.1, h5.2.1⟩, h5.2.2⟩
theorem cn_iff {m : wM} {b : Nat} (h : Jv m) (hb : b < m 39 7) : cnP m b ↔ (safe m b ∧ nrA m b) := by
  constructor
  · rintro ⟨h1, h2, h3⟩
    refine ⟨?_, h2⟩
    refine Classical.byContradiction (fun h4 => h3 (fun r hr h5 => h4 ?_))
    have e := h.G r b hr hb h5.2.1 h1 h5.1
    rw [e] at h5
    exact (safe_iff h hb).mp h5.2
  · rintro ⟨h1, h2⟩
    have h3 := (safe_iff h hb).mpr h1
    exact ⟨h1.1, h2, fun h4 => h4 b hb ⟨rfl, h3⟩⟩
theorem nt_look {m : wM} (h : Jv m) : ntN m (m 39 7) = look m := by
  funext a b
  unfold ntN look lookN
  by_cases h1 : a = 50 ∧ b < m 39 7 ∧ cnP m b
  · rw [if_pos h1, if_pos ⟨h1.1, h1.2.1, (cn_iff h h1.2.1).mp h1.2.2⟩]
  · rw [if_neg h1, if_neg (fun h2 => h1 ⟨h2.1, h2.2.1, (cn_iff h h2.2.1).mpr h2.2.2⟩)]
theorem bad_iff {m : wM} {r q k j : Nat} (h : Jv m) (hr : r < m 39 7) (hq : q < m 39 7) (hk : k < m 51 r) (hj : j < m 51 q) (he : m 52 (6 * r + k) = m 52 (6 * q + j)) : badU (m 53 (6 * q + j)) (m 53 (6 * r + k)) ↔ ((m 53 (6 * r + k) < 3 ∧ m 53 (6 * q + j) < 3) ∨ (m 53 (6 * r + k) ≠ 0 ∧ posI (m 53 (6 * r + k)) ≠ posI (m 53 (6 * q + j)))) := by
  have h1 := (h.U r k hr hk).2.2.1
  have h2 := (h.U q j hq hj).2.2.1
  rw [he] at h1
  constructor
  · rintro (h3 | h3)
    · exact Or.inl ⟨h3.2, h3.1⟩
    · refine Or.inr ⟨fun h4 => ?_, fun h4 => h3 h4.symm⟩
      have h5 := h2.mpr (h1.mp h4)
      exact h3 (by rw [h4, h5])
  · rintro (h3 | h3)
    · exact Or.inl ⟨h3.2, h3.1⟩
    · exact Or.inr (fun h4 => h3.2 h4.symm)
theorem std_iff {m : wM} {r : Nat} (h : Jv m) (hr : r < m 39 7) (h0 : m 48 r = 0) : stdP m r ↔ ¬ ∀ z, z < m 39 7 → barU m r z := by
  have hW := h.W
  refine not_congr ⟨fun h1 q hq hne => ⟨fun h2 => (h1 q hq).1 ⟨h2.2, h2.1⟩, fun j hj i hi h2 => (h1 q hq).2 (fun h3 => ?_)⟩, fun h1 q hq => ?_⟩
  · obtain ⟨h4, h5, h6⟩ := h2
    refine h3 j hj ?_ i hi h5.symm ((bad_iff h hr hq hi hj h5).mpr h6)
    rw [hW.hk hj, h4]
    decide
  · by_cases e : q = r
    · subst e
      refine ⟨fun h2 => by omega, fun h2 => h2 (fun k hk h3 => ?_)⟩
      rw [hW.hk hk, (h.U q k hq hk).2.2.2.1 h0] at h3
      exact absurd rfl h3
    · have h2 := h1 q hq e
      refine ⟨fun h3 => h2.1 ⟨h3.2, h3.1⟩, fun h3 => h3 (fun k hk h4 j hj h5 h6 => ?_)⟩
      rw [hW.hk hk] at h4
      have h7 := (hW.o (6 * q + k)).2.2.2.2.1
      exact h2.2 k hk j hj ⟨by omega, h5.symm, (bad_iff h hr hq hj hk h5.symm).mp h6⟩
theorem may_iff {m : wM} {r : Nat} (h : Jv m) (hr : r < m 39 7) : mayP m r ↔ ∀ z, z < m 51 r → ¬ (m 53 (6 * r + z) ≠ 0 ∧ nI (m 42 (m 52 (6 * r + z))) ≠ posI (m 53 (6 * r + z)) ∧ m 41 (m 52 (6 * r + z)) ≠ 0) := by
  constructor
  · intro h1 z hz h2
    exact h2.2.1 (h1 z hz (fun h3 => h2.1 ((h.U r z hr hz).2.2.1.mpr h3)) h2.2.2)
  · intro h1 k hk h2 h3
    refine Classical.byContradiction (fun h4 => h1 k hk ⟨fun h5 => h2 ((h.U r k hr hk).2.2.1.mp h5), h4, h3⟩)
theorem ite_c {P Q : Prop} {d : Decidable P} {e : Decidable Q} {a b : Nat} (h : P ↔ Q) : @ite Nat P d a b = @ite Nat Q e a b := by
  by_cases hp : P
  · rw [if_pos hp, if_pos (h.mp hp)]
  · rw [if_neg hp, if_neg (fun hq => hp (h.mpr hq))]
theorem jdg_rq {m : wM} {r : Nat} (h : Jv m) (hr : r < m 39 7) : jdg m r = rqA m r := by
  unfold jdg rqA
  by_cases h1 : m 48 r ≠ 0 ∨ ¬ hasP m r
  · rw [if_pos h1, if_pos (h1.imp id (fun h2 => Classical.byContradiction (fun h3 => h2 h3)))]
  · have h1b : ¬ (m 48 r ≠ 0 ∨ ∀ z, z < m 51 r → ¬ m 53 (6 * r + z) < 3) := fun h2 => h1 (h2.imp id (fun h3 h4 => h4 h3))
    rw [if_neg h1, if_neg h1b]
    have h0 : m 48 r = 0 := Classical.byContradiction (fun h2 => h1 (Or.inl h2))
    by_cases h2 : stdP m r
    · rw [if_pos h2, if_pos ((std_iff h hr h0).mp h2)]
    · have h2b : ¬ ¬ ∀ z, z < m 39 7 → barU m r z := fun h3 => h2 ((std_iff h hr h0).mpr h3)
      rw [if_neg h2, if_neg h2b]
      by_cases h3 : clrP m r
      · have h3b : ¬ ¬ ∀ z, z < m 51 r → ¬ (m 53 (6 * r + z) < 3 ∧ m 41 (m 52 (6 * r + z)) ≠ 0) := fun h4 => h4 h3
        have h3c : ¬ ¬ clrP m r := fun h4 => h4 h3
        rw [if_neg h3c, if_neg h3b]
        exact ite_c (not_congr (may_iff h hr))
      · rw [if_pos h3, if_pos h3]
theorem req_jv {m : wM} {r : Nat} (h : Jv m) (hr : r < m 39 7) (h0 : rqA m r = 0) : Jv (stN m r (m 51 r)) := by
  unfold rqA at h0
  have a1 : ¬ (m 48 r ≠ 0 ∨ ∀ z, z < m 51 r → ¬ m 53 (6 * r + z) < 3) := fun h1 => by
    rw [if_pos h1] at h0
    exact absurd h0 (by decide)
  rw [if_neg a1] at h0
  have a2 : ¬ ¬ ∀ z, z < m 39 7 → barU m r z := fun h1 => by
    rw [if_pos h1] at h0
    exact absurd h0 (by decide)
  rw [if_neg a2] at h0
  have a3 : ¬ ¬ ∀ z, z < m 51 r → ¬ (m 53 (6 * r + z) < 3 ∧ m 41 (m 52 (6 * r + z)) ≠ 0) := fun h1 => by
    rw [if_pos h1] at h0
    exact absurd h0 (by decide)
  have b2 := Classical.byContradiction a2
  have b3 := Classical.byContradiction a3
  refine jv_req h hr (fun q hq hne h1 h2 => (b2 q hq hne).1 ⟨h2, Or.inl h1⟩) (fun q j k hq hne hj hk h1 h2 h3 => (b2 q hq hne).2 j hj k hk ⟨h1, h2, Or.inl h3⟩) (fun k hk h1 => Classical.byContradiction (fun h2 => b3 k hk ⟨h1, h2⟩))
theorem req_eq {m : wM} {r : Nat} (h : Jv m) (hr : r < m 39 7) : reqM m r = rqM m r := by
  have e := jdg_rq h hr
  unfold reqM rqM
  by_cases h0 : rqA m r = 0
  · rw [if_pos (e.trans h0), if_pos h0]
    have hj := req_jv h hr h0
    have e7 : stN m r (m 51 r) 39 7 = m 39 7 := by
      unfold stN
      rw [if_neg (by omega), if_neg (by omega), if_neg (by omega), wnN_o (by decide) (by decide)]
    have := nt_look hj
    rw [e7] at this
    exact this
  · rw [if_neg (fun h1 => h0 (e.symm.trans h1)), if_neg h0]
theorem req_iv {m : wM} {r : Nat} (h : Iv m) (hr : r < m 39 7) : Iv (rqM m r) := by
  unfold rqM
  by_cases h0 : rqA m r = 0
  · rw [if_pos h0]
    exact iv_look (req_jv h.1 hr h0)
  · rw [if_neg h0]
    exact h
theorem can_eq {m : wM} {r : Nat} (h : Iv m) (hr : r < m 39 7) : canM m r = canM2 m r := by
  unfold canM canM2
  rw [look_id (iv_rel h hr).2]
theorem can_iv {m : wM} {r : Nat} (h : Iv m) (hr : r < m 39 7) : Iv (canM m r) := by
  unfold canM
  split
  · rename_i h1
    split
    · exact iv_rel h hr
    · exact iv_tim h hr h1
  · exact h
theorem occ_7 {m : wM} {s U : Nat} : occU m s U 39 7 = m 39 7 := by
  unfold occU
  rw [if_neg (by omega), if_neg (by omega), if_neg (by omega), if_neg (by omega)]
theorem occ_eq {m : wM} {s : Nat} (h : Jv m) : occM m s = occM2 m s := by
  unfold occM occM2
  split
  · have := nt_look (jv_occ (s := s) h)
    rw [occ_7] at this
    exact this
  · rfl
theorem occ_iv {m : wM} {s : Nat} (h : Iv m) : Iv (occM2 m s) := by
  unfold occM2
  split
  · exact iv_look (jv_occ h.1)
  · exact h
theorem vac_i {m : wM} {s : Nat} (h : Iv m) : Iv (lvA (um m 41 s 0) (m 39 7)) := by
  have h1 := iv_vac0 (s := s) h
  have e : um m 41 s 0 39 7 = m 39 7 := by simp [um]
  have := (iv_lvA h1 (um m 41 s 0 39 7) (Nat.le_refl _)).1
  rw [e] at this
  exact this
theorem vac_eq {m : wM} {s : Nat} (h : Iv m) : vacM m s = vacM2 m s := by
  unfold vacM vacM2
  rw [look_id (vac_i h).2]
theorem vac_iv {m : wM} {s : Nat} (h : Iv m) : Iv (vacM m s) := by
  unfold vacM
  split
  · exact h
  · exact vac_i h
theorem fre_iff {m : wM} {s : Nat} (h : Wv m) : (m 41 s = 0 ∧ ¬ hldP m s) ↔ freP m s := by
  constructor
  · rintro ⟨h1, h2⟩
    have h3 := Classical.byContradiction h2
    refine ⟨h1, fun z hz h4 => ?_⟩
    have hr : z / 6 < m 39 7 := by omega
    have e : 6 * (z / 6) + z % 6 = z := by omega
    have h5 := h3 (z / 6) hr
    by_cases hp : m 53 z < 3
    · refine h5.1 (fun h6 => h6 (z % 6) h4.1 (by rw [e]; exact h4.2.2) (by rw [e]; exact hp) (by rw [e]; exact h4.2.1))
    · refine h5.2 (fun h6 => h6 (z % 6) h4.1 (by rw [e]; exact h4.2.2) (by rw [e]; exact hp) (by rw [e]; exact h4.2.1))
  · rintro ⟨h1, h2⟩
    refine ⟨h1, fun h3 => h3 (fun r hr => ?_)⟩
    have h6 := h.N hr
    have key : ∀ k, k < m 51 r → m 52 (6 * r + k) = s → ¬ m 54 (6 * r + k) = 1 := by
      intro k hk h4 h5
      have e1 : (6 * r + k) / 6 = r := by omega
      have e2 : (6 * r + k) % 6 = k := by omega
      exact h2 (6 * r + k) (by omega) ⟨by rw [e1, e2]; exact hk, h5, h4⟩
    exact ⟨fun h4 => h4 (fun k hk h5 _ => key k hk h5), fun h4 => h4 (fun k hk h5 _ => key k hk h5)⟩
theorem mov_a {m : wM} {s : Nat} (h : Wv m) : movA m s = movA2 m s := by
  unfold movA movA2
  exact ite_c (fre_iff h)
theorem fre_no {m : wM} {s : Nat} (h : Wv m) (hf : freP m s) : ∀ r k, r < m 39 7 → k < m 51 r → m 52 (6 * r + k) = s → m 54 (6 * r + k) ≠ 1 := by
  intro r k hr hk h1 h2
  have h6 := h.N hr
  have e1 : (6 * r + k) / 6 = r := by omega
  have e2 : (6 * r + k) % 6 = k := by omega
  exact hf.2 (6 * r + k) (by omega) ⟨by rw [e1, e2]; exact hk, h2, h1⟩
theorem mov_eq {m : wM} {s p : Nat} (h : Iv m) (hs : s < m 39 1) (hp : p ≤ 1) (h4 : m 40 s ≠ 0) : movM m s p = movM2 m s p := by
  have hW := h.1.W
  unfold movM movM2
  by_cases hf : freP m s
  · rw [if_pos ((fre_iff hW).mpr hf), if_pos hf, look_id (iv_mov h hs hp h4 (fre_no hW hf)).2]
  · rw [if_neg (fun h1 => hf ((fre_iff hW).mp h1)), if_neg hf, look_id h.2]
theorem mov_iv {m : wM} {s p : Nat} (h : Iv m) (hs : s < m 39 1) (hp : p ≤ 1) (h4 : m 40 s ≠ 0) : Iv (movM m s p) := by
  have hW := h.1.W
  unfold movM
  by_cases hf : freP m s
  · rw [if_pos ((fre_iff hW).mpr hf)]
    exact iv_mov h hs hp h4 (fre_no hW hf)
  · rw [if_neg (fun h1 => hf ((fre_iff hW).mp h1))]
    exact h
theorem brk_eq {m : wM} {s b : Nat} (h : Jv m) (hb : b ≤ 1) : ntN (um m 44 s b) (m 39 7) = look (um m 44 s b) := by
  have e : um m 44 s b 39 7 = m 39 7 := by simp [um]
  have := nt_look (iv_brk (s := s) h hb)
  rw [e] at this
  exact this
theorem tck_eq {m : wM} {d : Nat} (h : Jv m) : ntN (tks m d) (m 39 7) = look (tks m d) := by
  have := nt_look (jv_tks h d)
  rw [tks_39] at this
  exact this
theorem off_iff {m : wM} {s : Nat} (h : Jv m) : (∀ r, r < m 39 7 → ¬ (m 45 r = s ∧ m 48 r = 1 ∧ clrP m r ∧ fndP m r)) ↔ ∀ r, r < m 39 7 → ¬ (m 45 r = s ∧ safe m r) := by
  constructor
  · intro h1 r hr h2
    exact h1 r hr ⟨h2.1, (safe_iff h hr).mpr h2.2⟩
  · intro h1 r hr h2
    exact h1 r hr ⟨h2.1, (safe_iff h hr).mp h2.2⟩
theorem cla_eq {m : wM} {r q : Nat} (h : Jv m) (hr : r < m 39 7) (hq : q < m 39 7) : claA m r q = claA2 m r q := by
  have hW := h.W
  have hn := hW.N hr
  have hb : ∀ k, k < m 51 r → bts (fun _ => 1) (m 51 r) / 2 ^ k % 2 = 1 := fun k hk => bts_bit (fun _ => Nat.le_refl _) _ _ hk
  unfold claA claA2
  refine ite_c ⟨fun h1 => ⟨h1.1, fun h2 => ?_⟩, fun h1 => ⟨h1.1, ?_⟩⟩
  · rcases h1.2 with h3 | h3
    · exact h2.1 h3
    · refine h3 (fun k hk h4 j hj h5 h6 => h2.2 k hk j hj ⟨h5, ?_⟩)
      have h7 := (bad_iff h hr hq hk hj h5).mp (h6.imp (fun h => ⟨h.2, h.1⟩) (fun h h8 => h h8.symm))
      exact h7
  · refine Classical.byContradiction (fun h2 => h1.2 ⟨fun h3 => h2 (Or.inl h3), fun k hk j hj h3 => h2 (Or.inr (fun h4 => ?_))⟩)
    have h5 := (bad_iff h hr hq hk hj h3.1).mpr h3.2
    exact h4 k hk (by rw [hb k hk]; decide) j hj h3.1 (h5.imp (fun h => ⟨h.2, h.1⟩) (fun h h8 => h h8.symm))
theorem bts_ext {h : Nat → Nat} {N : Nat} : ∀ K, N ≤ K → (∀ r, N ≤ r → r < K → h r = 0) → bts h K = bts h N := by
  intro K
  induction K with
  | zero =>
    intro h1 _
    rw [show N = 0 by omega]
  | succ K ih =>
    intro h1 h2
    by_cases e : N = K + 1
    · rw [e]
    · rw [bts_s, h2 K (by omega) (by omega), Nat.zero_mul, Nat.add_zero]
      exact ih (by omega) (fun r h3 h4 => h2 r h3 (by omega))
theorem trk_eq {m : wM} {s c : Nat} {t t' : Int32} (h : Jv m) (hs : s < m 39 1) (hc : c ≤ 6) (h1 : trkR m s c t) (h2 : trk2 m s c t') : t = t' := by
  have hW := h.W
  have h8 := hW.R
  obtain ⟨a0, a1, a2, a3, a4, a5, a6⟩ := h1
  obtain ⟨b0, b1, b2, b3, b4, b5, b6⟩ := h2
  have hcc : c = 0 ∨ c = 1 ∨ c = 2 ∨ c = 3 ∨ c = 4 ∨ c = 5 ∨ c = 6 := by omega
  rcases hcc with e | e | e | e | e | e | e
  · rw [a0 e, b0 e]
  · have pas : ∀ r, r < m 39 7 → (pasP m s r ↔ ∃ v, v < 6 * m 39 7 ∧ v / 6 = r ∧ psU m s v) := by
      intro r hr
      have h6 := hW.N hr
      constructor
      · intro h3
        refine Classical.byContradiction (fun h4 => h3 (fun k hk c1 c2 c3 => h4 ?_))
        have e1 : (6 * r + k) / 6 = r := by omega
        have e2 : (6 * r + k) % 6 = k := by omega
        exact ⟨6 * r + k, by omega, e1, ⟨by rw [e1, e2]; exact hk, c3, c1⟩, c2⟩
      · rintro ⟨v, v1, v2, ⟨v3, v4, v5⟩, v6⟩ h3
        have e1 : 6 * r + v % 6 = v := by omega
        rw [v2] at v3
        exact h3 (v % 6) v3 (by rw [e1]; exact v5) (by rw [e1]; exact v6) (by rw [e1]; exact v4)
    rcases a1 e with ⟨r, r1, r2, r3⟩ | ⟨r1, r2⟩
    · obtain ⟨u, u1, u2, ⟨u3, u4, u5⟩, u6⟩ := (pas r r1).mp r2
      rcases b1 e with ⟨v, v1, ⟨⟨v3, v4, v5⟩, v6⟩, v2⟩ | ⟨v1, v2⟩
      · have e1 : 6 * (u / 6) + u % 6 = u := by omega
        have e2 : 6 * (v / 6) + v % 6 = v := by omega
        have := h.P (u / 6) (v / 6) (u % 6) (v % 6) (by omega) (by omega) u3 v3 (by rw [e1]; exact u4) (by rw [e2]; exact v4) (by rw [e1]; exact u6) (by rw [e2]; exact v6) (by rw [e1, e2, u5, v5])
        rw [r3, v2, ← this, u2]
      · exact absurd ⟨⟨u3, u4, u5⟩, u6⟩ (v1 u u1)
    · rcases b1 e with ⟨v, v1, v3, v2⟩ | ⟨v1, v2⟩
      · exact absurd ((pas (v / 6) (by omega)).mpr ⟨v, v1, rfl, v3⟩) (r1 (v / 6) (by omega))
      · rw [r2, v2]
  · rw [a2 e, b2 e]
    congr 1
    rw [bts_ext (h := fun r => flh m s (6 * m 39 7) r) (N := m 39 7) 8 h8 (fun r h3 h4 => if_neg (by
      rintro ⟨v, v1, v2, -⟩
      omega))]
    refine bts_c (fun r hr => ?_)
    have h6 := hW.N hr
    unfold flh
    refine ite_c ⟨fun h3 => ?_, fun h3 => ?_⟩
    · refine Classical.byContradiction (fun h4 => h3 (fun k hk c1 c2 c3 => h4 ?_))
      have e1 : (6 * r + k) / 6 = r := by omega
      have e2 : (6 * r + k) % 6 = k := by omega
      exact ⟨6 * r + k, by omega, e1, ⟨by rw [e1, e2]; exact hk, c3, c1⟩, c2⟩
    · obtain ⟨v, v1, v2, ⟨v3, v4, v5⟩, v6⟩ := h3
      intro h3
      have e1 : 6 * r + v % 6 = v := by omega
      rw [v2] at v3
      exact h3 (v % 6) v3 (by rw [e1]; exact v5) (by rw [e1]; exact v6) (by rw [e1]; exact v4)
  · rw [a3 e, b3 e, lieI]
    by_cases h0 : m 40 s = 0
    · rw [if_pos h0, if_pos (h.S s hs h0).2, (h.S s hs h0).1]
    · rw [if_neg h0]
  · rw [a4 e, b4 e]
  · rw [a5 e, b5 e]
  · rw [a6 e, b6 e]
