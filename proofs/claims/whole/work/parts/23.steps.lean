/-! small steps of the picture, one turn of a loop each -/
def kp (f f' : wF) : Prop := ∀ a b, 39 ≤ a → f' a b = f a b
theorem kp.rf {f : wF} : kp f f := fun _ _ _ => rfl
theorem kp.tr {f f1 f2 : wF} (h : kp f f1) (h2 : kp f1 f2) : kp f f2 := fun a b h9 => (h2 a b h9).trans (h a b h9)
theorem kp.up {f f1 : wF} {a b : Nat} {v : Int32} (h : kp f f1) (ha : a < 39) : kp f (up2 f1 a b v) := by
  intro x y h9
  rw [up2_ne (fun e => by omega)]
  exact h x y h9
theorem kp.it {f f1 f2 : wF} {P : Prop} {d : Decidable P} (h : kp f f1) (h2 : kp f f2) : kp f (@ite wF P d f1 f2) := by
  split
  · exact h
  · exact h2
theorem wnN_64 {m : wM} {r : Nat} (h : ∀ a b, m a b < 64) : ∀ K a b, wnN m r K a b < 64 := by
  intro K
  induction K with
  | zero => exact h
  | succ K ih =>
    intro a b
    show wnU (wnN m r K) (6 * r + K) a b < 64
    have := ih a b
    have := psn_le (wnN m r K 53 (6 * r + K))
    unfold wnU
    split
    · assumption
    · unfold wnt
      repeat' split
      all_goals omega
theorem wv_wnN {m : wM} {r : Nat} (h : Wv m) (K : Nat) : Wv (wnN m r K) := by
  refine wv_k h (fun a b h9 => wnN_o (by omega) (by omega) K) (wnN_64 h.b K) (fun b => ?_)
  rw [wnN_o (by decide) (by decide), wnN_o (by decide) (by decide), wnN_o (by decide) (by decide), wnN_o (by decide) (by decide), wnN_o (by decide) (by decide), wnN_o (by decide) (by decide)]
  exact h.o b
theorem wv_occ {m : wM} {s U : Nat} (h : Wv m) : Wv (occU m s U) := by
  have h64 := h.b
  refine wv_k h (fun a b h9 => ?_) (fun a b => ?_) (fun b => ?_)
  · unfold occU
    rw [if_neg (by omega), if_neg (by omega), if_neg (by omega), if_neg (by omega)]
  · unfold occU
    repeat' split
    all_goals first | exact h64 _ _ | decide
  · have := h.o b
    unfold occU
    refine ⟨?_, ?_, ?_, ?_, ?_, ?_⟩ <;> simp <;> (repeat' split) <;> omega
theorem wv_lvN {m : wM} {r K : Nat} (h : Wv m) : Wv (lvN m r K) := by
  have h64 := h.b
  refine wv_k h (fun a b h9 => ?_) (fun a b => ?_) (fun b => ?_)
  · unfold lvN
    rw [if_neg (by omega)]
  · unfold lvN
    split
    · decide
    · exact h64 _ _
  · have := h.o b
    unfold lvN
    refine ⟨?_, ?_, ?_, ?_, ?_, ?_⟩ <;> simp <;> (repeat' split) <;> omega
theorem wv_rel {m : wM} {r : Nat} (h : Wv m) : Wv (rel m r) := by
  have h64 := h.b
  refine wv_k h (fun a b h9 => ?_) (fun a b => ?_) (fun b => ?_)
  · unfold rel
    rw [if_neg (by omega)]
  · unfold rel
    split
    · decide
    · exact h64 _ _
  · have := h.o b
    unfold rel
    refine ⟨?_, ?_, ?_, ?_, ?_, ?_⟩ <;> simp <;> (repeat' split) <;> omega
theorem wv_lvR {m : wM} {r : Nat} (h : Wv m) : Wv (lvR m r) := by
  unfold lvR
  split
  · exact wv_rel h
  · exact wv_lvN h
theorem wv_lvA {m : wM} (h : Wv m) : ∀ R, Wv (lvA m R) := by
  intro R
  induction R with
  | zero => exact h
  | succ R ih =>
    show Wv (if lvA m R 48 R = 2 then lvR (lvA m R) R else lvA m R)
    split
    · exact wv_lvR ih
    · exact ih
theorem wv_tkN {m : wM} {S : Nat} (h : Wv m) : Wv (tkN m S) := by
  have h64 := h.b
  refine wv_k h (fun a b h9 => ?_) (fun a b => ?_) (fun b => ?_)
  · unfold tkN
    rw [if_neg (by omega)]
  · unfold tkN
    have := h64 43 b
    split
    · omega
    · exact h64 _ _
  · have := h.o b
    unfold tkN
    simp
    omega
theorem wv_cdR {m : wM} {r : Nat} (h : Wv m) : Wv (cdR m r) := by
  unfold cdR
  split
  · split
    · exact wv_rel h
    · have h64 := h.b
      refine wv_k h (fun a b h9 => ?_) (fun a b => ?_) (fun b => ?_)
      · unfold um
        rw [if_neg (by omega)]
      · unfold um
        have := h64 49 r
        split
        · omega
        · exact h64 _ _
      · have := h.o b
        unfold um
        simp
        omega
  · exact h
theorem wv_cdN {m : wM} (h : Wv m) : ∀ R, Wv (cdN m R) := by
  intro R
  induction R with
  | zero => exact h
  | succ R ih => exact wv_cdR ih
theorem wv_um41 {m : wM} {s v : Nat} (h : Wv m) (hv : v ≤ 1) : Wv (um m 41 s v) := by
  have h64 := h.b
  refine wv_k h (fun a b h9 => ?_) (fun a b => ?_) (fun b => ?_)
  · unfold um
    rw [if_neg (by omega)]
  · unfold um
    split
    · omega
    · exact h64 _ _
  · have := h.o b
    unfold um
    refine ⟨?_, ?_, ?_, ?_, ?_, ?_⟩ <;> simp <;> (repeat' split) <;> omega
theorem wv_um44 {m : wM} {s v : Nat} (h : Wv m) (hv : v ≤ 1) : Wv (um m 44 s v) := by
  have h64 := h.b
  refine wv_k h (fun a b h9 => ?_) (fun a b => ?_) (fun b => ?_)
  · unfold um
    rw [if_neg (by omega)]
  · unfold um
    split
    · omega
    · exact h64 _ _
  · have := h.o b
    unfold um
    refine ⟨?_, ?_, ?_, ?_, ?_, ?_⟩ <;> simp <;> (repeat' split) <;> omega
theorem wv_set0 {m : wM} {r : Nat} (h : Wv m) : Wv (set0 m r) := by
  have h64 := h.b
  refine wv_k h (fun a b h9 => ?_) (fun a b => ?_) (fun b => ?_)
  · unfold set0
    rw [if_neg (by omega), if_neg (by omega), if_neg (by omega)]
  · unfold set0
    repeat' split
    all_goals first | exact h64 _ _ | decide
  · have := h.o b
    unfold set0
    refine ⟨?_, ?_, ?_, ?_, ?_, ?_⟩ <;> simp <;> (repeat' split) <;> omega
-- a request's picture: first the holding, then the points
theorem set_wn {m : wM} {r : Nat} : ∀ K, wnN (set0 m r) r K = fun a b => if a = 48 ∧ b = r then 1 else if a = 54 ∧ 6 * r ≤ b ∧ b < 6 * r + m 51 r then 1 else if a = 55 ∧ 6 * r ≤ b ∧ b < 6 * r + m 51 r then 0 else wnN m r K a b := by
  intro K
  induction K with
  | zero => rfl
  | succ K ih =>
    show wnU (wnN (set0 m r) r K) (6 * r + K) = fun a b => if a = 48 ∧ b = r then 1 else if a = 54 ∧ 6 * r ≤ b ∧ b < 6 * r + m 51 r then 1 else if a = 55 ∧ 6 * r ≤ b ∧ b < 6 * r + m 51 r then 0 else wnU (wnN m r K) (6 * r + K) a b
    rw [ih]
    generalize wnN m r K = M
    funext a b
    unfold wnU wnt
    by_cases h0 : M 53 (6 * r + K) = 0
    · simp [h0]
    · by_cases h1 : M 42 (M 52 (6 * r + K)) = psn (M 53 (6 * r + K))
      · simp [h0, h1]
      · simp [h0, h1]
        by_cases h48 : a = 48
        · simp [h48]
        · by_cases h54 : a = 54
          · simp [h54]
          · by_cases h55 : a = 55
            · simp [h55]
            · simp [h48, h54, h55]
theorem set_st {m : wM} {r : Nat} : wnN (set0 m r) r (set0 m r 51 r) = stN m r (m 51 r) := by
  rw [show set0 m r 51 r = m 51 r by simp [set0], set_wn]
  rfl
-- running over
theorem occ_0 {m : wM} {s k : Nat} (h6 : m 51 k ≤ 6) (hn : ∀ j, j < m 51 k → m 52 (6 * k + j) = s → m 53 (6 * k + j) < 3 → ¬ m 54 (6 * k + j) = 1) : occU m s (6 * (k + 1)) = occU m s (6 * k) := by
  have hz : ∀ v, 6 * k ≤ v → v < 6 * (k + 1) → ¬ hitU m s v := by
    intro v h1 h2 h3
    have e1 : v / 6 = k := by omega
    have e2 : 6 * k + v % 6 = v := by omega
    obtain ⟨h4, h5, h7, h8⟩ := h3
    rw [e1] at h4
    have := hn (v % 6) h4
    rw [e2] at this
    exact this h8 h7 h5
  have hA : ∀ b, hitR m s (6 * (k + 1)) b ↔ hitR m s (6 * k) b := by
    intro b
    constructor
    · intro h h2
      refine h (fun v hv h3 => ?_)
      by_cases h4 : v < 6 * k
      · exact h2 v h4 h3
      · exact hz v (by omega) hv h3.2
    · intro h h2
      exact h (fun v hv h3 => h2 v (by omega) h3)
  have hB : ∀ b, (b < 6 * (k + 1) ∧ hitU m s b) ↔ (b < 6 * k ∧ hitU m s b) := by
    intro b
    constructor
    · rintro ⟨h1, h2⟩
      refine ⟨?_, h2⟩
      refine Nat.lt_of_not_le (fun h3 => hz b h3 h1 h2)
    · rintro ⟨h1, h2⟩
      exact ⟨by omega, h2⟩
  funext a b
  unfold occU
  simp only [hA, hB]
theorem occ_1 {m : wM} {s k j : Nat} (h6 : m 51 k ≤ 6) (hj : j < m 51 k) (h1 : m 54 (6 * k + j) = 1) (h2 : m 53 (6 * k + j) < 3) (h3 : m 52 (6 * k + j) = s) (hD : ∀ i, i < m 51 k → m 52 (6 * k + i) = m 52 (6 * k + j) → i = j) : tkM (occU m s (6 * k)) k j = occU m s (6 * (k + 1)) := by
  have hz : ∀ v, 6 * k ≤ v → v < 6 * (k + 1) → hitU m s v → v = 6 * k + j := by
    intro v h4 h5 h7
    have e1 : v / 6 = k := by omega
    have e2 : 6 * k + v % 6 = v := by omega
    obtain ⟨h8, -, -, h9⟩ := h7
    rw [e1] at h8
    have := hD (v % 6) h8 (by rw [e2, h9, h3])
    omega
  have hu : hitU m s (6 * k + j) := by
    have e1 : (6 * k + j) / 6 = k := by omega
    have e2 : (6 * k + j) % 6 = j := by omega
    exact ⟨by rw [e1, e2]; exact hj, h1, h2, h3⟩
  have hA : ∀ b, hitR m s (6 * (k + 1)) b ↔ (hitR m s (6 * k) b ∨ b = k) := by
    intro b
    constructor
    · intro h
      by_cases hb : b = k
      · exact Or.inr hb
      · refine Or.inl (fun h4 => h (fun v hv h5 => ?_))
        by_cases h7 : v < 6 * k
        · exact h4 v h7 h5
        · have h8 := h5.1
          omega
    · rintro (h | h)
      · exact fun h4 => h (fun v hv h5 => h4 v (by omega) h5)
      · exact fun h4 => h4 (6 * k + j) (by omega) ⟨by omega, hu⟩
  have hB : ∀ b, (b < 6 * (k + 1) ∧ hitU m s b) ↔ ((b < 6 * k ∧ hitU m s b) ∨ b = 6 * k + j) := by
    intro b
    constructor
    · rintro ⟨h4, h5⟩
      by_cases h7 : b < 6 * k
      · exact Or.inl ⟨h7, h5⟩
      · exact Or.inr (hz b (by omega) h4 h5)
    · rintro (⟨h4, h5⟩ | h4)
      · exact ⟨by omega, h5⟩
      · rw [h4]
        exact ⟨by omega, hu⟩
  funext a b
  unfold tkM occU
  simp only [hA, hB]
  by_cases a48 : a = 48
  · subst a48
    by_cases hb : b = k <;> simp [hb]
  · by_cases a49 : a = 49
    · subst a49
      by_cases hb : b = k <;> simp [hb]
    · by_cases a55 : a = 55
      · subst a55
        by_cases hb : b = 6 * k + j <;> simp [hb]
      · simp [a48, a49, a55]
-- letting go
theorem lv_0 {m : wM} {r k : Nat} (h : m 53 (6 * r + k) < 3 → m 54 (6 * r + k) = 0) : lvN m r (k + 1) = lvN m r k := by
  funext a b
  unfold lvN
  by_cases hb : b = 6 * r + k
  · subst hb
    by_cases ha : a = 54
    · subst ha
      rw [if_neg (fun h9 : 54 = 54 ∧ 6 * r ≤ 6 * r + k ∧ 6 * r + k < 6 * r + k ∧ _ => absurd h9.2.2.1 (Nat.lt_irrefl _))]
      split
      · rename_i h9
        exact (h h9.2.2.2.1).symm
      · rfl
    · simp [ha]
  · have e : (b < 6 * r + (k + 1)) ↔ (b < 6 * r + k) := by omega
    simp only [e]
theorem lv_1 {m : wM} {r k : Nat} (hp : m 53 (6 * r + k) < 3) (hg : ∀ j, j < k + 1 → goU m (6 * r + j)) : um (lvN m r k) 54 (6 * r + k) 0 = lvN m r (k + 1) := by
  funext a b
  unfold um lvN
  by_cases hb : b = 6 * r + k
  · subst hb
    by_cases ha : a = 54
    · subst ha
      rw [if_pos ⟨rfl, rfl⟩, if_pos ⟨rfl, by omega, by omega, hp, fun j hj => hg j (by omega)⟩]
    · simp [ha]
  · have e : (b < 6 * r + (k + 1)) ↔ (b < 6 * r + k) := by omega
    simp only [e, hb, and_false, if_false]
theorem lv_stop {m : wM} {r k : Nat} (hk : k < m 51 r) (hg : ¬ goU m (6 * r + k)) : lvR m r = lvN m r k := by
  unfold lvR
  rw [if_neg (fun h => hg (h k hk))]
  funext a b
  unfold lvN
  by_cases h : a = 54 ∧ 6 * r ≤ b ∧ b < 6 * r + k ∧ m 53 b < 3 ∧ ∀ j, j < b + 1 - 6 * r → goU m (6 * r + j)
  · rw [if_pos h, if_pos ⟨h.1, h.2.1, by omega, h.2.2.2⟩]
  · rw [if_neg h, if_neg]
    rintro ⟨h1, h2, h3, h4, h5⟩
    refine h ⟨h1, h2, ?_, h4, h5⟩
    refine Nat.lt_of_not_le (fun h9 => hg (h5 k (by omega)))
theorem lv_end {m : wM} {r : Nat} (h6 : m 51 r ≤ 6) (hg : ∀ j, j < m 51 r → goU m (6 * r + j)) : rel (lvN m r (m 51 r)) r = lvR m r := by
  unfold lvR
  rw [if_pos hg]
  funext a b
  unfold rel lvN
  split
  · rfl
  · rename_i h
    rw [if_neg]
    rintro ⟨h1, h2, h3, -⟩
    exact h (Or.inr ⟨Or.inl h1, h2, by omega⟩)
-- ticking
theorem tk_s {m : wM} {k : Nat} : um (tkN m k) 43 k (tkN m k 43 k - 1) = tkN m (k + 1) := by
  funext a b
  unfold um tkN
  by_cases hb : b = k
  · subst hb
    by_cases ha : a = 43
    · simp [ha]
    · simp [ha]
  · have e : (b < k + 1) ↔ (b < k) := by omega
    simp only [e, hb, and_false, if_false]
theorem tk_0 {m : wM} : tkN m 0 = m := by
  funext a b
  unfold tkN
  rw [if_neg (fun h => absurd h.2 (Nat.not_lt_zero _))]
-- noting who is near
abbrev cnP (m : wM) (b : Nat) : Prop := m 48 b = 1 ∧ nrA m b ∧ offP m (m 45 b)
noncomputable def ntN (m : wM) (K : Nat) : wM := fun a b => @ite Nat (a = 50 ∧ b < K ∧ cnP m b) (Classical.propDecidable _) 1 (m a b)
theorem nt_o {m : wM} {K a b : Nat} (h : a ≠ 50) : ntN m K a b = m a b := if_neg (fun h2 => h h2.1)
theorem nt_0 {m : wM} : ntN m 0 = m := by
  funext a b
  exact if_neg (fun h => absurd h.2.1 (Nat.not_lt_zero _))
theorem nt_1 {m : wM} {k : Nat} (h : cnP m k) : um (ntN m k) 50 k 1 = ntN m (k + 1) := by
  funext a b
  unfold um ntN
  by_cases hb : a = 50 ∧ b = k
  · rw [if_pos hb, if_pos ⟨hb.1, by omega, by rw [hb.2]; exact h⟩]
  · rw [if_neg hb]
    by_cases h2 : a = 50 ∧ b < k ∧ cnP m b
    · rw [if_pos h2, if_pos ⟨h2.1, by omega, h2.2.2⟩]
    · rw [if_neg h2, if_neg (fun h3 => h2 ⟨h3.1, by have := h3.2.1; have h4 : ¬ b = k := fun h5 => hb ⟨h3.1, h5⟩; omega, h3.2.2⟩)]
theorem nt_n {m : wM} {k : Nat} (h : ¬ cnP m k) : ntN m (k + 1) = ntN m k := by
  funext a b
  unfold ntN
  by_cases h2 : a = 50 ∧ b < k ∧ cnP m b
  · rw [if_pos h2, if_pos ⟨h2.1, by omega, h2.2.2⟩]
  · rw [if_neg h2, if_neg (fun h3 => h2 ⟨h3.1, by have := h3.2.1; have h4 : ¬ b = k := fun h5 => h (h5 ▸ h3.2.2); omega, h3.2.2⟩)]
theorem wv_nt {m : wM} {K : Nat} (h : Wv m) : Wv (ntN m K) := by
  refine wv_k h (fun a b h9 => nt_o (by omega)) (fun a b => ?_) (fun b => ?_)
  · unfold ntN
    split
    · decide
    · exact h.b a b
  · rw [nt_o (a := 40) (by decide), nt_o (a := 41) (by decide), nt_o (a := 44) (by decide), nt_o (a := 54) (by decide), nt_o (a := 55) (by decide)]
    have := h.o b
    refine ⟨by omega, by omega, by omega, ?_, by omega, by omega⟩
    unfold ntN
    split <;> omega
theorem cn_nt {m : wM} {K b : Nat} : cnP (ntN m K) b ↔ cnP m b := by
  have e : ∀ a b, a ≠ 50 → ntN m K a b = m a b := fun a b h => nt_o h
  simp only [cnP, nrA, offP, clrP, fndP, lieI, e 48 _ (by decide), e 46 _ (by decide), e 41 _ (by decide), e 45 _ (by decide), e 39 _ (by decide), e 51 _ (by decide), e 53 _ (by decide), e 52 _ (by decide), e 40 _ (by decide), e 43 _ (by decide), e 42 _ (by decide), e 44 _ (by decide)]
