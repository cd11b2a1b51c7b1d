/-! the program's cells after each small step show the next picture -/
theorem wv_k {m m' : wM} (h : Wv m) (e : ∀ a b, a = 39 ∨ a = 46 ∨ a = 51 ∨ a = 52 ∨ a = 53 → m' a b = m a b) (hb : ∀ a b, m' a b < 64) (ho : ∀ b, m' 40 b ≤ 1 ∧ m' 41 b ≤ 1 ∧ m' 44 b ≤ 1 ∧ m' 50 b ≤ 1 ∧ m' 54 b ≤ 1 ∧ m' 55 b ≤ 1) : Wv m' := by
  obtain ⟨h1, h2, h3, h4, h5, h6, h7⟩ := h
  have e39 : ∀ b, m' 39 b = m 39 b := fun b => e 39 b (by decide)
  have e46 : ∀ b, m' 46 b = m 46 b := fun b => e 46 b (by decide)
  have e51 : ∀ b, m' 51 b = m 51 b := fun b => e 51 b (by decide)
  have e52 : ∀ b, m' 52 b = m 52 b := fun b => e 52 b (by decide)
  have e53 : ∀ b, m' 53 b = m 53 b := fun b => e 53 b (by decide)
  unfold ivD at h7
  unfold Wv ivD
  simp only [e39, e46, e51, e52, e53]
  exact ⟨h1, h2, hb, ho, h5, h6, h7⟩
theorem rc_want {m : wM} {f : wF} {i p : Nat} (hW : Wv m) (hC : Rc m f) (hi : i < m 39 1) (hp : p ≤ 1) : Rc (wnt m i p) (if f (2 + i) 4 = nI p then f else up2 (up2 (up2 f (2 + i) 4 (nI p)) (2 + i) 3 (-1)) (2 + i) 5 (nI 3)) := by
  have e4 := cS4 hC hi
  have h12 := hW.S
  have b4 := hW.b 42 i
  by_cases h : m 42 i = p
  · have e : wnt m i p = m := by
      funext a b
      unfold wnt
      rw [if_pos h]
    rw [e, if_pos (by rw [e4, h])]
    exact hC
  · rw [if_neg (by rw [e4]; exact fun h2 => h ((nI_eq (by omega) (by omega)).mp h2))]
    refine rc_S (i := i) hC hW (by omega) (fun a b ha => by simp [up2_at, ha]) (fun a b hab => ?_) ?_
    · unfold wnt
      rw [if_neg h, if_neg (by omega), if_neg (by omega)]
    · obtain ⟨h0, h1, h2, h3, h4, h5⟩ := hC.2.2.1 i hi
      have w40 : wnt m i p 40 i = m 40 i := wnt_o (by decide) (by decide)
      have w41 : wnt m i p 41 i = m 41 i := wnt_o (by decide) (by decide)
      have w44 : wnt m i p 44 i = m 44 i := wnt_o (by decide) (by decide)
      have w42 : wnt m i p 42 i = p := by simp [wnt, h]
      have w43 : wnt m i p 43 i = 3 := by simp [wnt, h]
      unfold RcS lieI
      rw [w40, w41, w42, w43, w44]
      simp [up2_at, h0, h1, h2]
theorem rc_near {m : wM} {f : wF} {r : Nat} (hW : Wv m) (hC : Rc m f) (hr : r < m 39 7) : Rc (um m 50 r 1) (up2 f (15 + 3 * r) 8 (nI 1)) := by
  refine rc_R (r := r) hC hW (fun a b h1 h2 h3 => by simp [up2_at, h1]) (fun a b h => by unfold um; rw [if_neg (by omega)]) (fun a q h h1 h2 => by unfold um; rw [if_neg (by omega)]) (fun a u h h1 h2 => by unfold um; rw [if_neg (by omega)]) (fun _ => ?_)
  obtain ⟨h1, h2, h3, h4, h5, h6, h7, h8, h9, h10⟩ := hC.2.2.2 r hr
  refine ⟨?_, ?_, ?_, ?_, ?_, ?_, ?_, ?_, ?_, fun k hk => ?_⟩
  · simp [up2_at, um, h1]
  · simp [up2_at, um, h2]
  · simp [up2_at, um, h3]
  · simp [up2_at, um, h4]
  · simp [up2_at, um, h5]
  · simp [up2_at, um, h6]
  · simp [up2_at, um]
  · rw [hld_c (m := m) (by simp [um]) (fun k _ => by simp [um])]
    simp [up2_at, h8]
  · rw [ovr_c (m := m) (by simp [um]) (fun k _ => by simp [um]) (fun k _ => by simp [um])]
    simp [up2_at, h9]
  · have h11 := h10 k (by simpa [um] using hk)
    simp [up2_at, um, h11]
def tkM (m : wM) (r k : Nat) : wM := fun a b => if a = 48 ∧ b = r then 2 else if a = 49 ∧ b = r then 0 else if a = 55 ∧ b = 6 * r + k then 1 else m a b
theorem rc_taken {m : wM} {f : wF} {r k : Nat} (hW : Wv m) (hC : Rc m f) (hr : r < m 39 7) (hk : k < m 51 r) (h54 : m 54 (6 * r + k) = 1) : Rc (tkM m r k) (up2 (up2 (up2 f (15 + 3 * r) 6 (nI 2)) (15 + 3 * r) 7 (nI 0)) (15 + 3 * r) 10 (f (15 + 3 * r) 10 ||| (nI 1 <<< (nI k &&& 31)))) := by
  have n6 := hW.N hr
  refine rc_R (r := r) hC hW (fun a b h1 h2 h3 => by simp [up2_at, h1]) (fun a b h => by unfold tkM; rw [if_neg (by omega), if_neg (by omega), if_neg (by omega)]) (fun a q h h1 h2 => by unfold tkM; rw [if_neg (by omega), if_neg (by omega), if_neg (by omega)]) (fun a u h h1 h2 => by unfold tkM; rw [if_neg (by omega), if_neg (by omega), if_neg (by omega)]) (fun _ => ?_)
  obtain ⟨h1, h2, h3, h4, h5, h6, h7, h8, h9, h10⟩ := hC.2.2.2 r hr
  refine ⟨?_, ?_, ?_, ?_, ?_, ?_, ?_, ?_, ?_, fun k9 hk9 => ?_⟩
  · simp [up2_at, tkM, h1]
  · simp [up2_at, tkM, h2]
  · simp [up2_at, tkM, h3]
  · simp [up2_at, tkM, h4]
  · simp [up2_at, tkM]
  · simp [up2_at, tkM]
  · simp [up2_at, tkM, h7]
  · rw [hld_c (m := m) (by simp [tkM]) (fun k _ => by simp [tkM])]
    simp [up2_at, h8]
  · have hX := hW.vb hr
    have hbit := hW.vk (r := r) hk
    have ho : ovr (tkM m r k) r = bts (fun j => if j = k then 1 else m 54 (6 * r + j) * m 55 (6 * r + j)) (m 51 r) := by
      unfold ovr
      rw [show tkM m r k 51 r = m 51 r by simp [tkM]]
      refine bts_c (fun j hj => ?_)
      by_cases e : j = k
      · rw [if_pos e, e]
        simp [tkM, h54]
      · rw [if_neg e]
        have e2 : ¬ (6 * r + j = 6 * r + k) := by omega
        simp [tkM, e]
    have hu := bts_up (h := fun j => m 54 (6 * r + j) * m 55 (6 * r + j)) (k := k) (v := 1) hk
    have hu2 : ovr (tkM m r k) r + m 54 (6 * r + k) * m 55 (6 * r + k) * 2 ^ k = ovr m r + 1 * 2 ^ k := by
      rw [ho]
      exact hu
    have h01 : m 54 (6 * r + k) * m 55 (6 * r + k) ≤ 1 := m01 (hW.o _).2.2.2.2.1 (hW.o _).2.2.2.2.2
    rw [up2_eq, h9, i_set _ hX _ (by omega), hbit]
    congr 1
    generalize m 54 (6 * r + k) * m 55 (6 * r + k) = z at *
    have h02 : z = 0 ∨ z = 1 := by omega
    rcases h02 with rfl | rfl
    · omega
    · omega
  · have h11 := h10 k9 (by simpa [tkM] using hk9)
    simp [up2_at, tkM, h11]
theorem rc_letgo {m : wM} {f : wF} {r k : Nat} (hW : Wv m) (hC : Rc m f) (hr : r < m 39 7) (hk : k < m 51 r) : Rc (um m 54 (6 * r + k) 0) (up2 (up2 f (15 + 3 * r) 9 (f (15 + 3 * r) 9 &&& ((nI 1 <<< (nI k &&& 31)) ^^^ (-1)))) (15 + 3 * r) 10 (f (15 + 3 * r) 10 &&& ((nI 1 <<< (nI k &&& 31)) ^^^ (-1)))) := by
  have n6 := hW.N hr
  refine rc_R (r := r) hC hW (fun a b h1 h2 h3 => by simp [up2_at, h1]) (fun a b h => by unfold um; rw [if_neg (by omega)]) (fun a q h h1 h2 => by unfold um; rw [if_neg (by omega)]) (fun a u h h1 h2 => by unfold um; rw [if_neg (by omega)]) (fun _ => ?_)
  obtain ⟨h1, h2, h3, h4, h5, h6, h7, h8, h9, h10⟩ := hC.2.2.2 r hr
  have e51 : um m 54 (6 * r + k) 0 51 r = m 51 r := by simp [um]
  refine ⟨?_, ?_, ?_, ?_, ?_, ?_, ?_, ?_, ?_, fun k9 hk9 => ?_⟩
  · simp [up2_at, um, h1]
  · simp [up2_at, um, h2]
  · simp [up2_at, um, h3]
  · simp [up2_at, um, h4]
  · simp [up2_at, um, h5]
  · simp [up2_at, um, h6]
  · simp [up2_at, um, h7]
  · have hX := hW.hb hr
    have hbit := hW.hk (r := r) hk
    have ho : hld (um m 54 (6 * r + k) 0) r = bts (fun j => if j = k then 0 else m 54 (6 * r + j)) (m 51 r) := by
      unfold hld
      rw [e51]
      refine bts_c (fun j hj => ?_)
      simp [um]
    have hu2 : hld (um m 54 (6 * r + k) 0) r + m 54 (6 * r + k) * 2 ^ k = hld m r + 0 * 2 ^ k := by
      rw [ho]
      exact bts_up (h := fun j => m 54 (6 * r + j)) (k := k) (v := 0) hk
    rw [up2_ne (by intro _; decide), up2_eq, h8, i_clr _ hX _ (by omega), hbit]
    congr 1
    omega
  · have hX := hW.vb hr
    have hbit := hW.vk (r := r) hk
    have ho : ovr (um m 54 (6 * r + k) 0) r = bts (fun j => if j = k then 0 else m 54 (6 * r + j) * m 55 (6 * r + j)) (m 51 r) := by
      unfold ovr
      rw [e51]
      refine bts_c (fun j hj => ?_)
      by_cases e : j = k <;> simp [um, e]
    have hu2 : ovr (um m 54 (6 * r + k) 0) r + m 54 (6 * r + k) * m 55 (6 * r + k) * 2 ^ k = ovr m r + 0 * 2 ^ k := by
      rw [ho]
      exact bts_up (h := fun j => m 54 (6 * r + j) * m 55 (6 * r + j)) (k := k) (v := 0) hk
    rw [up2_eq, h9, i_clr _ hX _ (by omega), hbit]
    congr 1
    omega
  · have h11 := h10 k9 (by simpa [um] using hk9)
    simp [up2_at, um, h11]
theorem hld_0 {m : wM} {r : Nat} (h : ∀ k, k < m 51 r → m 54 (6 * r + k) = 0) : hld m r = 0 := bts_zero.mpr h
theorem ovr_0 {m : wM} {r : Nat} (h : ∀ k, k < m 51 r → m 54 (6 * r + k) = 0) : ovr m r = 0 := bts_zero.mpr (fun k hk => by simp [h k hk])
theorem rc_free {m : wM} {f : wF} {r : Nat} (hW : Wv m) (hC : Rc m f) (hr : r < m 39 7) : Rc (rel m r) (up2 (up2 (up2 (up2 (up2 f (15 + 3 * r) 6 (nI 0)) (15 + 3 * r) 7 (nI 0)) (15 + 3 * r) 8 (nI 0)) (15 + 3 * r) 9 (nI 0)) (15 + 3 * r) 10 (nI 0)) := by
  have n6 := hW.N hr
  refine rc_R (r := r) hC hW (fun a b h1 h2 h3 => by simp [up2_at, h1]) (fun a b h => by unfold rel; rw [if_neg (by omega)]) (fun a q h h1 h2 => by unfold rel; rw [if_neg (by omega)]) (fun a u h h1 h2 => by unfold rel; rw [if_neg (by omega)]) (fun _ => ?_)
  obtain ⟨h1, h2, h3, h4, h5, h6, h7, h8, h9, h10⟩ := hC.2.2.2 r hr
  have e51 : rel m r 51 r = m 51 r := by simp [rel]
  have e54 : ∀ k, k < rel m r 51 r → rel m r 54 (6 * r + k) = 0 := by
    intro k hk
    rw [e51] at hk
    unfold rel
    rw [if_pos (by omega)]
  refine ⟨?_, ?_, ?_, ?_, ?_, ?_, ?_, ?_, ?_, fun k9 hk9 => ?_⟩
  · simp [up2_at, rel, h1]
  · simp [up2_at, rel, h2]
  · simp [up2_at, rel, h3]
  · simp [up2_at, rel, h4]
  · simp [up2_at, rel]
  · simp [up2_at, rel]
  · simp [up2_at, rel]
  · rw [hld_0 e54]
    simp [up2_at]
  · rw [ovr_0 e54]
    simp [up2_at]
  · have h11 := h10 k9 (by simpa [rel] using hk9)
    simp [up2_at, rel, h11]
def set0 (m : wM) (r : Nat) : wM := fun a b => if a = 48 ∧ b = r then 1 else if a = 54 ∧ 6 * r ≤ b ∧ b < 6 * r + m 51 r then 1 else if a = 55 ∧ 6 * r ≤ b ∧ b < 6 * r + m 51 r then 0 else m a b
theorem rc_set {m : wM} {f : wF} {r : Nat} (hW : Wv m) (hC : Rc m f) (hr : r < m 39 7) (h0 : ∀ k, k < m 51 r → m 54 (6 * r + k) = 0) : Rc (set0 m r) (up2 (up2 f (15 + 3 * r) 6 (nI 1)) (15 + 3 * r) 9 (nI (bts (fun _ => 1) (m 51 r)))) := by
  have n6 := hW.N hr
  refine rc_R (r := r) hC hW (fun a b h1 h2 h3 => by simp [up2_at, h1]) (fun a b h => by unfold set0; rw [if_neg (by omega), if_neg (by omega), if_neg (by omega)]) (fun a q h h1 h2 => by unfold set0; rw [if_neg (by omega), if_neg (by omega), if_neg (by omega)]) (fun a u h h1 h2 => by unfold set0; rw [if_neg (by omega), if_neg (by omega), if_neg (by omega)]) (fun _ => ?_)
  obtain ⟨h1, h2, h3, h4, h5, h6, h7, h8, h9, h10⟩ := hC.2.2.2 r hr
  have e51 : set0 m r 51 r = m 51 r := by simp [set0]
  refine ⟨?_, ?_, ?_, ?_, ?_, ?_, ?_, ?_, ?_, fun k9 hk9 => ?_⟩
  · simp [up2_at, set0, h1]
  · simp [up2_at, set0, h2]
  · simp [up2_at, set0, h3]
  · simp [up2_at, set0, h4]
  · simp [up2_at, set0]
  · simp [up2_at, set0, h6]
  · simp [up2_at, set0, h7]
  · rw [up2_eq]
    unfold hld
    rw [e51, bts_c (fun k hk => ?_)]
    simp [set0, hk]
  · have e : ovr (set0 m r) r = 0 := by
      refine bts_zero.mpr (fun k hk => ?_)
      rw [e51] at hk
      simp [set0, hk]
    rw [e, up2_ne (by intro _; decide), up2_ne (by intro _; decide), h9, ovr_0 h0]
  · have h11 := h10 k9 (by simpa [set0] using hk9)
    simp [up2_at, set0, h11]
theorem rc_mv1 {m : wM} {f : wF} {i : Nat} (hW : Wv m) (hC : Rc m f) (hi : i < m 39 1) : Rc (um m 43 i (m 43 i - 1)) (if m 43 i = 0 then f else if m 43 i = 1 then up2 (up2 f (2 + i) 5 (nI 0)) (2 + i) 3 (f (2 + i) 4) else up2 f (2 + i) 5 (nI (m 43 i - 1))) := by
  have h12 := hW.S
  obtain ⟨h0, h1, h2, h3, h4, h5⟩ := hC.2.2.1 i hi
  by_cases e0 : m 43 i = 0
  · have e : um m 43 i (m 43 i - 1) = m := by
      funext a b
      unfold um
      split
      · rename_i h
        rw [h.1, h.2, e0]
      · rfl
    rw [e, if_pos e0]
    exact hC
  · rw [if_neg e0]
    by_cases e1 : m 43 i = 1
    · rw [if_pos e1]
      refine rc_S (i := i) hC hW (by omega) (fun a b ha => by simp [up2_at, ha]) (fun a b hab => by unfold um; rw [if_neg (by omega)]) ?_
      unfold RcS lieI
      simp [up2_at, um, h0, h1, h2, h4, e1]
    · rw [if_neg e1]
      refine rc_S (i := i) hC hW (by omega) (fun a b ha => by simp [up2_at, ha]) (fun a b hab => by unfold um; rw [if_neg (by omega)]) ?_
      unfold RcS lieI
      unfold lieI at h3
      rw [if_neg e0] at h3
      have e2 : ¬ m 43 i - 1 = 0 := by omega
      simp [up2_at, um, h0, h1, h2, h3, h4, e2]
theorem rc_tim {m : wM} {f : wF} {r : Nat} (hW : Wv m) (hC : Rc m f) (hr : r < m 39 7) : Rc (timM m r) (up2 (up2 f (15 + 3 * r) 6 (nI 3)) (15 + 3 * r) 7 (f (15 + 3 * r) 5)) := by
  refine rc_R (r := r) hC hW (fun a b h1 h2 h3 => by simp [up2_at, h1]) (fun a b h => by unfold timM; rw [if_neg (by omega), if_neg (by omega)]) (fun a q h h1 h2 => by unfold timM; rw [if_neg (by omega), if_neg (by omega)]) (fun a u h h1 h2 => by unfold timM; rw [if_neg (by omega), if_neg (by omega)]) (fun _ => ?_)
  obtain ⟨h1, h2, h3, h4, h5, h6, h7, h8, h9, h10⟩ := hC.2.2.2 r hr
  refine ⟨?_, ?_, ?_, ?_, ?_, ?_, ?_, ?_, ?_, fun k9 hk9 => ?_⟩
  · simp [up2_at, timM, h1]
  · simp [up2_at, timM, h2]
  · simp [up2_at, timM, h3]
  · simp [up2_at, timM, h4]
  · simp [up2_at, timM]
  · simp [up2_at, timM, h4]
  · simp [up2_at, timM, h7]
  · rw [hld_c (m := m) (by simp [timM]) (fun k _ => by simp [timM])]
    simp [up2_at, h8]
  · rw [ovr_c (m := m) (by simp [timM]) (fun k _ => by simp [timM]) (fun k _ => by simp [timM])]
    simp [up2_at, h9]
  · have h11 := h10 k9 (by simpa [timM] using hk9)
    simp [up2_at, timM, h11]
theorem rc_occ {m : wM} {f : wF} {i v : Nat} (hW : Wv m) (hC : Rc m f) (hi : i < m 39 1) : Rc (um m 41 i v) (up2 f (2 + i) 1 (nI v)) := by
  have h12 := hW.S
  obtain ⟨h0, h1, h2, h3, h4, h5⟩ := hC.2.2.1 i hi
  refine rc_S (i := i) hC hW (by omega) (fun a b ha => by simp [up2_at, ha]) (fun a b hab => by unfold um; rw [if_neg (by omega)]) ?_
  unfold RcS lieI
  unfold lieI at h3
  simp [up2_at, um, h0, h2, h3, h4, h5]
theorem rc_brk {m : wM} {f : wF} {i v : Nat} (hW : Wv m) (hC : Rc m f) (hi : i < m 39 1) : Rc (um m 44 i v) (up2 f (2 + i) 2 (nI v)) := by
  have h12 := hW.S
  obtain ⟨h0, h1, h2, h3, h4, h5⟩ := hC.2.2.1 i hi
  refine rc_S (i := i) hC hW (by omega) (fun a b ha => by simp [up2_at, ha]) (fun a b hab => by unfold um; rw [if_neg (by omega)]) ?_
  unfold RcS lieI
  unfold lieI at h3
  simp [up2_at, um, h0, h1, h3, h4, h5]
