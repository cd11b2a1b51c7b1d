/-! sums of powers of two, and how the two programs' cells show the picture -/
def bts (h : Nat → Nat) : Nat → Nat
  | 0 => 0
  | k + 1 => bts h k + h k * 2 ^ k
theorem bts_s (h : Nat → Nat) (k : Nat) : bts h (k + 1) = bts h k + h k * 2 ^ k := rfl
theorem bts_lt {h : Nat → Nat} (hh : ∀ k, h k ≤ 1) : ∀ K, bts h K < 2 ^ K := by
  intro K
  induction K with
  | zero => exact Nat.one_pos
  | succ K ih =>
    rw [bts_s, Nat.pow_succ]
    have h2 := hh K
    have h3 : h K * 2 ^ K ≤ 1 * 2 ^ K := Nat.mul_le_mul_right _ h2
    omega
theorem bts_64 {h : Nat → Nat} (hh : ∀ k, h k ≤ 1) {K : Nat} (hK : K ≤ 6) : bts h K < 64 := Nat.lt_of_lt_of_le (bts_lt hh K) (Nat.pow_le_pow_right (by decide) hK)
theorem bts_bit {h : Nat → Nat} (hh : ∀ k, h k ≤ 1) : ∀ K k, k < K → bts h K / 2 ^ k % 2 = h k := by
  intro K
  induction K with
  | zero => intro k hk; omega
  | succ K ih =>
    intro k hk
    have h1 := bts_lt hh K
    have h2 := hh K
    rw [bts_s]
    by_cases e : k = K
    · subst e
      rw [Nat.add_mul_div_right _ _ (Nat.two_pow_pos k), Nat.div_eq_of_lt h1, Nat.zero_add, Nat.mod_eq_of_lt (by omega)]
    · obtain ⟨d, rfl⟩ : ∃ d, K = k + 1 + d := ⟨K - k - 1, by omega⟩
      have h3 : h (k + 1 + d) * 2 ^ (k + 1 + d) = (h (k + 1 + d) * 2 ^ d * 2) * 2 ^ k := by
        rw [Nat.pow_add, Nat.pow_add]
        simp [Nat.mul_assoc, Nat.mul_comm, Nat.mul_left_comm]
      rw [h3, Nat.add_mul_div_right _ _ (Nat.two_pow_pos k), Nat.add_mul_mod_self_right]
      exact ih k (by omega)
theorem bts_c {h h' : Nat → Nat} : ∀ {K : Nat}, (∀ k, k < K → h k = h' k) → bts h K = bts h' K := by
  intro K
  induction K with
  | zero => intro _; rfl
  | succ K ih =>
    intro e
    rw [bts_s, bts_s, ih (fun k hk => e k (by omega)), e K (by omega)]
theorem bts_0 : ∀ K, bts (fun _ => 0) K = 0 := by
  intro K
  induction K with
  | zero => rfl
  | succ K ih => rw [bts_s, ih]; simp
theorem bts_up {h : Nat → Nat} {k v : Nat} : ∀ {K : Nat}, k < K → bts (fun j => if j = k then v else h j) K + h k * 2 ^ k = bts h K + v * 2 ^ k := by
  intro K
  induction K with
  | zero => intro hk; omega
  | succ K ih =>
    intro hk
    rw [bts_s, bts_s]
    by_cases e : k = K
    · subst e
      rw [if_pos rfl, bts_c (h' := h) (fun j hj => if_neg (by omega))]
      omega
    · rw [if_neg (fun h9 => e h9.symm)]
      have := ih (by omega)
      omega
theorem i_bit : ∀ X, X < 64 → ∀ k, k < 6 → ((nI X &&& (nI 1 <<< (nI k &&& 31)) = 0) ↔ X / 2 ^ k % 2 = 0) := by decide +kernel
theorem i_all : ∀ c, c < 7 → (nI 1 <<< (nI c &&& 31)) - nI 1 = nI (bts (fun _ => 1) c) := by decide +kernel
theorem i_clr : ∀ X, X < 64 → ∀ k, k < 6 → nI X &&& ((nI 1 <<< (nI k &&& 31)) ^^^ (-1)) = nI (X - X / 2 ^ k % 2 * 2 ^ k) := by decide +kernel
theorem i_set : ∀ X, X < 64 → ∀ k, k < 6 → nI X ||| (nI 1 <<< (nI k &&& 31)) = nI (X + (1 - X / 2 ^ k % 2) * 2 ^ k) := by decide +kernel
theorem i_set8 : ∀ k, k < 8 → ∀ X, X < 2 ^ k → nI X ||| (nI 1 <<< (nI k &&& 31)) = nI (X + 2 ^ k) := by decide +kernel
def apI (a : Nat) : Int32 := if a = 0 then -1 else nI (a - 1)
def lieI (m : wM) (i : Nat) : Int32 := if m 43 i = 0 then nI (m 42 i) else -1
def hld (m : wM) (r : Nat) : Nat := bts (fun k => m 54 (6 * r + k)) (m 51 r)
def ovr (m : wM) (r : Nat) : Nat := bts (fun k => m 54 (6 * r + k) * m 55 (6 * r + k)) (m 51 r)
def RcS (m : wM) (f : wF) (i : Nat) : Prop := f (2 + i) 0 = nI (m 40 i) ∧ f (2 + i) 1 = nI (m 41 i) ∧ f (2 + i) 2 = nI (m 44 i) ∧ f (2 + i) 3 = lieI m i ∧ f (2 + i) 4 = nI (m 42 i) ∧ f (2 + i) 5 = nI (m 43 i)
def RcR (m : wM) (f : wF) (r : Nat) : Prop := f (15 + 3 * r) 2 = nI (m 51 r) ∧ f (15 + 3 * r) 3 = nI (m 45 r) ∧ f (15 + 3 * r) 4 = apI (m 46 r) ∧ f (15 + 3 * r) 5 = nI (m 47 r) ∧ f (15 + 3 * r) 6 = nI (m 48 r) ∧ f (15 + 3 * r) 7 = nI (m 49 r) ∧ f (15 + 3 * r) 8 = nI (m 50 r) ∧ f (15 + 3 * r) 9 = nI (hld m r) ∧ f (15 + 3 * r) 10 = nI (ovr m r) ∧ ∀ k, k < m 51 r → f (16 + 3 * r) k = nI (m 52 (6 * r + k)) ∧ f (17 + 3 * r) k = nI (m 53 (6 * r + k))
def Rc (m : wM) (f : wF) : Prop := f 0 2 = nI (m 39 1) ∧ f 0 3 = nI (m 39 7) ∧ (∀ i, i < m 39 1 → RcS m f i) ∧ ∀ r, r < m 39 7 → RcR m f r
def Rm (m : wM) (f : wF) : Prop := f 39 1 = nI (m 39 1) ∧ f 39 7 = nI (m 39 7) ∧ (∀ b, f 46 b = apI (m 46 b)) ∧ ∀ a b, 40 ≤ a ∧ a ≤ 55 ∧ a ≠ 46 → f a b = nI (m a b)
theorem rm {m : wM} {f : wF} (h : Rm m f) {a b : Nat} (ha : 40 ≤ a ∧ a ≤ 55 ∧ a ≠ 46) : f a b = nI (m a b) := h.2.2.2 a b ha
/-- what the walks need of the picture: bounds -/
def Wv (m : wM) : Prop := m 39 1 ≤ 12 ∧ m 39 7 ≤ 8 ∧ (∀ a b, m a b < 64) ∧ (∀ b, m 40 b ≤ 1 ∧ m 41 b ≤ 1 ∧ m 44 b ≤ 1 ∧ m 50 b ≤ 1 ∧ m 54 b ≤ 1 ∧ m 55 b ≤ 1) ∧ (∀ r, r < m 39 7 → m 46 r ≤ m 39 1 ∧ m 51 r ≤ 6) ∧ (∀ r k, r < m 39 7 → k < m 51 r → m 52 (6 * r + k) < m 39 1 ∧ m 53 (6 * r + k) ≤ 4) ∧ ivD m
theorem Jv.W {m : wM} (h : Jv m) : Wv m := by
  obtain ⟨⟨a1, a2, a3, a4, a5, a6, a7, a8, a9, a10, a11⟩, hS, hR, hU, hD, hG, hP⟩ := h
  exact ⟨a1, a2, a3, fun b => ⟨a4 b, a5 b, a8 b, a9 b, a10 b, a11 b⟩, fun r hr => ⟨(hR r hr).2.1, (hR r hr).2.2.2.2.2.2.1⟩, fun r k hr hk => ⟨(hU r k hr hk).1, (hU r k hr hk).2.1⟩, hD⟩
theorem lt64 {a : Nat} (h : a < 64) : a < 2 ^ 31 := Nat.lt_of_lt_of_le h (by decide)
theorem lp_ind {N : Nat} {P : Nat → Prop} (h : ∀ k, k ≤ N → (k < N → P (k + 1)) → P k) : ∀ k, k ≤ N → P k := by
  have aux : ∀ d k, k ≤ N → N - k = d → P k := by
    intro d
    induction d with
    | zero => exact fun k hk e => h k hk (fun h2 => by omega)
    | succ d ih => exact fun k hk e => h k hk (fun h2 => ih (k + 1) (by omega) (by omega))
  exact fun k hk => aux _ k hk rfl
theorem up2_eq {f : wF} {k i : Nat} {v : Int32} : up2 f k i v k i = v := by
  rw [up2_at, if_pos ⟨rfl, rfl⟩]
theorem up2_ne {f : wF} {k i a b : Nat} {v : Int32} (h : a = k → b ≠ i) : up2 f k i v a b = f a b := by
  rw [up2_at, if_neg (fun h2 => h h2.1 h2.2)]
section Acc9
variable {m : wM} {f : wF} {i r k : Nat}
theorem cF2 (h : Rc m f) : f 0 2 = nI (m 39 1) := h.1
theorem cF3 (h : Rc m f) : f 0 3 = nI (m 39 7) := h.2.1
theorem cS0 (h : Rc m f) (hi : i < m 39 1) : f (2 + i) 0 = nI (m 40 i) := (h.2.2.1 i hi).1
theorem cS1 (h : Rc m f) (hi : i < m 39 1) : f (2 + i) 1 = nI (m 41 i) := (h.2.2.1 i hi).2.1
theorem cS2 (h : Rc m f) (hi : i < m 39 1) : f (2 + i) 2 = nI (m 44 i) := (h.2.2.1 i hi).2.2.1
theorem cS3 (h : Rc m f) (hi : i < m 39 1) : f (2 + i) 3 = lieI m i := (h.2.2.1 i hi).2.2.2.1
theorem cS4 (h : Rc m f) (hi : i < m 39 1) : f (2 + i) 4 = nI (m 42 i) := (h.2.2.1 i hi).2.2.2.2.1
theorem cS5 (h : Rc m f) (hi : i < m 39 1) : f (2 + i) 5 = nI (m 43 i) := (h.2.2.1 i hi).2.2.2.2.2
theorem cR2 (h : Rc m f) (hr : r < m 39 7) : f (15 + 3 * r) 2 = nI (m 51 r) := (h.2.2.2 r hr).1
theorem cR3 (h : Rc m f) (hr : r < m 39 7) : f (15 + 3 * r) 3 = nI (m 45 r) := (h.2.2.2 r hr).2.1
theorem cR4 (h : Rc m f) (hr : r < m 39 7) : f (15 + 3 * r) 4 = apI (m 46 r) := (h.2.2.2 r hr).2.2.1
theorem cR5 (h : Rc m f) (hr : r < m 39 7) : f (15 + 3 * r) 5 = nI (m 47 r) := (h.2.2.2 r hr).2.2.2.1
theorem cR6 (h : Rc m f) (hr : r < m 39 7) : f (15 + 3 * r) 6 = nI (m 48 r) := (h.2.2.2 r hr).2.2.2.2.1
theorem cR7 (h : Rc m f) (hr : r < m 39 7) : f (15 + 3 * r) 7 = nI (m 49 r) := (h.2.2.2 r hr).2.2.2.2.2.1
theorem cR8 (h : Rc m f) (hr : r < m 39 7) : f (15 + 3 * r) 8 = nI (m 50 r) := (h.2.2.2 r hr).2.2.2.2.2.2.1
theorem cR9 (h : Rc m f) (hr : r < m 39 7) : f (15 + 3 * r) 9 = nI (hld m r) := (h.2.2.2 r hr).2.2.2.2.2.2.2.1
theorem cR10 (h : Rc m f) (hr : r < m 39 7) : f (15 + 3 * r) 10 = nI (ovr m r) := (h.2.2.2 r hr).2.2.2.2.2.2.2.2.1
theorem cU (h : Rc m f) (hr : r < m 39 7) (hk : k < m 51 r) : f (16 + 3 * r) k = nI (m 52 (6 * r + k)) := ((h.2.2.2 r hr).2.2.2.2.2.2.2.2.2 k hk).1
theorem cV (h : Rc m f) (hr : r < m 39 7) (hk : k < m 51 r) : f (17 + 3 * r) k = nI (m 53 (6 * r + k)) := ((h.2.2.2 r hr).2.2.2.2.2.2.2.2.2 k hk).2
theorem Wv.S (h : Wv m) : m 39 1 ≤ 12 := h.1
theorem Wv.R (h : Wv m) : m 39 7 ≤ 8 := h.2.1
theorem Wv.b (h : Wv m) : ∀ a b, m a b < 64 := h.2.2.1
theorem Wv.N (h : Wv m) (hr : r < m 39 7) : m 51 r ≤ 6 := (h.2.2.2.2.1 r hr).2
theorem Wv.P (h : Wv m) (hr : r < m 39 7) : m 46 r ≤ m 39 1 := (h.2.2.2.2.1 r hr).1
theorem Wv.w (h : Wv m) (hr : r < m 39 7) (hk : k < m 51 r) : m 52 (6 * r + k) < m 39 1 := (h.2.2.2.2.2.1 r k hr hk).1
theorem Wv.h (h : Wv m) (hr : r < m 39 7) (hk : k < m 51 r) : m 53 (6 * r + k) ≤ 4 := (h.2.2.2.2.2.1 r k hr hk).2
theorem Wv.D (h : Wv m) : ivD m := h.2.2.2.2.2.2
theorem Wv.o (h : Wv m) (b : Nat) : m 40 b ≤ 1 ∧ m 41 b ≤ 1 ∧ m 44 b ≤ 1 ∧ m 50 b ≤ 1 ∧ m 54 b ≤ 1 ∧ m 55 b ≤ 1 := h.2.2.2.1 b
theorem Wv.hb (h : Wv m) (hr : r < m 39 7) : hld m r < 64 := bts_64 (fun k => (h.o _).2.2.2.2.1) (h.N hr)
theorem m01 {a b : Nat} (ha : a ≤ 1) (hb : b ≤ 1) : a * b ≤ 1 := Nat.mul_le_mul ha hb
theorem Wv.vb (h : Wv m) (hr : r < m 39 7) : ovr m r < 64 := bts_64 (fun k => m01 (h.o _).2.2.2.2.1 (h.o _).2.2.2.2.2) (h.N hr)
theorem Wv.hk (h : Wv m) (hk : k < m 51 r) : hld m r / 2 ^ k % 2 = m 54 (6 * r + k) := bts_bit (fun k => (h.o _).2.2.2.2.1) _ _ hk
theorem Wv.vk (h : Wv m) (hk : k < m 51 r) : ovr m r / 2 ^ k % 2 = m 54 (6 * r + k) * m 55 (6 * r + k) := bts_bit (fun k => m01 (h.o _).2.2.2.2.1 (h.o _).2.2.2.2.2) _ _ hk
end Acc9
def posI (h : Nat) : Int32 := if h = 0 then -1 else nI (psn h)
theorem i_psn : ∀ h, h < 5 → h ≠ 0 → (nI h - nI 1) &&& nI 1 = nI (psn h) := by decide +kernel
theorem posI_eq : ∀ a, a < 5 → ∀ b, b < 5 → (a = 0 ↔ b = 0) → (posI a = posI b ↔ (a = 0 ∨ psn a = psn b)) := by decide +kernel
abbrev b01 (P : Prop) (d : Decidable P) : Nat := if P then 1 else 0
/-! what the program's questions mean in the picture -/
abbrev noS (m : wM) (x : Int32) : Prop := x < 0 ∨ nI (m 39 1) ≤ x
abbrev noR (m : wM) (x : Int32) : Prop := x < 0 ∨ nI (m 39 7) ≤ x
abbrev clrP (m : wM) (r : Nat) : Prop := ∀ k, k < m 51 r → ¬ (m 53 (6 * r + k) < 3 ∧ m 41 (m 52 (6 * r + k)) ≠ 0)
abbrev fndP (m : wM) (r : Nat) : Prop := ∀ k, k < m 51 r → m 40 (m 52 (6 * r + k)) ≠ 0 → lieI m (m 52 (6 * r + k)) = posI (m 53 (6 * r + k)) ∧ m 44 (m 52 (6 * r + k)) = 0
abbrev mayP (m : wM) (r : Nat) : Prop := ∀ k, k < m 51 r → m 40 (m 52 (6 * r + k)) ≠ 0 → m 41 (m 52 (6 * r + k)) ≠ 0 → nI (m 42 (m 52 (6 * r + k))) = posI (m 53 (6 * r + k))
abbrev offP (m : wM) (s : Nat) : Prop := ¬ ∀ r, r < m 39 7 → ¬ (m 45 r = s ∧ m 48 r = 1 ∧ clrP m r ∧ fndP m r)
abbrev badU (a b : Nat) : Prop := (a < 3 ∧ b < 3) ∨ posI a ≠ posI b
abbrev disP (m : wM) (X r q : Nat) : Prop := ¬ ∀ k, k < m 51 r → X / 2 ^ k % 2 ≠ 0 → ∀ j, j < m 51 q → m 52 (6 * r + k) = m 52 (6 * q + j) → ¬ badU (m 53 (6 * r + k)) (m 53 (6 * q + j))
theorem nI_m1 {a : Nat} (h : a < 2 ^ 31) : nI a ≠ -1 := by
  intro h2
  have h3 := nI_pos h
  rw [h2] at h3
  exact h3 (by decide)
theorem ix_of {x : Int32} {N : Nat} (hN : N < 64) (h : ¬ (x < 0 ∨ nI N ≤ x)) : ∃ i, i < N ∧ x = nI i := by
  obtain ⟨j, hj, rfl⟩ := nI_of (fun h9 => h (Or.inl h9))
  refine ⟨j, ?_, rfl⟩
  refine Nat.lt_of_not_le (fun h9 => h (Or.inr ?_))
  exact nI_le h9 hj
theorem no_ix {N i : Nat} (hi : i < N) (hN : N < 64) : ¬ (nI i < 0 ∨ nI N ≤ nI i) := by
  rintro (h | h)
  · exact nI_pos (by omega) h
  · exact nI_ge hi (by omega) h
/-! the reference's cells under writing -/
/-- all but the reference's numbers is as before (39 0, the code, counts as before too) -/
def fr9 (f f' : wF) : Prop := ∀ a b, a < 39 ∨ 55 < a ∨ (a = 39 ∧ b = 0) → f' a b = f a b
theorem fr9.rf {f : wF} : fr9 f f := fun _ _ _ => rfl
theorem fr9.tr {f f1 f2 : wF} (h : fr9 f f1) (h2 : fr9 f1 f2) : fr9 f f2 := fun a b h9 => (h2 a b h9).trans (h a b h9)
theorem fr9.up {f f1 : wF} {a b : Nat} {v : Int32} (h : fr9 f f1) (ha : 40 ≤ a ∧ a ≤ 55) : fr9 f (up2 f1 a b v) := by
  intro x y h9
  rw [up2_at, if_neg (by omega)]
  exact h x y h9
theorem fr9.up1 {f f1 : wF} {b : Nat} {v : Int32} (h : fr9 f f1) (hb : b ≠ 0) : fr9 f (up2 f1 39 b v) := by
  intro x y h9
  rw [up2_at, if_neg (by omega)]
  exact h x y h9
theorem rm_up {m : wM} {f : wF} {a b v : Nat} (h : Rm m f) (ha : 40 ≤ a ∧ a ≤ 55 ∧ a ≠ 46) : Rm (um m a b v) (up2 f a b (nI v)) := by
  obtain ⟨h1, h2, h3, h4⟩ := h
  refine ⟨?_, ?_, fun y => ?_, fun x y hx => ?_⟩
  · rw [up2_at, if_neg (by omega), h1]
    unfold um
    rw [if_neg (by omega)]
  · rw [up2_at, if_neg (by omega), h2]
    unfold um
    rw [if_neg (by omega)]
  · rw [up2_at, if_neg (by omega), h3]
    unfold um
    rw [if_neg (by omega)]
  · rw [up2_at]
    unfold um
    split
    · rfl
    · exact h4 x y hx
theorem rm_eq {m m' : wM} {f : wF} (h : Rm m f) (e : ∀ a b, 39 ≤ a → a ≤ 55 → m' a b = m a b) : Rm m' f := by
  obtain ⟨h1, h2, h3, h4⟩ := h
  refine ⟨?_, ?_, fun y => ?_, fun x y hx => ?_⟩
  · rw [h1, e 39 1 (by decide) (by decide)]
  · rw [h2, e 39 7 (by decide) (by decide)]
  · rw [h3, e 46 y (by decide) (by decide)]
  · rw [h4 x y hx, e x y (by omega) (by omega)]
/-! the cells of the program under writing -/
theorem hld_c {m m' : wM} {r : Nat} (h1 : m' 51 r = m 51 r) (h2 : ∀ k, k < m 51 r → m' 54 (6 * r + k) = m 54 (6 * r + k)) : hld m' r = hld m r := by
  unfold hld
  rw [h1]
  exact bts_c h2
theorem ovr_c {m m' : wM} {r : Nat} (h1 : m' 51 r = m 51 r) (h2 : ∀ k, k < m 51 r → m' 54 (6 * r + k) = m 54 (6 * r + k)) (h3 : ∀ k, k < m 51 r → m' 55 (6 * r + k) = m 55 (6 * r + k)) : ovr m' r = ovr m r := by
  unfold ovr
  rw [h1]
  exact bts_c (fun k hk => by rw [h2 k hk, h3 k hk])
theorem rcS_c {m m' : wM} {f f' : wF} {i : Nat} (h : RcS m f i) (hf : ∀ b, f' (2 + i) b = f (2 + i) b) (hm : ∀ a, 40 ≤ a → a ≤ 44 → m' a i = m a i) : RcS m' f' i := by
  obtain ⟨h1, h2, h3, h4, h5, h6⟩ := h
  unfold RcS lieI at *
  rw [hf, hf, hf, hf, hf, hf, hm 40 (by decide) (by decide), hm 41 (by decide) (by decide), hm 42 (by decide) (by decide), hm 43 (by decide) (by decide), hm 44 (by decide) (by decide)]
  exact ⟨h1, h2, h3, h4, h5, h6⟩
theorem rcR_c {m m' : wM} {f f' : wF} {r : Nat} (h : RcR m f r) (h6 : m 51 r ≤ 6) (hf : ∀ a b, a = 15 + 3 * r ∨ a = 16 + 3 * r ∨ a = 17 + 3 * r → f' a b = f a b) (hm1 : ∀ a, 45 ≤ a → a ≤ 51 → m' a r = m a r) (hm2 : ∀ a k, 52 ≤ a → a ≤ 55 → k < 6 → m' a (6 * r + k) = m a (6 * r + k)) : RcR m' f' r := by
  obtain ⟨h1, h2, h3, h4, h5, h7, h8, h9, h10, h11⟩ := h
  have e51 : m' 51 r = m 51 r := hm1 51 (by decide) (by decide)
  have e54 : ∀ k, k < m 51 r → m' 54 (6 * r + k) = m 54 (6 * r + k) := fun k hk => hm2 54 k (by decide) (by decide) (by omega)
  have e55 : ∀ k, k < m 51 r → m' 55 (6 * r + k) = m 55 (6 * r + k) := fun k hk => hm2 55 k (by decide) (by decide) (by omega)
  have g : ∀ b, f' (15 + 3 * r) b = f (15 + 3 * r) b := fun b => hf _ b (Or.inl rfl)
  refine ⟨?_, ?_, ?_, ?_, ?_, ?_, ?_, ?_, ?_, fun k hk => ⟨?_, ?_⟩⟩
  · rw [g, h1, e51]
  · rw [g, h2, hm1 45 (by decide) (by decide)]
  · rw [g, h3, hm1 46 (by decide) (by decide)]
  · rw [g, h4, hm1 47 (by decide) (by decide)]
  · rw [g, h5, hm1 48 (by decide) (by decide)]
  · rw [g, h7, hm1 49 (by decide) (by decide)]
  · rw [g, h8, hm1 50 (by decide) (by decide)]
  · rw [g, h9, hld_c e51 e54]
  · rw [g, h10, ovr_c e51 e54 e55]
  · rw [e51] at hk
    rw [hf _ k (Or.inr (Or.inl rfl)), (h11 k hk).1, hm2 52 k (by decide) (by decide) (by omega)]
  · rw [e51] at hk
    rw [hf _ k (Or.inr (Or.inr rfl)), (h11 k hk).2, hm2 53 k (by decide) (by decide) (by omega)]
theorem rc_S {m m' : wM} {f f' : wF} {i : Nat} (h : Rc m f) (hW : Wv m) (hi : i < 12) (hf : ∀ a b, a ≠ 2 + i → f' a b = f a b) (hm : ∀ a b, ¬ (40 ≤ a ∧ a ≤ 44 ∧ b = i) → m' a b = m a b) (hS : RcS m' f' i) : Rc m' f' := by
  obtain ⟨h1, h2, h3, h4⟩ := h
  have e1 : m' 39 1 = m 39 1 := hm 39 1 (by omega)
  have e7 : m' 39 7 = m 39 7 := hm 39 7 (by omega)
  refine ⟨?_, ?_, fun j hj => ?_, fun r hr => ?_⟩
  · rw [hf 0 2 (by omega), h1, e1]
  · rw [hf 0 3 (by omega), h2, e7]
  · rw [e1] at hj
    by_cases e : j = i
    · rw [e]
      exact hS
    · exact rcS_c (h3 j hj) (fun b => hf _ b (by omega)) (fun a h9 h8 => hm a j (by omega))
  · rw [e7] at hr
    exact rcR_c (h4 r hr) (hW.N hr) (fun a b h9 => hf a b (by omega)) (fun a h9 h8 => hm a r (by omega)) (fun a k h9 h8 h7 => hm a _ (by omega))
theorem rc_R {m m' : wM} {f f' : wF} {r : Nat} (h : Rc m f) (hW : Wv m) (hf : ∀ a b, a ≠ 15 + 3 * r → a ≠ 16 + 3 * r → a ≠ 17 + 3 * r → f' a b = f a b) (hm0 : ∀ a b, a ≤ 44 → m' a b = m a b) (hm1 : ∀ a q, q ≠ r → 45 ≤ a → a ≤ 51 → m' a q = m a q) (hm2 : ∀ a u, 52 ≤ a → a ≤ 55 → (u < 6 * r ∨ 6 * r + 6 ≤ u) → m' a u = m a u) (hR : r < m 39 7 → RcR m' f' r) : Rc m' f' := by
  obtain ⟨h1, h2, h3, h4⟩ := h
  have e1 : m' 39 1 = m 39 1 := hm0 39 1 (by omega)
  have e7 : m' 39 7 = m 39 7 := hm0 39 7 (by omega)
  have h12 := hW.S
  refine ⟨?_, ?_, fun j hj => ?_, fun q hq => ?_⟩
  · rw [hf 0 2 (by omega) (by omega) (by omega), h1, e1]
  · rw [hf 0 3 (by omega) (by omega) (by omega), h2, e7]
  · rw [e1] at hj
    exact rcS_c (h3 j hj) (fun b => hf _ b (by omega) (by omega) (by omega)) (fun a h9 h8 => hm0 a j h8)
  · rw [e7] at hq
    by_cases e : q = r
    · rw [e]
      exact hR (by rw [← e]; exact hq)
    · exact rcR_c (h4 q hq) (hW.N hq) (fun a b h9 => hf a b (by omega) (by omega) (by omega)) (fun a h9 h8 => hm1 a q e h9 h8) (fun a k h9 h8 h7 => hm2 a _ h9 h8 (by omega))
