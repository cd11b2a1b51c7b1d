/-! the pure picture: the numbers of the reference by cell and place: 39 1 sections, 39 7 routes, 40 points, 41 occupied, 42 wanted, 43 ticks, 44 broken, 45 signals, 46 approaches + 1, 47 delays, 48 states, 49 timers, 50 near, 51 many, 52 where, 53 how, 54 held, 55 over -/
abbrev wM : Type := Nat → Nat → Nat
def um (m : wM) (a b v : Nat) : wM := fun x y => if x = a ∧ y = b then v else m x y
def psn (h : Nat) : Nat := if h = 1 ∨ h = 3 then 0 else 1
theorem psn_le (h : Nat) : psn h ≤ 1 := by
  unfold psn
  split <;> omega
/-- a use lies right for its signal -/
abbrev rgt (m : wM) (u : Nat) : Prop := ¬ (m 53 u < 3 ∧ m 41 (m 52 u) = 1) ∧ (m 53 u = 0 ∨ (m 42 (m 52 u) = psn (m 53 u) ∧ m 43 (m 52 u) = 0 ∧ m 44 (m 52 u) = 0))
abbrev safe (m : wM) (r : Nat) : Prop := m 48 r = 1 ∧ ∀ k, k < m 51 r → rgt m (6 * r + k)
abbrev nrA (m : wM) (r : Nat) : Prop := m 46 r = 0 ∨ m 41 (m 46 r - 1) = 1
def lookN (m : wM) (R : Nat) : wM := fun a b => if a = 50 ∧ b < R ∧ safe m b ∧ nrA m b then 1 else m a b
def look (m : wM) : wM := lookN m (m 39 7)
def rel (m : wM) (r : Nat) : wM := fun a b => if (48 ≤ a ∧ a ≤ 50 ∧ b = r) ∨ ((a = 54 ∨ a = 55) ∧ 6 * r ≤ b ∧ b < 6 * r + 6) then 0 else m a b
def wnt (m : wM) (s p : Nat) : wM := fun a b => if m 42 s = p then m a b else if a = 42 ∧ b = s then p else if a = 43 ∧ b = s then 3 else m a b
def wnU (m : wM) (u : Nat) : wM := if m 53 u = 0 then m else wnt m (m 52 u) (psn (m 53 u))
def wnN (m : wM) (r : Nat) : Nat → wM
  | 0 => m
  | k + 1 => wnU (wnN m r k) (6 * r + k)
def stN (m : wM) (r K : Nat) : wM := fun a b => if a = 48 ∧ b = r then 1 else if a = 54 ∧ 6 * r ≤ b ∧ b < 6 * r + K then 1 else if a = 55 ∧ 6 * r ≤ b ∧ b < 6 * r + K then 0 else wnN m r K a b
abbrev hitU (m : wM) (s u : Nat) : Prop := u % 6 < m 51 (u / 6) ∧ m 54 u = 1 ∧ m 53 u < 3 ∧ m 52 u = s
abbrev hitR (m : wM) (s U b : Nat) : Prop := ¬ ∀ v, v < U → ¬ (v / 6 = b ∧ hitU m s v)
def occU (m : wM) (s U : Nat) : wM := fun a b => if a = 41 ∧ b = s then 1 else if a = 48 ∧ hitR m s U b then 2 else if a = 49 ∧ hitR m s U b then 0 else if a = 55 ∧ b < U ∧ hitU m s b then 1 else m a b
abbrev goU (m : wM) (u : Nat) : Prop := m 53 u < 3 → m 54 u = 1 → m 55 u = 1 ∧ m 41 (m 52 u) = 0
def lvN (m : wM) (r K : Nat) : wM := fun a b => if a = 54 ∧ 6 * r ≤ b ∧ b < 6 * r + K ∧ m 53 b < 3 ∧ ∀ k, k < b + 1 - 6 * r → goU m (6 * r + k) then 0 else m a b
def lvR (m : wM) (r : Nat) : wM := if ∀ k, k < m 51 r → goU m (6 * r + k) then rel m r else lvN m r (m 51 r)
def lvA (m : wM) : Nat → wM
  | 0 => m
  | r + 1 => if lvA m r 48 r = 2 then lvR (lvA m r) r else lvA m r
def tkN (m : wM) (S : Nat) : wM := fun a b => if a = 43 ∧ b < S then m 43 b - 1 else m a b
def cdR (m : wM) (r : Nat) : wM := if m 48 r = 3 then (if m 49 r = 1 then rel m r else um m 49 r (m 49 r - 1)) else m
def cdN (m : wM) : Nat → wM
  | 0 => m
  | r + 1 => cdR (cdN m r) r
def tk1 (m : wM) : wM := cdN (tkN m (m 39 1)) (m 39 7)
def tks (m : wM) : Nat → wM
  | 0 => m
  | k + 1 => tk1 (tks m k)
def secM (m : wM) (p : Nat) : wM := fun a b => if a = 39 ∧ b = 1 then m 39 1 + 1 else if a = 40 ∧ b = m 39 1 then p else if 41 ≤ a ∧ a ≤ 44 ∧ b = m 39 1 then 0 else m a b
def rteM (m : wM) (sg ap dl : Nat) : wM := fun a b => if a = 39 ∧ b = 7 then m 39 7 + 1 else if a = 45 ∧ b = m 39 7 then sg else if a = 46 ∧ b = m 39 7 then ap else if a = 47 ∧ b = m 39 7 then dl else if a = 51 ∧ b = m 39 7 then 0 else rel m (m 39 7) a b
def useM (m : wM) (r s h : Nat) : wM := fun a b => if a = 51 ∧ b = r then m 51 r + 1 else if a = 52 ∧ b = 6 * r + m 51 r then s else if a = 53 ∧ b = 6 * r + m 51 r then h else if (a = 54 ∨ a = 55) ∧ b = 6 * r + m 51 r then 0 else m a b
def clrM (m : wM) : wM := fun a b => if a = 39 ∧ (b = 1 ∨ b = 7) then 0 else m a b
def timM (m : wM) (r : Nat) : wM := fun a b => if a = 48 ∧ b = r then 3 else if a = 49 ∧ b = r then m 47 r else m a b
-- the invariant
def ivA (m : wM) : Prop := m 39 1 ≤ 12 ∧ m 39 7 ≤ 8 ∧ (∀ a b, m a b < 64) ∧ (∀ b, m 40 b ≤ 1) ∧ (∀ b, m 41 b ≤ 1) ∧ (∀ b, m 42 b ≤ 1) ∧ (∀ b, m 43 b ≤ 3) ∧ (∀ b, m 44 b ≤ 1) ∧ (∀ b, m 50 b ≤ 1) ∧ (∀ b, m 54 b ≤ 1) ∧ (∀ b, m 55 b ≤ 1)
def ivS (m : wM) : Prop := ∀ i, i < m 39 1 → m 40 i = 0 → m 42 i = 0 ∧ m 43 i = 0
def ivR (m : wM) : Prop := ∀ r, r < m 39 7 → m 45 r ≤ 5 ∧ m 46 r ≤ m 39 1 ∧ 1 ≤ m 47 r ∧ m 47 r ≤ 9 ∧ m 48 r ≤ 3 ∧ m 49 r ≤ 9 ∧ m 51 r ≤ 6 ∧ (m 48 r = 3 → 1 ≤ m 49 r)
def ivU (m : wM) : Prop := ∀ r k, r < m 39 7 → k < m 51 r → m 52 (6 * r + k) < m 39 1 ∧ m 53 (6 * r + k) ≤ 4 ∧ (m 53 (6 * r + k) = 0 ↔ m 40 (m 52 (6 * r + k)) = 0) ∧ (m 48 r = 0 → m 54 (6 * r + k) = 0) ∧ (m 48 r = 1 → m 54 (6 * r + k) = 1) ∧ (m 48 r = 1 → m 53 (6 * r + k) < 3 → m 41 (m 52 (6 * r + k)) = 0)
def ivD (m : wM) : Prop := ∀ r k j, r < m 39 7 → k < m 51 r → j < m 51 r → m 52 (6 * r + k) = m 52 (6 * r + j) → k = j
def ivG (m : wM) : Prop := ∀ r q, r < m 39 7 → q < m 39 7 → m 48 r = 1 → m 48 q = 1 → m 45 r = m 45 q → r = q
def ivP (m : wM) : Prop := ∀ r q k j, r < m 39 7 → q < m 39 7 → k < m 51 r → j < m 51 q → m 54 (6 * r + k) = 1 → m 54 (6 * q + j) = 1 → m 53 (6 * r + k) < 3 → m 53 (6 * q + j) < 3 → m 52 (6 * r + k) = m 52 (6 * q + j) → r = q
def ivL (m : wM) : Prop := ∀ r, r < m 39 7 → safe m r → nrA m r → m 50 r = 1
def Jv (m : wM) : Prop := ivA m ∧ ivS m ∧ ivR m ∧ ivU m ∧ ivD m ∧ ivG m ∧ ivP m
def Iv (m : wM) : Prop := Jv m ∧ ivL m
theorem Jv.A {m : wM} (h : Jv m) : ivA m := h.1
theorem Jv.S {m : wM} (h : Jv m) : ivS m := h.2.1
theorem Jv.R {m : wM} (h : Jv m) : ivR m := h.2.2.1
theorem Jv.U {m : wM} (h : Jv m) : ivU m := h.2.2.2.1
theorem Jv.D {m : wM} (h : Jv m) : ivD m := h.2.2.2.2.1
theorem Jv.G {m : wM} (h : Jv m) : ivG m := h.2.2.2.2.2.1
theorem Jv.P {m : wM} (h : Jv m) : ivP m := h.2.2.2.2.2.2
-- looking
theorem look_o {m : wM} {a b : Nat} (h : a ≠ 50) : look m a b = m a b := if_neg (fun h2 => h h2.1)
theorem lookN_o {m : wM} {R a b : Nat} (h : a ≠ 50) : lookN m R a b = m a b := if_neg (fun h2 => h h2.1)
theorem look_id {m : wM} (h : ivL m) : look m = m := by
  funext a b
  unfold look lookN
  split
  · rename_i h2
    obtain ⟨rfl, h3, h4, h5⟩ := h2
    exact (h b h3 h4 h5).symm
  · rfl
theorem lookN_0 {m : wM} : lookN m 0 = m := by
  funext a b
  unfold lookN
  rw [if_neg (fun h => absurd h.2.1 (Nat.not_lt_zero _))]
theorem lookN_s {m : wM} {R : Nat} : lookN m (R + 1) = if safe m R ∧ nrA m R then um (lookN m R) 50 R 1 else lookN m R := by
  funext a b
  by_cases h : safe m R ∧ nrA m R
  · rw [if_pos h]
    unfold um lookN
    by_cases h1 : a = 50 ∧ b = R
    · obtain ⟨rfl, rfl⟩ := h1
      rw [if_pos ⟨rfl, Nat.lt_succ_self _, h⟩, if_pos ⟨rfl, rfl⟩]
    · rw [if_neg h1]
      by_cases h2 : a = 50 ∧ b < R ∧ safe m b ∧ nrA m b
      · rw [if_pos h2, if_pos ⟨h2.1, Nat.lt_succ_of_lt h2.2.1, h2.2.2⟩]
      · rw [if_neg h2, if_neg (fun h3 => h2 ⟨h3.1, by have := h3.2.1; have h4 : ¬ b = R := fun h5 => h1 ⟨h3.1, h5⟩; omega, h3.2.2⟩)]
  · rw [if_neg h]
    unfold lookN
    by_cases h2 : a = 50 ∧ b < R ∧ safe m b ∧ nrA m b
    · rw [if_pos h2, if_pos ⟨h2.1, Nat.lt_succ_of_lt h2.2.1, h2.2.2⟩]
    · rw [if_neg h2, if_neg (fun h3 => h2 ⟨h3.1, by have := h3.2.1; have h4 : ¬ b = R := fun h5 => h (h5 ▸ h3.2.2); omega, h3.2.2⟩)]
theorem jv_50 {m m' : wM} (e : ∀ a b, a ≠ 50 → m' a b = m a b) (h5 : ∀ b, m' 50 b ≤ 1) (h : Jv m) : Jv m' := by
  have e39 : ∀ b, m' 39 b = m 39 b := fun b => e 39 b (by decide)
  have e40 : ∀ b, m' 40 b = m 40 b := fun b => e 40 b (by decide)
  have e41 : ∀ b, m' 41 b = m 41 b := fun b => e 41 b (by decide)
  have e42 : ∀ b, m' 42 b = m 42 b := fun b => e 42 b (by decide)
  have e43 : ∀ b, m' 43 b = m 43 b := fun b => e 43 b (by decide)
  have e44 : ∀ b, m' 44 b = m 44 b := fun b => e 44 b (by decide)
  have e45 : ∀ b, m' 45 b = m 45 b := fun b => e 45 b (by decide)
  have e46 : ∀ b, m' 46 b = m 46 b := fun b => e 46 b (by decide)
  have e47 : ∀ b, m' 47 b = m 47 b := fun b => e 47 b (by decide)
  have e48 : ∀ b, m' 48 b = m 48 b := fun b => e 48 b (by decide)
  have e49 : ∀ b, m' 49 b = m 49 b := fun b => e 49 b (by decide)
  have e51 : ∀ b, m' 51 b = m 51 b := fun b => e 51 b (by decide)
  have e52 : ∀ b, m' 52 b = m 52 b := fun b => e 52 b (by decide)
  have e53 : ∀ b, m' 53 b = m 53 b := fun b => e 53 b (by decide)
  have e54 : ∀ b, m' 54 b = m 54 b := fun b => e 54 b (by decide)
  have e55 : ∀ b, m' 55 b = m 55 b := fun b => e 55 b (by decide)
  obtain ⟨hA, hS, hR, hU, hD, hG, hP⟩ := h
  unfold ivA at hA
  unfold ivS at hS
  unfold ivR at hR
  unfold ivU at hU
  unfold ivD at hD
  unfold ivG at hG
  unfold ivP at hP
  unfold Jv ivA ivS ivR ivU ivD ivG ivP
  simp only [e39, e40, e41, e42, e43, e44, e45, e46, e47, e48, e49, e51, e52, e53, e54, e55]
  obtain ⟨a1, a2, a3, a4, a5, a6, a7, a8, a9, a10, a11⟩ := hA
  refine ⟨⟨a1, a2, fun a b => ?_, a4, a5, a6, a7, a8, h5, a10, a11⟩, hS, hR, hU, hD, hG, hP⟩
  by_cases h : a = 50
  · subst h
    have := h5 b
    omega
  · rw [e a b h]
    exact a3 a b
theorem iv_look {m : wM} (h : Jv m) : Iv (look m) := by
  refine ⟨jv_50 (fun a b h9 => look_o h9) (fun b => ?_) h, ?_⟩
  · unfold look lookN
    split
    · exact Nat.le_refl _
    · exact h.A.2.2.2.2.2.2.2.2.1 b
  · intro r hr hs hn
    have e : ∀ a b, a ≠ 50 → look m a b = m a b := fun a b h9 => look_o h9
    simp only [safe, rgt, nrA, e 48 _ (by decide), e 51 _ (by decide), e 53 _ (by decide), e 41 _ (by decide), e 52 _ (by decide), e 42 _ (by decide), e 43 _ (by decide), e 44 _ (by decide), e 46 _ (by decide), e 39 _ (by decide)] at hr hs hn
    unfold look lookN
    exact if_pos ⟨rfl, hr, hs, hn⟩
