/-! the constructors -/
def fz : wF := fun _ _ => 0
theorem up_fz {k j : Nat} : up2 fz k j (nI 0) = fz := by
  funext a b
  rw [up2_at]
  split
  · rfl
  · rfl
/-- the references that stand: the frame's two rows, i sections, r routes, r2 rows of routes, the reference's rows ahead of field t -/
def gq (a i b r r2 t : Nat) : wG := fun k j => if k = 0 then (if j = 0 ∧ a = 1 then some 1 else if j = 1 ∧ b = 1 then some 14 else none) else if k = 1 then (if j < i then some (2 + j) else none) else if k = 14 then (if j < r then some (15 + 3 * j) else none) else if k = 39 then (if j < t ∧ rfld 3 j = true then some (mfc j) else none) else if 15 ≤ k ∧ k < 39 ∧ k % 3 = 0 ∧ j < 2 ∧ 2 * ((k - 15) / 3) + j < r2 then some (k + 1 + j) else none
theorem gq_n {a i b r r2 t n : Nat} (h0 : n ≠ 0) (h1 : n ≠ 1) (h14 : n ≠ 14) (h39 : n ≠ 39) (hr : ¬ (15 ≤ n ∧ n < 39 ∧ n % 3 = 0 ∧ 2 * ((n - 15) / 3) < r2)) : ∀ j, gq a i b r r2 t n j = none := by
  intro j
  unfold gq
  rw [if_neg h0, if_neg h1, if_neg h14, if_neg h39, if_neg (by omega)]
theorem gq_S {i : Nat} : upg (gq 1 i 0 0 0 0) 1 i (some (2 + i)) = gq 1 (i + 1) 0 0 0 0 := by
  funext k j
  unfold upg va_up gq
  by_cases h : k = 1
  · subst h
    by_cases h2 : j = i
    · simp [h2]
    · have e : (j < i + 1) ↔ (j < i) := by omega
      simp [h2, e]
  · simp [h]
theorem gq_R {r : Nat} : upg (gq 1 12 1 r (2 * r + 2) 0) 14 r (some (15 + 3 * r)) = gq 1 12 1 (r + 1) (2 * (r + 1)) 0 := by
  funext k j
  unfold upg va_up gq
  have e0 : 2 * (r + 1) = 2 * r + 2 := by omega
  rw [e0]
  by_cases h : k = 14
  · subst h
    by_cases h2 : j = r
    · simp [h2]
    · have e : (j < r + 1) ↔ (j < r) := by omega
      simp [h2, e]
  · simp [h]
theorem gq_U {r q : Nat} (hr : r < 8) (hq : q < 2) : upg (gq 1 12 1 r (2 * r + q) 0) (15 + 3 * r) q (some (15 + 3 * r + 1 + q)) = gq 1 12 1 r (2 * r + (q + 1)) 0 := by
  funext k j
  unfold upg va_up gq
  by_cases h : k = 15 + 3 * r
  · subst h
    have e1 : ∀ r2, (if 15 + 3 * r = 0 then (if j = 0 ∧ 1 = 1 then some 1 else if j = 1 ∧ 1 = 1 then some 14 else none) else if 15 + 3 * r = 1 then (if j < 12 then some (2 + j) else none) else if 15 + 3 * r = 14 then (if j < r then some (15 + 3 * j) else none) else if 15 + 3 * r = 39 then (if j < 0 ∧ rfld 3 j = true then some (mfc j) else none) else if 15 ≤ 15 + 3 * r ∧ 15 + 3 * r < 39 ∧ (15 + 3 * r) % 3 = 0 ∧ j < 2 ∧ 2 * ((15 + 3 * r - 15) / 3) + j < r2 then some (15 + 3 * r + 1 + j) else none) = if j < 2 ∧ 2 * r + j < r2 then some (15 + 3 * r + 1 + j) else (none : Option Nat) := by
      intro r2
      rw [if_neg (by omega), if_neg (by omega), if_neg (by omega), if_neg (by omega)]
      have e : (15 + 3 * r - 15) / 3 = r := by omega
      rw [e]
      by_cases h9 : j < 2 ∧ 2 * r + j < r2
      · rw [if_pos h9, if_pos ⟨by omega, by omega, by omega, h9⟩]
      · rw [if_neg h9, if_neg (fun h8 => h9 h8.2.2.2)]
    rw [if_pos rfl, e1, e1]
    by_cases h2 : j = q
    · rw [if_pos h2, if_pos (by omega)]
      congr 1
      omega
    · rw [if_neg h2]
      by_cases h3 : j < 2 ∧ 2 * r + j < 2 * r + q
      · rw [if_pos h3, if_pos (by omega)]
      · rw [if_neg h3, if_neg (by omega)]
  · rw [if_neg h]
    repeat' split
    all_goals first | rfl | omega
theorem gq_M {t j : Nat} (hj : ∀ q, t ≤ q → q < j → rfld 3 q = false) (htj : t ≤ j) (hr : rfld 3 j = true) : upg (gq 1 12 1 8 16 t) 39 j (some (mfc j)) = gq 1 12 1 8 16 (j + 1) := by
  funext k q
  unfold upg va_up gq
  by_cases h : k = 39
  · subst h
    by_cases h2 : q = j
    · subst h2
      simp [hr]
    · simp [h2]
      by_cases h3 : q < t
      · simp [h3, show q < j + 1 by omega]
      · by_cases h4 : q < j
        · simp [hj q (by omega) h4]
        · simp [h3, show ¬ q < j + 1 by omega]
  · simp [h]
theorem gq_F0 : upg (gq 0 0 0 0 0 0) 0 0 (some 1) = gq 1 0 0 0 0 0 := by
  funext k j
  unfold upg va_up gq
  by_cases h : k = 0
  · subst h
    by_cases h2 : j = 0 <;> simp [h2]
  · simp [h]
theorem gq_F1 : upg (gq 1 12 0 0 0 0) 0 1 (some 14) = gq 1 12 1 0 0 0 := by
  funext k j
  unfold upg va_up gq
  by_cases h : k = 0
  · subst h
    by_cases h2 : j = 1 <;> simp [h2]
  · simp [h]
def Cc (E : wE) (I : mI) (d mc ms : Nat) (As : List Value) (g : wG) (n : Nat) (g' : wG) (n' : Nat) : Prop := Ct E I d mc ms As fz g 0 n (fun v u => v = none ∧ u = (fz, g', 0, n')) NXw
abbrev jc (E : wE) (I : mI) (d mc ms n0 : Nat) (g' : wG) (n' : Nat) : jI := jm E I d mc ms n0 (fun v u => v = none ∧ u = (fz, g', 0, n')) NXw
theorem e_objI {E : wE} {J : jI} {cells slots pc idx a : Nat} {lv : List (Nat × Value)} {st : List Value} {f : wF} {g : wG} {w : Int64} {n : Nat} (hd : decode (mb J.1) pc = .ok (.invokespecial idx, 3)) (k1 : Cond.methodLink (mo J.1) idx Lib.objectInit ∈ WS) (hfr : 1 ≤ J.2.1.frames) (hlo : (st.map fun v => v.category).sum + 12 ≤ J.2.1.locals) (kk : Ev E J cells slots (pc + 3) lv st f g w n) : Ev E J cells slots pc lv (.ref a :: st) f g w n := by
  intro p e s m args below meth c H locs ls C hS hV hl
  have hts := C.2.2.2.2.1
  exact W.objInit (g := F0 m pc ls (.ref a :: st)) C.1 C.2.1 C.2.2.2.1 (hts _ k1) (hts _ k_17) (hts _ k_18) rfl (hl.1.trans C.2.2.1.symm) rfl hd hfr (by show 2 * 0 + _ + 12 ≤ _; omega) (kk p e s m args below meth c H locs ls C hS hV hl)
def CalI (I : mI) (np : Nat) : Prop := Cond.instanceMethod (my I) ∈ WS ∧ Cond.initialized (my I).cls ∈ WS ∧ cdW I ∈ WS ∧ (my I).name = "<init>" ∧ mr I = none ∧ (my I).cls ≠ "java/lang/invoke/MethodHandle" ∧ (my I).cls ≠ "java/lang/invoke/VarHandle" ∧ (parseMethodDescriptor (my I).desc).map (fun d => d.parameters.length) = some np
section CC9
variable {E : wE} {J : jI} {cells slots pc : Nat} {lv : List (Nat × Value)} {st : List Value} {g : wG} {n : Nat}
theorem c_call {I2 : mI} {d mc ms idx a n' : Nat} {g' : wG} {rest : List Value} (hM : Cc E I2 d mc ms [.ref a] g n g' n') (hc : CalI I2 0) (hd : decode (mb J.1) pc = .ok (.invokespecial idx, 3)) (k1 : Cond.methodLink (mo J.1) idx (my I2) ∈ WS) (hr : (rest.map fun v => v.category).sum ≤ 8) (hR : d + 1 ≤ J.2.1.frames ∧ 8 + (mn I2 + 11) + 30 * d ≤ J.2.1.locals) (hf : cells + mc ≤ J.2.1.cells ∧ slots + ms ≤ J.2.1.slots) (hz : ∀ (s : State) (args : Array Value), J.2.2.2 args s → s.heap.size + cells = wB E + n)
    (kk : Ev E J (cells + mc) (slots + ms) (pc + 3) lv rest fz g' 0 n') : Ev E J cells slots pc lv (.ref a :: rest) fz g 0 n := by
  obtain ⟨k2, k4, k5, h1, h2, h3, h4, h5⟩ := hc
  refine e_callI hM hd rfl k1 k2 k4 k5 h1 h2 ⟨h3, h4, h5⟩ rfl hr hR hf (fun _ => hz) (fun v u hp => ?_)
  obtain ⟨rfl, rfl⟩ := hp
  exact kk
theorem c_callN {I2 : mI} {d mc ms idx a n' : Nat} {g' : wG} {rest : List Value} (hM : Cc E I2 d mc ms [.ref a] g n g' n') (hc : CalI I2 0) (hd : decode (mb J.1) pc = .ok (.invokespecial idx, 3)) (k1 : (idx, my I2) ∈ nstL) (ho : mo J.1 = "RouteFrame") (hr : (rest.map fun v => v.category).sum ≤ 8) (hR : d + 1 ≤ J.2.1.frames ∧ 8 + (mn I2 + 11) + 30 * d ≤ J.2.1.locals) (hf : cells + mc ≤ J.2.1.cells ∧ slots + ms ≤ J.2.1.slots) (hz : ∀ (s : State) (args : Array Value), J.2.2.2 args s → s.heap.size + cells = wB E + n)
    (kk : Ev E J (cells + mc) (slots + ms) (pc + 3) lv rest fz g' 0 n') : Ev E J cells slots pc lv (.ref a :: rest) fz g 0 n := by
  obtain ⟨k2, k4, k5, h1, h2, h3, h4, h5⟩ := hc
  refine e_callIN hM hd rfl k1 ho k2 k4 k5 h1 h2 ⟨h3, h4, h5⟩ rfl hr hR hf (fun _ => hz) (fun v u hp => ?_)
  obtain ⟨rfl, rfl⟩ := hp
  exact kk
end CC9
theorem ci_F : CalI i_F_init 0 := ⟨k_14, k_1, k_15, rfl, rfl, by decide, by decide, by decide +kernel⟩
theorem ci_S : CalI i_S_init 0 := ⟨k_23, k_2, k_24, rfl, rfl, by decide, by decide, by decide +kernel⟩
theorem ci_R : CalI i_R_init 0 := ⟨k_55, k_3, k_56, rfl, rfl, by decide, by decide, by decide +kernel⟩
theorem ci_M : CalI i_M_init 0 := ⟨k_496, k_4, k_497, rfl, rfl, by decide, by decide, by decide +kernel⟩
