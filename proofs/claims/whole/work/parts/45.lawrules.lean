def jL (E : wE) (b L : Nat) (xs : Nat → Int32) : jI := (i_L_law, room_1, fun args below s => lw_Z below args s, fun args s => args = #[Value.ref b] ∧ va_X b L xs s s.heap ∧ b < s.heap.size ∧ s.heap.size = wB E)
section LW9
variable {E : wE} {b L : Nat} {xs : Nat → Int32} {cells slots pc : Nat} {lv : List (Nat × Value)} {st : List Value} {f : wF} {g : wG} {w : Int64} {n : Nat}
theorem l_end (hd : decode code pc = .ok (.ireturn, 1)) (hc : cells ≤ 662141) (hs : slots ≤ 7109682) : Ev E (jL E b L xs) cells slots pc lv [.int (nI 1)] f g w n := by
  intro p e s m args below meth c H locs ls C hS hV hl
  obtain ⟨rfl, -, -, hB⟩ := C.2.2.2.2.2.2.2.2.2.2.2
  refine W.widen (k := 662141) (n := 7109682) hc hs (va_forget (fun q hq => ?_) ?_)
  · rw [hB]
    exact hV.2.2 q hq
  · exact lw_ret C.1 C.2.1 C.2.2.2.2.2.1 C.2.2.2.2.2.2.1 hd
theorem e_sld {i : Nat} {y : Int32} (hd : decode code pc = .ok (.iaload, 1)) (hy : y = nI i) (hi : i < L) (hL : L < 2 ^ 31) (kk : Ev E (jL E b L xs) cells slots (pc + 1) lv (.int (xs i) :: st) f g w n) : Ev E (jL E b L xs) cells slots pc lv (.int y :: .ref b :: st) f g w n := by
  intro p e s m args below meth c H locs ls C hS hV hl
  obtain ⟨-, hX, hb, hB⟩ := C.2.2.2.2.2.2.2.2.2.2.2
  subst hy
  refine va_sld C.1 C.2.1 hX hb (fun h => ?_) hV (vp_in_nI hi hL) hd ?_
  · have h2 : wB E ≤ b := h
    omega
  · rw [nI_clamp (by omega)]
    exact kk p e s m args below meth c H locs ls C hS hV hl
theorem e_slen (hd : decode code pc = .ok (.arraylength, 1)) (kk : Ev E (jL E b L xs) cells slots (pc + 1) lv (.int (nI L) :: st) f g w n) : Ev E (jL E b L xs) cells slots pc lv (.ref b :: st) f g w n := by
  intro p e s m args below meth c H locs ls C hS hV hl
  obtain ⟨-, hX, hb, hB⟩ := C.2.2.2.2.2.2.2.2.2.2.2
  refine va_slen C.1 C.2.1 hX hb (fun h => ?_) hV hd (kk p e s m args below meth c H locs ls C hS hV hl)
  have h2 : wB E ≤ b := h
  omega
theorem s_callL {J : jI} {I2 : mI} {d mc ms idx np c : Nat} {As rest st0 : List Value} {m m' : wM} {a : Int64} (hM : CtH E I2 d mc ms As f g0 w 57 (LHp f w c m m' a) NXw) (hc : CalH I2 np)
    (hd : decode (mb J.1) pc = .ok (.invokestatic idx, 3)) (hst : st0 = As.reverse ++ rest) (k1 : Cond.methodLink (mo J.1) idx (my I2) ∈ WS) (hnp : As.length = np)
    (hr : (rest.map fun v => v.category).sum ≤ 8) (hR : d + 1 ≤ J.2.1.frames ∧ 8 + (mn I2 + 11) + 30 * d ≤ J.2.1.locals) (hf : cells + mc ≤ J.2.1.cells ∧ slots + ms ≤ J.2.1.slots)
    (kk : ∀ (f9 : wF) (w9 : Int64), kp f f9 → (c = 0 → w9 = a ∧ Rc m' f9) → (c ≠ 0 → Rc m f9) → Ev E J (cells + mc) (slots + ms) (pc + 3) lv (.int (nI c) :: rest) f9 g0 w9 57) : Ev E J cells slots pc lv st0 f g0 w 57 := by
  obtain ⟨k2, k4, k5, h1, h2, h3⟩ := hc
  refine e_callSH hM hd hst k1 k2 k4 k5 ⟨h1, h2, h3⟩ hnp hr hR hf (fun h => absurd h (by decide)) (fun v u hp => ?_) (fun X u hp => hp.elim)
  obtain ⟨f9, w9, rfl, rfl, e1, e2, e3⟩ := hp
  exact kk f9 w9 e1 e2 e3
theorem s_callT {J : jI} {I2 : mI} {d mc ms idx np c : Nat} {As rest st0 : List Value} {m m' : wM} {P : Int32 → Prop} (hM : CtH E I2 d mc ms As f g0 w 57 (fun v u => ∃ t : Int32, (c = 0 → P t) ∧ LHp f w c m m' t.toInt64 v u) NXw) (hc : CalH I2 np)
    (hd : decode (mb J.1) pc = .ok (.invokestatic idx, 3)) (hst : st0 = As.reverse ++ rest) (k1 : Cond.methodLink (mo J.1) idx (my I2) ∈ WS) (hnp : As.length = np)
    (hr : (rest.map fun v => v.category).sum ≤ 8) (hR : d + 1 ≤ J.2.1.frames ∧ 8 + (mn I2 + 11) + 30 * d ≤ J.2.1.locals) (hf : cells + mc ≤ J.2.1.cells ∧ slots + ms ≤ J.2.1.slots)
    (kk : ∀ (f9 : wF) (w9 : Int64) (t9 : Int32), (c = 0 → P t9) → kp f f9 → (c = 0 → w9 = t9.toInt64 ∧ Rc m' f9) → (c ≠ 0 → Rc m f9) → Ev E J (cells + mc) (slots + ms) (pc + 3) lv (.int (nI c) :: rest) f9 g0 w9 57) : Ev E J cells slots pc lv st0 f g0 w 57 := by
  obtain ⟨k2, k4, k5, h1, h2, h3⟩ := hc
  refine e_callSH hM hd hst k1 k2 k4 k5 ⟨h1, h2, h3⟩ hnp hr hR hf (fun h => absurd h (by decide)) (fun v u hp => ?_) (fun X u hp => hp.elim)
  obtain ⟨t9, hP, f9, w9, rfl, rfl, e1, e2, e3⟩ := hp
  exact kk f9 w9 t9 hP e1 e2 e3
end LW9
theorem rm_kp {m : wM} {f f9 : wF} (h : Rm m f) (hk : kp f f9) : Rm m f9 := by
  obtain ⟨h1, h2, h3, h4⟩ := h
  refine ⟨?_, ?_, fun y => ?_, fun x y hx => ?_⟩
  · rw [hk 39 1 (by decide), h1]
  · rw [hk 39 7 (by decide), h2]
  · rw [hk 46 y (by decide), h3]
  · rw [hk x y (by omega), h4 x y hx]
theorem rc_fr8 {m : wM} {f f9 : wF} (h : Rc m f) (hW : Wv m) (hk : fr8 f f9) : Rc m f9 := by
  have h12 := hW.S
  have h8 := hW.R
  obtain ⟨h1, h2, h3, h4⟩ := h
  refine ⟨?_, ?_, fun i hi => ?_, fun r hr => ?_⟩
  · rw [hk 0 2 (by omega), h1]
  · rw [hk 0 3 (by omega), h2]
  · exact rcS_c (h3 i hi) (fun b => hk _ b (by omega)) (fun _ _ _ => rfl)
  · exact rcR_c (h4 r hr) (hW.N hr) (fun a b h9 => hk a b (by omega)) (fun _ _ _ => rfl) (fun _ _ _ _ _ => rfl)
theorem cmp_eq {x y : Int64} (h : x = y) : lg_cmp x y = 0 := by
  subst h
  unfold lg_cmp
  rw [if_neg (by simp), if_pos rfl]
theorem and15 (y : Int32) : ∃ c, c ≤ 15 ∧ y &&& nI 15 = nI c := by
  refine ⟨(y.toBitVec &&& (15#32)).toNat, ?_, ?_⟩
  · rw [BitVec.toNat_and]
    exact Nat.and_le_right
  · apply Int32.toBitVec_inj.mp
    show y.toBitVec &&& (nI 15).toBitVec = BitVec.ofNat 32 _
    rw [BitVec.ofNat_toNat, BitVec.setWidth_eq]
    rfl
theorem len4 {L k : Nat} (hL : L ≤ 2048) (hk : k ≤ 513) : (nI L - nI 4 < nI (4 * k)) ↔ L < 4 * k + 4 := by
  by_cases h : 4 ≤ L
  · obtain ⟨d, rfl⟩ : ∃ d, L = d + 4 := ⟨L - 4, by omega⟩
    have e : nI (d + 4) - nI 4 = nI d := by
      rw [← nI_add d 4]
      exact Int32.add_sub_cancel _ _
    rw [e, nI_ltI (by omega) (by omega)]
    omega
  · have h2 : nI L - nI 4 < 0 := by
      have h3 : L = 0 ∨ L = 1 ∨ L = 2 ∨ L = 3 := by omega
      rcases h3 with rfl | rfl | rfl | rfl <;> decide
    exact ⟨fun _ => by omega, fun _ => Int32.lt_of_lt_of_le h2 (nI_pos' (by omega))⟩
