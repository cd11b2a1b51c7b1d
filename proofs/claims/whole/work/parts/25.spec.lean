/-! what each call does in the picture: the code (0, or which exception), the answer, the new picture -/
def ix (x : Int32) : Nat := x.toNatClampNeg
theorem ix_nI {i : Nat} (h : i < 64) : ix (nI i) = i := nI_clamp (by omega)
def ex3 (c : Nat) (X : String) : Prop := (c = 1 ∧ X = "java/lang/IndexOutOfBoundsException") ∨ (c = 2 ∧ X = "java/lang/IllegalArgumentException") ∨ (c = 3 ∧ X = "java/lang/IllegalStateException")
noncomputable def kRte (m : wM) (x y z : Int32) : Nat := @ite Nat (y ≠ -1 ∧ noS m y) (Classical.propDecidable _) 1 (@ite Nat ((x < 0 ∨ nI 6 ≤ x) ∨ z < nI 1 ∨ ¬ z ≤ nI 9) (Classical.propDecidable _) 2 (@ite Nat (m 39 7 = 8) (Classical.propDecidable _) 3 0))
noncomputable def kUse (m : wM) (x y z : Int32) : Nat := @ite Nat (noR m x ∨ noS m y) (Classical.propDecidable _) 1 (@ite Nat (¬ fitP m z (ix y) ∨ ¬ ∀ k, k < m 51 (ix x) → m 52 (6 * ix x + k) ≠ ix y) (Classical.propDecidable _) 2 (@ite Nat (m 51 (ix x) = 6 ∨ ¬ ∀ q, q < m 39 7 → m 48 q = 0) (Classical.propDecidable _) 3 0))
noncomputable def kR1 (m : wM) (x : Int32) : Nat := @ite Nat (noR m x) (Classical.propDecidable _) 1 0
noncomputable def kS1 (m : wM) (x : Int32) : Nat := @ite Nat (noS m x) (Classical.propDecidable _) 1 0
noncomputable def kMov (m : wM) (x y : Int32) : Nat := @ite Nat (noS m x) (Classical.propDecidable _) 1 (@ite Nat (m 40 (ix x) = 0 ∨ (y ≠ 0 ∧ y ≠ nI 1)) (Classical.propDecidable _) 2 0)
noncomputable def kBrk (m : wM) (x : Int32) : Nat := @ite Nat (noS m x) (Classical.propDecidable _) 1 (@ite Nat (m 40 (ix x) = 0) (Classical.propDecidable _) 2 0)
noncomputable def kTck (x : Int32) : Nat := @ite Nat (x < nI 1 ∨ ¬ x ≤ nI 20) (Classical.propDecidable _) 2 0
noncomputable def kOff (x : Int32) : Nat := @ite Nat (x < 0 ∨ nI 6 ≤ x) (Classical.propDecidable _) 1 0
noncomputable def kCla (m : wM) (x y : Int32) : Nat := @ite Nat (noR m x ∨ noR m y) (Classical.propDecidable _) 1 0
noncomputable def kAbt (m : wM) (x y : Int32) : Nat := @ite Nat (noR m x) (Classical.propDecidable _) 1 (@ite Nat (y.toInt < 0 ∨ 4 < y.toInt) (Classical.propDecidable _) 2 0)
noncomputable def kTrk (m : wM) (x y : Int32) : Nat := @ite Nat (noS m x) (Classical.propDecidable _) 1 (@ite Nat (y.toInt < 0 ∨ 6 < y.toInt) (Classical.propDecidable _) 2 0)
noncomputable def reqM (m : wM) (r : Nat) : wM := @ite wM (jdg m r = 0) (Classical.propDecidable _) (ntN (stN m r (m 51 r)) (m 39 7)) m
def canA (m : wM) (r : Nat) : Nat := if m 48 r = 1 then (if m 50 r = 0 then 0 else 1) else 2
def canM (m : wM) (r : Nat) : wM := if m 48 r = 1 then (if m 50 r = 0 then rel m r else timM m r) else m
noncomputable def occM (m : wM) (s : Nat) : wM := if m 41 s = 0 then ntN (occU m s (6 * m 39 7)) (m 39 7) else m
def vacM (m : wM) (s : Nat) : wM := if m 41 s = 0 then m else lvA (um m 41 s 0) (m 39 7)
noncomputable def movA (m : wM) (s : Nat) : Nat := @ite Nat (m 41 s = 0 ∧ ¬ hldP m s) (Classical.propDecidable _) 1 0
noncomputable def movM (m : wM) (s p : Nat) : wM := @ite wM (m 41 s = 0 ∧ ¬ hldP m s) (Classical.propDecidable _) (wnt m s p) m
noncomputable def claA (m : wM) (r q : Nat) : Nat := @ite Nat (r ≠ q ∧ (m 45 r = m 45 q ∨ disP m (bts (fun _ => 1) (m 51 r)) r q)) (Classical.propDecidable _) 1 0
def abtA (m : wM) (r c : Nat) : Nat := if c = 0 then m 48 r else if c = 1 then m 49 r else if c = 2 then m 50 r else if c = 3 then hld m r else ovr m r
theorem tab_out {y : Int32} {N : Nat} (h : ∀ c, c ≤ N → y ≠ nI c) (hN : N < 64) : y.toInt < 0 ∨ (N : Int) < y.toInt := by
  refine Classical.byContradiction (fun h2 => ?_)
  have h3 : ¬ y.toInt < 0 ∧ ¬ (N : Int) < y.toInt := ⟨fun h9 => h2 (Or.inl h9), fun h9 => h2 (Or.inr h9)⟩
  refine h y.toInt.toNat (by omega) (Int32.toInt_inj.mp ?_)
  rw [nI_toInt (by omega)]
  omega
theorem tab_in {c N : Nat} (h : c ≤ N) (hN : N < 64) : ¬ ((nI c).toInt < 0 ∨ (N : Int) < (nI c).toInt) := by
  rw [nI_toInt (by omega)]
  omega
theorem dl_of {z : Int32} {N : Nat} (hN : N < 64) (h1 : ¬ z < nI 1) (h2 : z ≤ nI N) : ∃ d, 1 ≤ d ∧ d ≤ N ∧ z = nI d := by
  have a1 : ¬ z.toInt < (nI 1).toInt := fun h => h1 (Int32.lt_iff_toInt_lt.mpr h)
  have a2 : z.toInt ≤ (nI N).toInt := Int32.le_iff_toInt_le.mp h2
  rw [nI_toInt (by decide)] at a1
  rw [nI_toInt (by omega)] at a2
  refine ⟨z.toInt.toNat, by omega, by omega, Int32.toInt_inj.mp ?_⟩
  rw [nI_toInt (by omega)]
  omega
theorem rc_clr {m : wM} {f : wF} : Rc (clrM m) (up2 (up2 f 0 2 (nI 0)) 0 3 (nI 0)) := by
  have e1 : clrM m 39 1 = 0 := by simp [clrM]
  have e7 : clrM m 39 7 = 0 := by simp [clrM]
  unfold Rc
  rw [e1, e7]
  exact ⟨by simp [up2_at], by simp [up2_at], fun i hi => absurd hi (Nat.not_lt_zero _), fun i hi => absurd hi (Nat.not_lt_zero _)⟩
theorem rc_sec {m : wM} {f : wF} {b : Nat} (hW : Wv m) (hC : Rc m f) (h1 : m 39 1 < 12) : Rc (secM m b) (up2 (up2 (up2 (up2 (up2 (up2 (up2 f (2 + m 39 1) 0 (nI b)) (2 + m 39 1) 1 (nI 0)) (2 + m 39 1) 2 (nI 0)) (2 + m 39 1) 3 (nI 0)) (2 + m 39 1) 4 (nI 0)) (2 + m 39 1) 5 (nI 0)) 0 2 (nI (m 39 1 + 1))) := by
  generalize hf : up2 (up2 (up2 (up2 (up2 (up2 (up2 f (2 + m 39 1) 0 (nI b)) (2 + m 39 1) 1 (nI 0)) (2 + m 39 1) 2 (nI 0)) (2 + m 39 1) 3 (nI 0)) (2 + m 39 1) 4 (nI 0)) (2 + m 39 1) 5 (nI 0)) 0 2 (nI (m 39 1 + 1)) = f'
  have ho : ∀ a b, a ≠ 0 → a ≠ 2 + m 39 1 → f' a b = f a b := by
    intro a b h2 h3
    rw [← hf]
    simp [up2_at, h2, h3]
  have hm : ∀ a b, ¬ (a = 39 ∧ b = 1) → ¬ (40 ≤ a ∧ a ≤ 44 ∧ b = m 39 1) → secM m b a b = m a b := by
    intro a b h2 h3
    unfold secM
    rw [if_neg h2, if_neg (by omega), if_neg (by omega)]
  have hm2 : ∀ a c, ¬ (a = 39 ∧ c = 1) → ¬ (40 ≤ a ∧ a ≤ 44 ∧ c = m 39 1) → secM m b a c = m a c := by
    intro a c h2 h3
    unfold secM
    rw [if_neg h2, if_neg (by omega), if_neg (by omega)]
  have e1 : secM m b 39 1 = m 39 1 + 1 := by simp [secM]
  have e7 : secM m b 39 7 = m 39 7 := by simp [secM]
  obtain ⟨c1, c2, c3, c4⟩ := hC
  refine ⟨?_, ?_, fun i hi => ?_, fun r hr => ?_⟩
  · rw [e1, ← hf]
    simp [up2_at]
  · rw [e7, ← c2, ← hf]
    simp [up2_at]
    intro h9
    omega
  · rw [e1] at hi
    by_cases e : i = m 39 1
    · subst e
      unfold RcS lieI
      rw [← hf]
      simp [up2_at, secM]
    · exact rcS_c (c3 i (by omega)) (fun c => ho _ c (by omega) (by omega)) (fun a h2 h3 => hm2 a i (by omega) (by omega))
  · rw [e7] at hr
    exact rcR_c (c4 r hr) (hW.N hr) (fun a c h9 => ho a c (by omega) (by omega)) (fun a h9 h8 => hm2 a r (by omega) (by omega)) (fun a k h9 h8 h7 => hm2 a _ (by omega) (by omega))
theorem rc_rte {m : wM} {f : wF} {sg ap dl : Nat} (hW : Wv m) (hC : Rc m f) (h1 : m 39 7 < 8) : Rc (rteM m sg ap dl) (up2 (up2 (up2 (up2 (up2 (up2 (up2 (up2 (up2 (up2 f (15 + 3 * m 39 7) 2 (nI 0)) (15 + 3 * m 39 7) 3 (nI sg)) (15 + 3 * m 39 7) 4 (apI ap)) (15 + 3 * m 39 7) 5 (nI dl)) (15 + 3 * m 39 7) 6 (nI 0)) (15 + 3 * m 39 7) 7 (nI 0)) (15 + 3 * m 39 7) 8 (nI 0)) (15 + 3 * m 39 7) 9 (nI 0)) (15 + 3 * m 39 7) 10 (nI 0)) 0 3 (nI (m 39 7 + 1))) := by
  generalize hf : up2 (up2 (up2 (up2 (up2 (up2 (up2 (up2 (up2 (up2 f (15 + 3 * m 39 7) 2 (nI 0)) (15 + 3 * m 39 7) 3 (nI sg)) (15 + 3 * m 39 7) 4 (apI ap)) (15 + 3 * m 39 7) 5 (nI dl)) (15 + 3 * m 39 7) 6 (nI 0)) (15 + 3 * m 39 7) 7 (nI 0)) (15 + 3 * m 39 7) 8 (nI 0)) (15 + 3 * m 39 7) 9 (nI 0)) (15 + 3 * m 39 7) 10 (nI 0)) 0 3 (nI (m 39 7 + 1)) = f'
  have ho : ∀ a b, a ≠ 0 → a ≠ 15 + 3 * m 39 7 → f' a b = f a b := by
    intro a b h2 h3
    rw [← hf]
    simp [up2_at, h2, h3]
  have hm : ∀ a c, ¬ (a = 39 ∧ c = 7) → ¬ (45 ≤ a ∧ a ≤ 51 ∧ c = m 39 7) → ¬ ((a = 54 ∨ a = 55) ∧ 6 * m 39 7 ≤ c ∧ c < 6 * m 39 7 + 6) → rteM m sg ap dl a c = m a c := by
    intro a c h2 h3 h4
    unfold rteM rel
    rw [if_neg h2, if_neg (by omega), if_neg (by omega), if_neg (by omega), if_neg (by omega), if_neg (by omega)]
  have e1 : rteM m sg ap dl 39 1 = m 39 1 := by simp [rteM, rel]
  have e7 : rteM m sg ap dl 39 7 = m 39 7 + 1 := by simp [rteM]
  have h12 := hW.S
  obtain ⟨c1, c2, c3, c4⟩ := hC
  refine ⟨?_, ?_, fun i hi => ?_, fun r hr => ?_⟩
  · rw [e1, ← c1, ← hf]
    simp [up2_at]
    intro h9
    omega
  · rw [e7, ← hf]
    simp [up2_at]
  · rw [e1] at hi
    exact rcS_c (c3 i hi) (fun c => ho _ c (by omega) (by omega)) (fun a h2 h3 => hm a i (by omega) (by omega) (by omega))
  · rw [e7] at hr
    by_cases e : r = m 39 7
    · subst e
      have e51 : rteM m sg ap dl 51 (m 39 7) = 0 := by simp [rteM]
      refine ⟨?_, ?_, ?_, ?_, ?_, ?_, ?_, ?_, ?_, fun k9 hk9 => ?_⟩
      · rw [e51, ← hf]
        simp [up2_at]
      · rw [← hf]
        simp [up2_at, rteM]
      · rw [← hf]
        simp [up2_at, rteM]
      · rw [← hf]
        simp [up2_at, rteM]
      · rw [← hf]
        simp [up2_at, rteM, rel]
      · rw [← hf]
        simp [up2_at, rteM, rel]
      · rw [← hf]
        simp [up2_at, rteM, rel]
      · rw [hld, e51, ← hf]
        simp [up2_at, bts]
      · rw [ovr, e51, ← hf]
        simp [up2_at, bts]
      · rw [e51] at hk9
        exact absurd hk9 (Nat.not_lt_zero _)
    · exact rcR_c (c4 r (by omega)) (hW.N (by omega)) (fun a c h9 => ho a c (by omega) (by omega)) (fun a h9 h8 => hm a r (by omega) (by omega) (by omega)) (fun a k h9 h8 h7 => hm a _ (by omega) (by omega) (by omega))
theorem rc_use {m : wM} {f : wF} {r s h : Nat} (hW : Wv m) (hC : Rc m f) (hr : r < m 39 7) (h6 : m 51 r < 6) (h0 : ∀ k, k < m 51 r → m 54 (6 * r + k) = 0) : Rc (useM m r s h) (up2 (up2 (up2 f (16 + 3 * r) (m 51 r) (nI s)) (17 + 3 * r) (m 51 r) (nI h)) (15 + 3 * r) 2 (nI (m 51 r + 1))) := by
  refine rc_R (r := r) hC hW (fun a b h1 h2 h3 => by simp [up2_at, h1, h2, h3]) (fun a b h => by unfold useM; rw [if_neg (by omega), if_neg (by omega), if_neg (by omega), if_neg (by omega)]) (fun a q h h1 h2 => by unfold useM; rw [if_neg (by omega), if_neg (by omega), if_neg (by omega), if_neg (by omega)]) (fun a u h h1 h2 => by unfold useM; rw [if_neg (by omega), if_neg (by omega), if_neg (by omega), if_neg (by omega)]) (fun _ => ?_)
  obtain ⟨h1, h2, h3, h4, h5, h7, h8, h9, h10, h11⟩ := hC.2.2.2 r hr
  have e51 : useM m r s h 51 r = m 51 r + 1 := by simp [useM]
  have e54 : ∀ k, k < useM m r s h 51 r → useM m r s h 54 (6 * r + k) = 0 := by
    intro k hk
    rw [e51] at hk
    by_cases e : k = m 51 r
    · simp [useM, e]
    · have := h0 k (by omega)
      simp [useM, e, this]
  refine ⟨?_, ?_, ?_, ?_, ?_, ?_, ?_, ?_, ?_, fun k9 hk9 => ?_⟩
  · rw [e51]
    simp [up2_at]
  · simp [up2_at, useM, h2]
  · simp [up2_at, useM, h3]
  · simp [up2_at, useM, h4]
  · simp [up2_at, useM, h5]
  · simp [up2_at, useM, h7]
  · simp [up2_at, useM, h8]
  · rw [hld_0 e54, up2_ne (by omega), up2_ne (by omega), up2_ne (by omega), h9, hld_0 h0]
  · rw [ovr_0 e54, up2_ne (by omega), up2_ne (by omega), up2_ne (by omega), h10, ovr_0 h0]
  · rw [e51] at hk9
    by_cases e : k9 = m 51 r
    · subst e
      simp [up2_at, useM]
    · have h12 := h11 k9 (by omega)
      simp [up2_at, useM, e, h12]
