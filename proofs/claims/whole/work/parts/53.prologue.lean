/-! the law ahead of its loop -/
def m0 : wM := fun a _ => if a = 46 then 1 else 0
theorem iv_m0 : Iv m0 := by
  have hz : m0 39 7 = 0 := rfl
  have hs : m0 39 1 = 0 := rfl
  refine ⟨⟨⟨?_, ?_, ?_, ?_, ?_, ?_, ?_, ?_, ?_, ?_, ?_⟩, ?_, ?_, ?_, ?_, ?_, ?_⟩, ?_⟩
  · exact Nat.zero_le _
  · exact Nat.zero_le _
  · intro a b
    unfold m0
    split <;> omega
  · exact fun b => Nat.zero_le _
  · exact fun b => Nat.zero_le _
  · exact fun b => Nat.zero_le _
  · exact fun b => Nat.zero_le _
  · exact fun b => Nat.zero_le _
  · exact fun b => Nat.zero_le _
  · exact fun b => Nat.zero_le _
  · exact fun b => Nat.zero_le _
  · intro i hi
    exact absurd hi (Nat.not_lt_zero _)
  · intro i hi
    exact absurd hi (Nat.not_lt_zero _)
  · intro i k hi
    exact absurd hi (Nat.not_lt_zero _)
  · intro i k j hi
    exact absurd hi (Nat.not_lt_zero _)
  · intro i k hi
    exact absurd hi (Nat.not_lt_zero _)
  · intro i q k j hi
    exact absurd hi (Nat.not_lt_zero _)
  · intro i hi
    exact absurd hi (Nat.not_lt_zero _)
theorem rc_m0 : Rc m0 fz := ⟨rfl, rfl, fun _ hi => absurd hi (Nat.not_lt_zero _), fun _ hr => absurd hr (Nat.not_lt_zero _)⟩
theorem rm_m0 : Rm m0 fz := by
  refine ⟨rfl, rfl, fun _ => rfl, fun a b h => ?_⟩
  show (0 : Int32) = nI (if a = 46 then 1 else 0)
  rw [if_neg h.2.2]
  rfl
theorem arrV_e9 {cA : ClassId} {N : Nat} {f f' : Nat → Value} (h : ∀ j, j < N → f j = f' j) : arrV cA N f = arrV cA N f' := by
  unfold arrV
  congr 1
  congr 1
  funext j
  exact h j.val j.isLt
abbrev gE : wG := gq 1 12 1 8 16 19
theorem gE_q : ∀ k, k < 57 → kd k = 4 → ∀ j, j < ln k → gE k j = g0 k j := by decide +kernel
theorem gE_o : ∀ k, k < 57 → kd k < 4 → ∀ j, j < nf (kd k) → rfld (kd k) j = true → gE k j = g0 k j := by decide +kernel
theorem kd_h7 : ∀ k, k < 57 → kd k ≤ 7 := by decide +kernel
theorem sm_g0 {E : wE} {f : wF} {w : Int64} {H : Heap} (hS : Sm E f gE w 57 H) : Sm E f g0 w 57 H := by
  intro k q hk
  obtain ⟨hkn, rfl⟩ := mkW_in hk
  have h1 := hS k _ (mkW_at hkn)
  have h7 := kd_h7 k hkn
  by_cases h4 : kd k < 4
  · have e1 : wfs E (kd k) f gE k = wfs E (kd k) f g0 k := by
      unfold wfs
      apply List.map_congr_left
      intro j hj
      by_cases hr : rfld (kd k) j = true
      · rw [if_pos hr, if_pos hr, gE_o k hkn h4 j (List.mem_range.mp hj) hr]
      · rw [if_neg hr, if_neg hr]
    rw [wce_o rfl h4, e1] at h1
    rw [wce_o rfl h4]
    exact h1
  · by_cases h5 : kd k = 4
    · rw [wce_q h5] at h1
      rw [wce_q h5]
      have h2 : H[wB E + k]? = some (arrV (wc E (if k = 1 then 3 else 4)) (ln k) (fun j => va_rf ((gE k j).map (wB E + ·)))) := h1
      show H[wB E + k]? = some (arrV (wc E (if k = 1 then 3 else 4)) (ln k) (fun j => va_rf ((g0 k j).map (wB E + ·))))
      rw [h2]
      refine congrArg some (arrV_e9 ?_)
      intro j hj
      rw [gE_q k hkn h5 j hj]
    · have h6 : kd k = 5 ∨ kd k = 6 ∨ kd k = 7 := by omega
      rcases h6 with h6 | h6 | h6
      · rw [wce_i h6] at h1 ⊢
        exact h1
      · rw [wce_z h6] at h1 ⊢
        exact h1
      · rw [wce_l h6] at h1 ⊢
        exact h1
theorem lw_pro {E : wE} {b L : Nat} {xs : Nat → Int32} (hE : (wl E).stackTraces = false) (hL : L ≤ 2048) : Ev E (jL E b L xs) 0 0 0 [(0, .ref b)] [] fz (gq 0 0 0 0 0 0) 0 0 := by
  refine e_new (ci := 0) (N := 4) (T := TF) (CN := "RouteFrame") (dat dL0 0 rfl) rfl uwF tyF tyF_ok k_11 k_12 k_1 rfl (by decide) rfl (fun _ => rfl) (fun j => by show (if j = 0 ∧ 0 = 1 then some 1 else if j = 1 ∧ 0 = 1 then some 14 else none) = (none : Option Nat); rw [if_neg (by omega), if_neg (by omega)]) (by decide) (show 0 + 1 ≤ 662141 by decide) (show 0 + 4 ≤ 7109682 by decide) (fun s9 a9 h9 => by
    have h8 : s9.heap.size = wB E := h9.2.2.2
    omega) ?_
  refine e_dup (dat dL0 1 rfl) rfl ?_
  refine c_call t_F_init ci_F (dat dL0 2 rfl) k_13 (show 1 ≤ 8 by decide) ⟨show 3 ≤ 11 by decide, show 81 ≤ 390 by decide⟩ ⟨show 0 + 1 + 38 ≤ 662141 by decide, show 0 + 4 + 276 ≤ 7109682 by decide⟩ (fun s9 a9 h9 => by
    have h8 : s9.heap.size = wB E := h9.2.2.2
    omega) ?_
  refine e_astore_n (dat dL0 3 rfl) rfl (show 1 < 7 by decide) (lv2 := [(1, _), (0, _)]) rfl ?_
  refine e_new (ci := 3) (N := 19) (T := TM) (CN := "RouteFrameModel") (dat dL0 4 rfl) rfl uwM tyM tyM_ok k_493 k_494 k_4 rfl (by decide) rfl (fun _ => rfl) (fun j => by show (if j < 0 ∧ rfld 3 j = true then some (mfc j) else none) = (none : Option Nat); rw [if_neg (by omega)]) (by decide) (show 0 + 1 + 38 + 1 ≤ 662141 by decide) (show 0 + 4 + 276 + 19 ≤ 7109682 by decide) (fun s9 a9 h9 => by
    have h8 : s9.heap.size = wB E := h9.2.2.2
    omega) ?_
  refine e_dup (dat dL0 5 rfl) rfl ?_
  refine c_call t_M_init ci_M (dat dL0 6 rfl) k_495 (show 1 ≤ 8 by decide) ⟨show 2 ≤ 11 by decide, show 50 ≤ 390 by decide⟩ ⟨show 0 + 1 + 38 + 1 + 16 ≤ 662141 by decide, show 0 + 4 + 276 + 19 + 308 ≤ 7109682 by decide⟩ (fun s9 a9 h9 => by
    have h8 : s9.heap.size = wB E := h9.2.2.2
    omega) ?_
  refine e_astore_n (dat dL0 7 rfl) rfl (show 2 < 7 by decide) (lv2 := [(2, _), (1, _), (0, _)]) rfl ?_
  refine e_iconst (v := nI 1) (dat dL0 8 rfl) rfl ?_
  refine e_newl (dat dL0 9 rfl) k_672 rfl rfl rfl (show 0 + 1 + 38 + 1 + 16 + 1 ≤ 662141 by decide) (show 0 + 4 + 276 + 19 + 308 + 1 ≤ 7109682 by decide) (fun s9 a9 h9 => by
    have h8 : s9.heap.size = wB E := h9.2.2.2
    omega) ?_
  refine e_astore_n (dat dL0 10 rfl) rfl (show 3 < 7 by decide) (lv2 := [(3, _), (2, _), (1, _), (0, _)]) rfl ?_
  refine e_iconst (v := nI 0) (dat dL0 11 rfl) rfl ?_
  refine e_istore (dat dL0 12 rfl) (show 4 < 7 by decide) (lv2 := [(4, _), (3, _), (2, _), (1, _), (0, _)]) rfl ?_
  refine e_wd (c2 := 57) (s2 := 700) (by decide) (by decide) ?_
  intro p e s m args below meth c H locs ls C hS hV hl
  exact lw_loop hE hL m0 fz 0 iv_m0 rc_m0 rm_m0 p e s m args below meth c H locs ls C (sm_g0 hS) hV hl
