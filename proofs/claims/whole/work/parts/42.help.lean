theorem kR1_n {m : wM} {x : Int32} {d : Nat} (h : d ≠ 0 ∧ d ≠ 1) : ¬ kR1 m x = d := by
  intro e
  unfold kR1 at e
  revert e
  repeat' split
  all_goals omega
theorem kS1_n {m : wM} {x : Int32} {d : Nat} (h : d ≠ 0 ∧ d ≠ 1) : ¬ kS1 m x = d := by
  intro e
  unfold kS1 at e
  revert e
  repeat' split
  all_goals omega
theorem kMov_n {m : wM} {x y : Int32} {d : Nat} (h : d ≠ 0 ∧ d ≠ 1 ∧ d ≠ 2) : ¬ kMov m x y = d := by
  intro e
  unfold kMov at e
  revert e
  repeat' split
  all_goals omega
theorem kBrk_n {m : wM} {x : Int32} {d : Nat} (h : d ≠ 0 ∧ d ≠ 1 ∧ d ≠ 2) : ¬ kBrk m x = d := by
  intro e
  unfold kBrk at e
  revert e
  repeat' split
  all_goals omega
theorem kTck_n {x : Int32} {d : Nat} (h : d ≠ 0 ∧ d ≠ 2) : ¬ kTck x = d := by
  intro e
  unfold kTck at e
  revert e
  repeat' split
  all_goals omega
theorem kOff_n {x : Int32} {d : Nat} (h : d ≠ 0 ∧ d ≠ 1) : ¬ kOff x = d := by
  intro e
  unfold kOff at e
  revert e
  repeat' split
  all_goals omega
theorem kCla_n {m : wM} {x y : Int32} {d : Nat} (h : d ≠ 0 ∧ d ≠ 1) : ¬ kCla m x y = d := by
  intro e
  unfold kCla at e
  revert e
  repeat' split
  all_goals omega
theorem kAbt_n {m : wM} {x y : Int32} {d : Nat} (h : d ≠ 0 ∧ d ≠ 1 ∧ d ≠ 2) : ¬ kAbt m x y = d := by
  intro e
  unfold kAbt at e
  revert e
  repeat' split
  all_goals omega
theorem kTrk_n {m : wM} {x y : Int32} {d : Nat} (h : d ≠ 0 ∧ d ≠ 1 ∧ d ≠ 2) : ¬ kTrk m x y = d := by
  intro e
  unfold kTrk at e
  revert e
  repeat' split
  all_goals omega
theorem c_L_section : CalH i_L_section 3 := ⟨k_120, k_0, k_121, by decide, by decide, by decide +kernel⟩
theorem c_L_route : CalH i_L_route 5 := ⟨k_200, k_0, k_201, by decide, by decide, by decide +kernel⟩
theorem c_L_use : CalH i_L_use 4 := ⟨k_257, k_0, k_258, by decide, by decide, by decide +kernel⟩
theorem c_L_request : CalH i_L_request 3 := ⟨k_290, k_0, k_291, by decide, by decide, by decide +kernel⟩
theorem c_L_cancel : CalH i_L_cancel 3 := ⟨k_364, k_0, k_365, by decide, by decide, by decide +kernel⟩
theorem c_L_occupy : CalH i_L_occupy 3 := ⟨k_376, k_0, k_377, by decide, by decide, by decide +kernel⟩
theorem c_L_vacate : CalH i_L_vacate 3 := ⟨k_395, k_0, k_396, by decide, by decide, by decide +kernel⟩
theorem c_L_move : CalH i_L_move 4 := ⟨k_414, k_0, k_415, by decide, by decide, by decide +kernel⟩
theorem c_L_breakPoints : CalH i_L_breakPoints 3 := ⟨k_434, k_0, k_435, by decide, by decide, by decide +kernel⟩
theorem c_L_tick : CalH i_L_tick 2 := ⟨k_442, k_0, k_443, by decide, by decide, by decide +kernel⟩
theorem c_L_off : CalH i_L_off 3 := ⟨k_462, k_0, k_463, by decide, by decide, by decide +kernel⟩
theorem c_L_clash : CalH i_L_clash 4 := ⟨k_470, k_0, k_471, by decide, by decide, by decide +kernel⟩
theorem c_L_about : CalH i_L_about 4 := ⟨k_478, k_0, k_479, by decide, by decide, by decide +kernel⟩
theorem c_L_track : CalH i_L_track 4 := ⟨k_486, k_0, k_487, by decide, by decide, by decide +kernel⟩
theorem t_L_section {E : wE} {m : wM} {f : wF} {w : Int64} {b : Nat} (hI : Iv m) (hC : Rc m f) (hE : (wl E).stackTraces = false) (hb : b ≤ 1) : CtH E i_L_section 7 1 6 [.ref (wB E + 0), .int (nI b), .ref (wB E + 56)] f g0 w 57 (LHp f w (if m 39 1 = 12 then 1 else 0) m (secM m b) (nI (m 39 1)).toInt64) NXw := by
  have hW := hI.1.W
  have h12 := hW.S
  have h8 := hW.R
  refine ct_ofH rfl rfl (show 3 ≤ 4 by decide) ?_
  refine e_aload_n (dat d_L_section 0 rfl) 2 rfl rfl ?_
  refine n_iconst (dat d_L_section 1 rfl) 0 rfl ?_
  refine e_aload_n (dat d_L_section 2 rfl) 0 rfl rfl ?_
  refine e_iload_n (dat d_L_section 3 rfl) 1 rfl rfl ?_
  refine q_call (t_F_section hW hC hb hE) c_F_section (dat d_L_section 4 rfl) rfl k_123 rfl rfl (by decide) (by omega) rfl (show 2 ≤ 8 by decide) ⟨show 7 ≤ 7 by decide, show 202 ≤ 210 by decide⟩ ⟨show 1 ≤ 1 by decide, show 6 ≤ 6 by decide⟩ (fun v9 f9 h9 => ?_) (fun X9 h9 => ?_)
  · obtain ⟨hc0, rfl, hC9, hk9⟩ := h9
    have hkh : (if m 39 1 = 12 then 1 else 0) = 0 := by
      by_cases e : m 39 1 = 12
      · rw [if_pos e] at hc0
        exact absurd hc0 (by decide)
      · rw [if_neg e]
    refine e_i2l (dat d_L_section 5 rfl) ?_
    refine e_last (dat d_L_section 6 rfl) (by decide) ?_
    refine e_goto (dat d_L_section 7 rfl) (tgt := 15) (by decide) ?_
    refine n_iconst (dat d_L_section 11 rfl) 0 rfl ?_
    exact e_iret (dat d_L_section 12 rfl) rfl (show 1 ≤ 1 by decide) (show 6 ≤ 6 by decide) (lh_0 hkh hk9 rfl hC9)
  · rcases h9 with ⟨h1, rfl⟩ | ⟨h1, rfl⟩ | ⟨h1, rfl⟩
    · by_cases e : m 39 1 = 12
      · rw [if_pos e] at h1
        exact absurd h1 (by decide)
      · rw [if_neg e] at h1
        exact absurd h1 (by decide) -- 1
    · by_cases e : m 39 1 = 12
      · rw [if_pos e] at h1
        exact absurd h1 (by decide)
      · rw [if_neg e] at h1
        exact absurd h1 (by decide) -- 2
    · have hkh : (if m 39 1 = 12 then 1 else 0) = 1 := by
        by_cases e : m 39 1 = 12
        · rw [if_pos e]
        · rw [if_neg e] at h1
          exact absurd h1 (by decide)
      refine x_catch (X := "java/lang/IllegalStateException") (by decide +kernel) [] [] 0 9 12 13 rfl (fun z hz => nomatch hz) (by decide) (by decide) k_122 (fun q9 => ?_)
      refine e_astore_n (dat d_L_section 8 rfl) rfl (show 3 < 4 by decide) (lv2 := [(3, _), (0, _), (1, _), (2, _)]) rfl ?_
      refine n_iconst (dat d_L_section 9 rfl) 1 rfl ?_
      exact e_iret (dat d_L_section 10 rfl) rfl (show 1 ≤ 1 by decide) (show 6 ≤ 6 by decide) (lh_x hkh (by decide) hC)
theorem t_L_route {E : wE} {m : wM} {f : wF} {w : Int64} {x y z : Int32} (hI : Iv m) (hC : Rc m f) (hE : (wl E).stackTraces = false)  : CtH E i_L_route 7 1 6 [.ref (wB E + 0), .int x, .int y, .int z, .ref (wB E + 56)] f g0 w 57 (LHp f w (kRte m x y z) m (rteM m (ix x) (ixa y) (ix z)) (nI (m 39 7)).toInt64) NXw := by
  have hW := hI.1.W
  have h12 := hW.S
  have h8 := hW.R
  refine ct_ofH rfl rfl (show 5 ≤ 6 by decide) ?_
  refine e_aload (dat d_L_route 0 rfl) 4 rfl ?_
  refine n_iconst (dat d_L_route 1 rfl) 0 rfl ?_
  refine e_aload_n (dat d_L_route 2 rfl) 0 rfl rfl ?_
  refine e_iload_n (dat d_L_route 3 rfl) 1 rfl rfl ?_
  refine e_iload_n (dat d_L_route 4 rfl) 2 rfl rfl ?_
  refine e_iload_n (dat d_L_route 5 rfl) 3 rfl rfl ?_
  refine q_call (t_F_route hW hC hE) c_F_route (dat d_L_route 6 rfl) rfl k_204 rfl rfl (by decide) (by omega) rfl (show 2 ≤ 8 by decide) ⟨show 7 ≤ 7 by decide, show 204 ≤ 210 by decide⟩ ⟨show 1 ≤ 1 by decide, show 6 ≤ 6 by decide⟩ (fun v9 f9 h9 => ?_) (fun X9 h9 => ?_)
  · obtain ⟨hc0, sg, ap, dl, rfl, rfl, rfl, h1, h2, h3, h4, h5, rfl, hC9, hk9⟩ := h9
    rw [← ix_nI (show sg < 64 by omega), ← ixa_ap (show ap < 64 by omega), ← ix_nI (show dl < 64 by omega)] at hC9
    have hkh := hc0
    refine e_i2l (dat d_L_route 7 rfl) ?_
    refine e_last (dat d_L_route 8 rfl) (by decide) ?_
    refine e_goto (dat d_L_route 9 rfl) (tgt := 27) (by decide) ?_
    refine n_iconst (dat d_L_route 19 rfl) 0 rfl ?_
    exact e_iret (dat d_L_route 20 rfl) rfl (show 1 ≤ 1 by decide) (show 6 ≤ 6 by decide) (lh_0 hkh hk9 rfl hC9)
  · rcases h9 with ⟨h1, rfl⟩ | ⟨h1, rfl⟩ | ⟨h1, rfl⟩
    · have hkh : (kRte m x y z) = 1 := h1
      refine x_catch (X := "java/lang/IndexOutOfBoundsException") (by decide +kernel) [] [(0, 12, 19, 21), (0, 12, 23, 13)] 0 12 15 19 rfl (fun z hz => nomatch hz) (by decide) (by decide) k_202 (fun q9 => ?_)
      refine e_astore (dat d_L_route 10 rfl) (show 5 < 6 by decide) (lv2 := [(5, _), (0, _), (1, _), (2, _), (3, _), (4, _)]) rfl ?_
      refine n_iconst (dat d_L_route 11 rfl) 1 rfl ?_
      exact e_iret (dat d_L_route 12 rfl) rfl (show 1 ≤ 1 by decide) (show 6 ≤ 6 by decide) (lh_x hkh (by decide) hC)
    · have hkh : (kRte m x y z) = 2 := h1
      refine x_catch (X := "java/lang/IllegalArgumentException") (by decide +kernel) [(0, 12, 15, 19)] [(0, 12, 23, 13)] 0 12 19 21 rfl (List.forall_mem_cons.mpr ⟨⟨by decide, "java/lang/IndexOutOfBoundsException", by decide +kernel, by decide +kernel, k_202⟩, (fun z hz => nomatch hz)⟩) (by decide) (by decide) k_203 (fun q9 => ?_)
      refine e_astore (dat d_L_route 13 rfl) (show 5 < 6 by decide) (lv2 := [(5, _), (0, _), (1, _), (2, _), (3, _), (4, _)]) rfl ?_
      refine n_iconst (dat d_L_route 14 rfl) 2 rfl ?_
      exact e_iret (dat d_L_route 15 rfl) rfl (show 1 ≤ 1 by decide) (show 6 ≤ 6 by decide) (lh_x hkh (by decide) hC)
    · have hkh : (kRte m x y z) = 3 := h1
      refine x_catch (X := "java/lang/IllegalStateException") (by decide +kernel) [(0, 12, 15, 19), (0, 12, 19, 21)] [] 0 12 23 13 rfl (List.forall_mem_cons.mpr ⟨⟨by decide, "java/lang/IndexOutOfBoundsException", by decide +kernel, by decide +kernel, k_202⟩, (List.forall_mem_cons.mpr ⟨⟨by decide, "java/lang/IllegalArgumentException", by decide +kernel, by decide +kernel, k_203⟩, (fun z hz => nomatch hz)⟩)⟩) (by decide) (by decide) k_122 (fun q9 => ?_)
      refine e_astore (dat d_L_route 16 rfl) (show 5 < 6 by decide) (lv2 := [(5, _), (0, _), (1, _), (2, _), (3, _), (4, _)]) rfl ?_
      refine n_iconst (dat d_L_route 17 rfl) 3 rfl ?_
      exact e_iret (dat d_L_route 18 rfl) rfl (show 1 ≤ 1 by decide) (show 6 ≤ 6 by decide) (lh_x hkh (by decide) hC)
theorem t_L_use {E : wE} {m : wM} {f : wF} {w : Int64} {x y z : Int32} (hI : Iv m) (hC : Rc m f) (hE : (wl E).stackTraces = false)  : CtH E i_L_use 8 3 18 [.ref (wB E + 0), .int x, .int y, .int z] f g0 w 57 (LHp f w (kUse m x y z) m (useM m (ix x) (ix y) (ix z)) w) NXw := by
  have hW := hI.1.W
  have h12 := hW.S
  have h8 := hW.R
  refine ct_ofH rfl rfl (show 4 ≤ 5 by decide) ?_
  refine e_aload_n (dat d_L_use 0 rfl) 0 rfl rfl ?_
  refine e_iload_n (dat d_L_use 1 rfl) 1 rfl rfl ?_
  refine e_iload_n (dat d_L_use 2 rfl) 2 rfl rfl ?_
  refine e_iload_n (dat d_L_use 3 rfl) 3 rfl rfl ?_
  refine q_call (t_F_use hW hC (fun r k hr hk => (hI.1.U r k hr hk).2.2.2.1) hE) c_F_use (dat d_L_use 4 rfl) rfl k_259 rfl rfl (by decide) (by omega) rfl (show 0 ≤ 8 by decide) ⟨show 8 ≤ 8 by decide, show 235 ≤ 240 by decide⟩ ⟨show 3 ≤ 3 by decide, show 18 ≤ 18 by decide⟩ (fun v9 f9 h9 => ?_) (fun X9 h9 => ?_)
  · obtain ⟨hc0, r, i, c, h1, h2, h3, rfl, rfl, rfl, h4, rfl, hC9, hk9⟩ := h9
    rw [← ix_nI (show r < 64 by omega), ← ix_nI (show i < 64 by omega), ← ix_nI (show c < 64 by omega)] at hC9
    have hkh := hc0
    refine e_goto (dat d_L_use 5 rfl) (tgt := 22) (by decide) ?_
    refine n_iconst (dat d_L_use 15 rfl) 0 rfl ?_
    exact e_iret (dat d_L_use 16 rfl) rfl (show 3 ≤ 3 by decide) (show 18 ≤ 18 by decide) (lh_0 hkh hk9 rfl hC9)
  · rcases h9 with ⟨h1, rfl⟩ | ⟨h1, rfl⟩ | ⟨h1, rfl⟩
    · have hkh : (kUse m x y z) = 1 := h1
      refine x_catch (X := "java/lang/IndexOutOfBoundsException") (by decide +kernel) [] [(0, 7, 14, 21), (0, 7, 18, 13)] 0 7 10 19 rfl (fun z hz => nomatch hz) (by decide) (by decide) k_202 (fun q9 => ?_)
      refine e_astore (dat d_L_use 6 rfl) (show 4 < 5 by decide) (lv2 := [(4, _), (0, _), (1, _), (2, _), (3, _)]) rfl ?_
      refine n_iconst (dat d_L_use 7 rfl) 1 rfl ?_
      exact e_iret (dat d_L_use 8 rfl) rfl (show 3 ≤ 3 by decide) (show 18 ≤ 18 by decide) (lh_x hkh (by decide) hC)
    · have hkh : (kUse m x y z) = 2 := h1
      refine x_catch (X := "java/lang/IllegalArgumentException") (by decide +kernel) [(0, 7, 10, 19)] [(0, 7, 18, 13)] 0 7 14 21 rfl (List.forall_mem_cons.mpr ⟨⟨by decide, "java/lang/IndexOutOfBoundsException", by decide +kernel, by decide +kernel, k_202⟩, (fun z hz => nomatch hz)⟩) (by decide) (by decide) k_203 (fun q9 => ?_)
      refine e_astore (dat d_L_use 9 rfl) (show 4 < 5 by decide) (lv2 := [(4, _), (0, _), (1, _), (2, _), (3, _)]) rfl ?_
      refine n_iconst (dat d_L_use 10 rfl) 2 rfl ?_
      exact e_iret (dat d_L_use 11 rfl) rfl (show 3 ≤ 3 by decide) (show 18 ≤ 18 by decide) (lh_x hkh (by decide) hC)
    · have hkh : (kUse m x y z) = 3 := h1
      refine x_catch (X := "java/lang/IllegalStateException") (by decide +kernel) [(0, 7, 10, 19), (0, 7, 14, 21)] [] 0 7 18 13 rfl (List.forall_mem_cons.mpr ⟨⟨by decide, "java/lang/IndexOutOfBoundsException", by decide +kernel, by decide +kernel, k_202⟩, (List.forall_mem_cons.mpr ⟨⟨by decide, "java/lang/IllegalArgumentException", by decide +kernel, by decide +kernel, k_203⟩, (fun z hz => nomatch hz)⟩)⟩) (by decide) (by decide) k_122 (fun q9 => ?_)
      refine e_astore (dat d_L_use 12 rfl) (show 4 < 5 by decide) (lv2 := [(4, _), (0, _), (1, _), (2, _), (3, _)]) rfl ?_
      refine n_iconst (dat d_L_use 13 rfl) 3 rfl ?_
      exact e_iret (dat d_L_use 14 rfl) rfl (show 3 ≤ 3 by decide) (show 18 ≤ 18 by decide) (lh_x hkh (by decide) hC)
theorem t_L_request {E : wE} {m : wM} {f : wF} {w : Int64} {x : Int32} (hI : Iv m) (hC : Rc m f) (hE : (wl E).stackTraces = false)  : CtH E i_L_request 8 1 6 [.ref (wB E + 0), .int x, .ref (wB E + 56)] f g0 w 57 (LHp f w (kR1 m x) m (reqM m (ix x)) (nI (jdg m (ix x))).toInt64) NXw := by
  have hW := hI.1.W
  have h12 := hW.S
  have h8 := hW.R
  refine ct_ofH rfl rfl (show 3 ≤ 4 by decide) ?_
  refine e_aload_n (dat d_L_request 0 rfl) 2 rfl rfl ?_
  refine n_iconst (dat d_L_request 1 rfl) 0 rfl ?_
  refine e_aload_n (dat d_L_request 2 rfl) 0 rfl rfl ?_
  refine e_iload_n (dat d_L_request 3 rfl) 1 rfl rfl ?_
  refine q_call (t_F_request hI.1 hW hC hE) c_F_request (dat d_L_request 4 rfl) rfl k_292 rfl rfl (by decide) (by omega) rfl (show 2 ≤ 8 by decide) ⟨show 8 ≤ 8 by decide, show 233 ≤ 240 by decide⟩ ⟨show 1 ≤ 1 by decide, show 6 ≤ 6 by decide⟩ (fun v9 f9 h9 => ?_) (fun X9 h9 => ?_)
  · obtain ⟨hc0, rfl, hC9, hk9⟩ := h9
    have hkh := hc0
    refine e_i2l (dat d_L_request 5 rfl) ?_
    refine e_last (dat d_L_request 6 rfl) (by decide) ?_
    refine e_goto (dat d_L_request 7 rfl) (tgt := 15) (by decide) ?_
    refine n_iconst (dat d_L_request 11 rfl) 0 rfl ?_
    exact e_iret (dat d_L_request 12 rfl) rfl (show 1 ≤ 1 by decide) (show 6 ≤ 6 by decide) (lh_0 hkh hk9 rfl hC9)
  · rcases h9 with ⟨h1, rfl⟩ | ⟨h1, rfl⟩ | ⟨h1, rfl⟩
    · have hkh : (kR1 m x) = 1 := h1
      refine x_catch (X := "java/lang/IndexOutOfBoundsException") (by decide +kernel) [] [] 0 9 12 19 rfl (fun z hz => nomatch hz) (by decide) (by decide) k_202 (fun q9 => ?_)
      refine e_astore_n (dat d_L_request 8 rfl) rfl (show 3 < 4 by decide) (lv2 := [(3, _), (0, _), (1, _), (2, _)]) rfl ?_
      refine n_iconst (dat d_L_request 9 rfl) 1 rfl ?_
      exact e_iret (dat d_L_request 10 rfl) rfl (show 1 ≤ 1 by decide) (show 6 ≤ 6 by decide) (lh_x hkh (by decide) hC)
    · exact absurd h1 (kR1_n (by decide)) -- 2
    · exact absurd h1 (kR1_n (by decide)) -- 3
theorem t_L_cancel {E : wE} {m : wM} {f : wF} {w : Int64} {x : Int32} (hI : Iv m) (hC : Rc m f) (hE : (wl E).stackTraces = false)  : CtH E i_L_cancel 8 1 6 [.ref (wB E + 0), .int x, .ref (wB E + 56)] f g0 w 57 (LHp f w (kR1 m x) m (canM m (ix x)) (nI (canA m (ix x))).toInt64) NXw := by
  have hW := hI.1.W
  have h12 := hW.S
  have h8 := hW.R
  refine ct_ofH rfl rfl (show 3 ≤ 4 by decide) ?_
  refine e_aload_n (dat d_L_cancel 0 rfl) 2 rfl rfl ?_
  refine n_iconst (dat d_L_cancel 1 rfl) 0 rfl ?_
  refine e_aload_n (dat d_L_cancel 2 rfl) 0 rfl rfl ?_
  refine e_iload_n (dat d_L_cancel 3 rfl) 1 rfl rfl ?_
  refine q_call (t_F_cancel hW hC hE) c_F_cancel (dat d_L_cancel 4 rfl) rfl k_366 rfl rfl (by decide) (by omega) rfl (show 2 ≤ 8 by decide) ⟨show 8 ≤ 8 by decide, show 232 ≤ 240 by decide⟩ ⟨show 1 ≤ 1 by decide, show 6 ≤ 6 by decide⟩ (fun v9 f9 h9 => ?_) (fun X9 h9 => ?_)
  · obtain ⟨hc0, rfl, hC9, hk9⟩ := h9
    have hkh := hc0
    refine e_i2l (dat d_L_cancel 5 rfl) ?_
    refine e_last (dat d_L_cancel 6 rfl) (by decide) ?_
    refine e_goto (dat d_L_cancel 7 rfl) (tgt := 15) (by decide) ?_
    refine n_iconst (dat d_L_cancel 11 rfl) 0 rfl ?_
    exact e_iret (dat d_L_cancel 12 rfl) rfl (show 1 ≤ 1 by decide) (show 6 ≤ 6 by decide) (lh_0 hkh hk9 rfl hC9)
  · rcases h9 with ⟨h1, rfl⟩ | ⟨h1, rfl⟩ | ⟨h1, rfl⟩
    · have hkh : (kR1 m x) = 1 := h1
      refine x_catch (X := "java/lang/IndexOutOfBoundsException") (by decide +kernel) [] [] 0 9 12 19 rfl (fun z hz => nomatch hz) (by decide) (by decide) k_202 (fun q9 => ?_)
      refine e_astore_n (dat d_L_cancel 8 rfl) rfl (show 3 < 4 by decide) (lv2 := [(3, _), (0, _), (1, _), (2, _)]) rfl ?_
      refine n_iconst (dat d_L_cancel 9 rfl) 1 rfl ?_
      exact e_iret (dat d_L_cancel 10 rfl) rfl (show 1 ≤ 1 by decide) (show 6 ≤ 6 by decide) (lh_x hkh (by decide) hC)
    · exact absurd h1 (kR1_n (by decide)) -- 2
    · exact absurd h1 (kR1_n (by decide)) -- 3
theorem t_L_occupy {E : wE} {m : wM} {f : wF} {w : Int64} {x : Int32} (hI : Iv m) (hC : Rc m f) (hE : (wl E).stackTraces = false)  : CtH E i_L_occupy 8 1 6 [.ref (wB E + 0), .int x, .ref (wB E + 56)] f g0 w 57 (LHp f w (kS1 m x) m (occM m (ix x)) (nI (if m 41 (ix x) = 0 then 1 else 0)).toInt64) NXw := by
  have hW := hI.1.W
  have h12 := hW.S
  have h8 := hW.R
  refine ct_ofH rfl rfl (show 3 ≤ 4 by decide) ?_
  refine e_aload_n (dat d_L_occupy 0 rfl) 2 rfl rfl ?_
  refine n_iconst (dat d_L_occupy 1 rfl) 0 rfl ?_
  refine e_aload_n (dat d_L_occupy 2 rfl) 0 rfl rfl ?_
  refine e_iload_n (dat d_L_occupy 3 rfl) 1 rfl rfl ?_
  refine q_call (t_F_occupy hW hC hE) c_F_occupy (dat d_L_occupy 4 rfl) rfl k_378 rfl rfl (by decide) (by omega) rfl (show 2 ≤ 8 by decide) ⟨show 8 ≤ 8 by decide, show 232 ≤ 240 by decide⟩ ⟨show 1 ≤ 1 by decide, show 6 ≤ 6 by decide⟩ (fun v9 f9 h9 => ?_) (fun X9 h9 => ?_)
  · obtain ⟨hc0, rfl, hC9, hk9⟩ := h9
    have h01 : (if m 41 (ix x) = 0 then 1 else 0) ≤ 1 := by split <;> decide
    have hkh := hc0
    refine n_if_eq (dat d_L_occupy 5 rfl) (tgt := 14) (by decide) (Nat.lt_of_le_of_lt h01 (by decide)) (fun h7 => ?_) (fun h7 => ?_)
    · refine e_lconst (v := 0) (dat d_L_occupy 8 rfl) rfl ?_
      refine e_last (dat d_L_occupy 9 rfl) (by decide) ?_
      refine e_goto (dat d_L_occupy 10 rfl) (tgt := 22) (by decide) ?_
      refine n_iconst (dat d_L_occupy 14 rfl) 0 rfl ?_
      exact e_iret (dat d_L_occupy 15 rfl) rfl (show 1 ≤ 1 by decide) (show 6 ≤ 6 by decide) (lh_0 hkh hk9 ((l01 h01).1 h7) hC9)
    · refine e_lconst (v := 1) (dat d_L_occupy 6 rfl) rfl ?_
      refine e_goto (dat d_L_occupy 7 rfl) (tgt := 15) (by decide) ?_
      refine e_last (dat d_L_occupy 9 rfl) (by decide) ?_
      refine e_goto (dat d_L_occupy 10 rfl) (tgt := 22) (by decide) ?_
      refine n_iconst (dat d_L_occupy 14 rfl) 0 rfl ?_
      exact e_iret (dat d_L_occupy 15 rfl) rfl (show 1 ≤ 1 by decide) (show 6 ≤ 6 by decide) (lh_0 hkh hk9 ((l01 h01).2 h7) hC9)
  · rcases h9 with ⟨h1, rfl⟩ | ⟨h1, rfl⟩ | ⟨h1, rfl⟩
    · have hkh : (kS1 m x) = 1 := h1
      refine x_catch (X := "java/lang/IndexOutOfBoundsException") (by decide +kernel) [] [] 0 16 19 19 rfl (fun z hz => nomatch hz) (by decide) (by decide) k_202 (fun q9 => ?_)
      refine e_astore_n (dat d_L_occupy 11 rfl) rfl (show 3 < 4 by decide) (lv2 := [(3, _), (0, _), (1, _), (2, _)]) rfl ?_
      refine n_iconst (dat d_L_occupy 12 rfl) 1 rfl ?_
      exact e_iret (dat d_L_occupy 13 rfl) rfl (show 1 ≤ 1 by decide) (show 6 ≤ 6 by decide) (lh_x hkh (by decide) hC)
    · exact absurd h1 (kS1_n (by decide)) -- 2
    · exact absurd h1 (kS1_n (by decide)) -- 3
theorem t_L_vacate {E : wE} {m : wM} {f : wF} {w : Int64} {x : Int32} (hI : Iv m) (hC : Rc m f) (hE : (wl E).stackTraces = false)  : CtH E i_L_vacate 8 1 6 [.ref (wB E + 0), .int x, .ref (wB E + 56)] f g0 w 57 (LHp f w (kS1 m x) m (vacM m (ix x)) (nI (if m 41 (ix x) = 0 then 0 else 1)).toInt64) NXw := by
  have hW := hI.1.W
  have h12 := hW.S
  have h8 := hW.R
  refine ct_ofH rfl rfl (show 3 ≤ 4 by decide) ?_
  refine e_aload_n (dat d_L_vacate 0 rfl) 2 rfl rfl ?_
  refine n_iconst (dat d_L_vacate 1 rfl) 0 rfl ?_
  refine e_aload_n (dat d_L_vacate 2 rfl) 0 rfl rfl ?_
  refine e_iload_n (dat d_L_vacate 3 rfl) 1 rfl rfl ?_
  refine q_call (t_F_vacate hW hC hE) c_F_vacate (dat d_L_vacate 4 rfl) rfl k_397 rfl rfl (by decide) (by omega) rfl (show 2 ≤ 8 by decide) ⟨show 8 ≤ 8 by decide, show 233 ≤ 240 by decide⟩ ⟨show 1 ≤ 1 by decide, show 6 ≤ 6 by decide⟩ (fun v9 f9 h9 => ?_) (fun X9 h9 => ?_)
  · obtain ⟨hc0, rfl, hC9, hk9⟩ := h9
    have h01 : (if m 41 (ix x) = 0 then 0 else 1) ≤ 1 := by split <;> decide
    have hkh := hc0
    refine n_if_eq (dat d_L_vacate 5 rfl) (tgt := 14) (by decide) (Nat.lt_of_le_of_lt h01 (by decide)) (fun h7 => ?_) (fun h7 => ?_)
    · refine e_lconst (v := 0) (dat d_L_vacate 8 rfl) rfl ?_
      refine e_last (dat d_L_vacate 9 rfl) (by decide) ?_
      refine e_goto (dat d_L_vacate 10 rfl) (tgt := 22) (by decide) ?_
      refine n_iconst (dat d_L_vacate 14 rfl) 0 rfl ?_
      exact e_iret (dat d_L_vacate 15 rfl) rfl (show 1 ≤ 1 by decide) (show 6 ≤ 6 by decide) (lh_0 hkh hk9 ((l01 h01).1 h7) hC9)
    · refine e_lconst (v := 1) (dat d_L_vacate 6 rfl) rfl ?_
      refine e_goto (dat d_L_vacate 7 rfl) (tgt := 15) (by decide) ?_
      refine e_last (dat d_L_vacate 9 rfl) (by decide) ?_
      refine e_goto (dat d_L_vacate 10 rfl) (tgt := 22) (by decide) ?_
      refine n_iconst (dat d_L_vacate 14 rfl) 0 rfl ?_
      exact e_iret (dat d_L_vacate 15 rfl) rfl (show 1 ≤ 1 by decide) (show 6 ≤ 6 by decide) (lh_0 hkh hk9 ((l01 h01).2 h7) hC9)
  · rcases h9 with ⟨h1, rfl⟩ | ⟨h1, rfl⟩ | ⟨h1, rfl⟩
    · have hkh : (kS1 m x) = 1 := h1
      refine x_catch (X := "java/lang/IndexOutOfBoundsException") (by decide +kernel) [] [] 0 16 19 19 rfl (fun z hz => nomatch hz) (by decide) (by decide) k_202 (fun q9 => ?_)
      refine e_astore_n (dat d_L_vacate 11 rfl) rfl (show 3 < 4 by decide) (lv2 := [(3, _), (0, _), (1, _), (2, _)]) rfl ?_
      refine n_iconst (dat d_L_vacate 12 rfl) 1 rfl ?_
      exact e_iret (dat d_L_vacate 13 rfl) rfl (show 1 ≤ 1 by decide) (show 6 ≤ 6 by decide) (lh_x hkh (by decide) hC)
    · exact absurd h1 (kS1_n (by decide)) -- 2
    · exact absurd h1 (kS1_n (by decide)) -- 3
theorem t_L_move {E : wE} {m : wM} {f : wF} {w : Int64} {x y : Int32} (hI : Iv m) (hC : Rc m f) (hE : (wl E).stackTraces = false)  : CtH E i_L_move 8 2 12 [.ref (wB E + 0), .int x, .int y, .ref (wB E + 56)] f g0 w 57 (LHp f w (kMov m x y) m (movM m (ix x) (ix y)) (nI (movA m (ix x))).toInt64) NXw := by
  have hW := hI.1.W
  have h12 := hW.S
  have h8 := hW.R
  refine ct_ofH rfl rfl (show 4 ≤ 5 by decide) ?_
  refine e_aload_n (dat d_L_move 0 rfl) 3 rfl rfl ?_
  refine n_iconst (dat d_L_move 1 rfl) 0 rfl ?_
  refine e_aload_n (dat d_L_move 2 rfl) 0 rfl rfl ?_
  refine e_iload_n (dat d_L_move 3 rfl) 1 rfl rfl ?_
  refine e_iload_n (dat d_L_move 4 rfl) 2 rfl rfl ?_
  refine q_call (t_F_move hW hC hE) c_F_move (dat d_L_move 5 rfl) rfl k_416 rfl rfl (by decide) (by omega) rfl (show 2 ≤ 8 by decide) ⟨show 8 ≤ 8 by decide, show 233 ≤ 240 by decide⟩ ⟨show 2 ≤ 2 by decide, show 12 ≤ 12 by decide⟩ (fun v9 f9 h9 => ?_) (fun X9 h9 => ?_)
  · obtain ⟨hc0, rfl, hC9, hk9⟩ := h9
    have h01 : movA m (ix x) ≤ 1 := by unfold movA; split <;> decide
    have hkh := hc0
    refine n_if_eq (dat d_L_move 6 rfl) (tgt := 15) (by decide) (Nat.lt_of_le_of_lt h01 (by decide)) (fun h8 => ?_) (fun h8 => ?_)
    · refine e_lconst (v := 0) (dat d_L_move 9 rfl) rfl ?_
      refine e_last (dat d_L_move 10 rfl) (by decide) ?_
      refine e_goto (dat d_L_move 11 rfl) (tgt := 28) (by decide) ?_
      refine n_iconst (dat d_L_move 18 rfl) 0 rfl ?_
      exact e_iret (dat d_L_move 19 rfl) rfl (show 2 ≤ 2 by decide) (show 12 ≤ 12 by decide) (lh_0 hkh hk9 ((l01 h01).1 h8) hC9)
    · refine e_lconst (v := 1) (dat d_L_move 7 rfl) rfl ?_
      refine e_goto (dat d_L_move 8 rfl) (tgt := 16) (by decide) ?_
      refine e_last (dat d_L_move 10 rfl) (by decide) ?_
      refine e_goto (dat d_L_move 11 rfl) (tgt := 28) (by decide) ?_
      refine n_iconst (dat d_L_move 18 rfl) 0 rfl ?_
      exact e_iret (dat d_L_move 19 rfl) rfl (show 2 ≤ 2 by decide) (show 12 ≤ 12 by decide) (lh_0 hkh hk9 ((l01 h01).2 h8) hC9)
  · rcases h9 with ⟨h1, rfl⟩ | ⟨h1, rfl⟩ | ⟨h1, rfl⟩
    · have hkh : (kMov m x y) = 1 := h1
      refine x_catch (X := "java/lang/IndexOutOfBoundsException") (by decide +kernel) [] [(0, 17, 24, 21)] 0 17 20 19 rfl (fun z hz => nomatch hz) (by decide) (by decide) k_202 (fun q9 => ?_)
      refine e_astore (dat d_L_move 12 rfl) (show 4 < 5 by decide) (lv2 := [(4, _), (0, _), (1, _), (2, _), (3, _)]) rfl ?_
      refine n_iconst (dat d_L_move 13 rfl) 1 rfl ?_
      exact e_iret (dat d_L_move 14 rfl) rfl (show 2 ≤ 2 by decide) (show 12 ≤ 12 by decide) (lh_x hkh (by decide) hC)
    · have hkh : (kMov m x y) = 2 := h1
      refine x_catch (X := "java/lang/IllegalArgumentException") (by decide +kernel) [(0, 17, 20, 19)] [] 0 17 24 21 rfl (List.forall_mem_cons.mpr ⟨⟨by decide, "java/lang/IndexOutOfBoundsException", by decide +kernel, by decide +kernel, k_202⟩, (fun z hz => nomatch hz)⟩) (by decide) (by decide) k_203 (fun q9 => ?_)
      refine e_astore (dat d_L_move 15 rfl) (show 4 < 5 by decide) (lv2 := [(4, _), (0, _), (1, _), (2, _), (3, _)]) rfl ?_
      refine n_iconst (dat d_L_move 16 rfl) 2 rfl ?_
      exact e_iret (dat d_L_move 17 rfl) rfl (show 2 ≤ 2 by decide) (show 12 ≤ 12 by decide) (lh_x hkh (by decide) hC)
    · exact absurd h1 (kMov_n (by decide)) -- 3
theorem t_L_breakPoints {E : wE} {m : wM} {f : wF} {w : Int64} {x : Int32} {b : Nat} (hI : Iv m) (hC : Rc m f) (hE : (wl E).stackTraces = false) (hb : b ≤ 1) : CtH E i_L_breakPoints 8 2 12 [.ref (wB E + 0), .int x, .int (nI b)] f g0 w 57 (LHp f w (kBrk m x) m (ntN (um m 44 (ix x) b) (m 39 7)) w) NXw := by
  have hW := hI.1.W
  have h12 := hW.S
  have h8 := hW.R
  refine ct_ofH rfl rfl (show 3 ≤ 4 by decide) ?_
  refine e_aload_n (dat d_L_breakPoints 0 rfl) 0 rfl rfl ?_
  refine e_iload_n (dat d_L_breakPoints 1 rfl) 1 rfl rfl ?_
  refine e_iload_n (dat d_L_breakPoints 2 rfl) 2 rfl rfl ?_
  refine q_call (t_F_breakPoints hW hC hb hE) c_F_breakPoints (dat d_L_breakPoints 3 rfl) rfl k_436 rfl rfl (by decide) (by omega) rfl (show 0 ≤ 8 by decide) ⟨show 8 ≤ 8 by decide, show 233 ≤ 240 by decide⟩ ⟨show 2 ≤ 2 by decide, show 12 ≤ 12 by decide⟩ (fun v9 f9 h9 => ?_) (fun X9 h9 => ?_)
  · obtain ⟨hc0, rfl, hC9, hk9⟩ := h9
    have hkh := hc0
    refine e_goto (dat d_L_breakPoints 4 rfl) (tgt := 15) (by decide) ?_
    refine n_iconst (dat d_L_breakPoints 11 rfl) 0 rfl ?_
    exact e_iret (dat d_L_breakPoints 12 rfl) rfl (show 2 ≤ 2 by decide) (show 12 ≤ 12 by decide) (lh_0 hkh hk9 rfl hC9)
  · rcases h9 with ⟨h1, rfl⟩ | ⟨h1, rfl⟩ | ⟨h1, rfl⟩
    · have hkh : (kBrk m x) = 1 := h1
      refine x_catch (X := "java/lang/IndexOutOfBoundsException") (by decide +kernel) [] [(0, 6, 12, 21)] 0 6 9 19 rfl (fun z hz => nomatch hz) (by decide) (by decide) k_202 (fun q9 => ?_)
      refine e_astore_n (dat d_L_breakPoints 5 rfl) rfl (show 3 < 4 by decide) (lv2 := [(3, _), (0, _), (1, _), (2, _)]) rfl ?_
      refine n_iconst (dat d_L_breakPoints 6 rfl) 1 rfl ?_
      exact e_iret (dat d_L_breakPoints 7 rfl) rfl (show 2 ≤ 2 by decide) (show 12 ≤ 12 by decide) (lh_x hkh (by decide) hC)
    · have hkh : (kBrk m x) = 2 := h1
      refine x_catch (X := "java/lang/IllegalArgumentException") (by decide +kernel) [(0, 6, 9, 19)] [] 0 6 12 21 rfl (List.forall_mem_cons.mpr ⟨⟨by decide, "java/lang/IndexOutOfBoundsException", by decide +kernel, by decide +kernel, k_202⟩, (fun z hz => nomatch hz)⟩) (by decide) (by decide) k_203 (fun q9 => ?_)
      refine e_astore_n (dat d_L_breakPoints 8 rfl) rfl (show 3 < 4 by decide) (lv2 := [(3, _), (0, _), (1, _), (2, _)]) rfl ?_
      refine n_iconst (dat d_L_breakPoints 9 rfl) 2 rfl ?_
      exact e_iret (dat d_L_breakPoints 10 rfl) rfl (show 2 ≤ 2 by decide) (show 12 ≤ 12 by decide) (lh_x hkh (by decide) hC)
    · exact absurd h1 (kBrk_n (by decide)) -- 3
theorem t_L_tick {E : wE} {m : wM} {f : wF} {w : Int64} {x : Int32} (hI : Iv m) (hC : Rc m f) (hE : (wl E).stackTraces = false)  : CtH E i_L_tick 7 1 6 [.ref (wB E + 0), .int x] f g0 w 57 (LHp f w (if kTck x = 0 then 0 else 1) m (ntN (tks m (ix x)) (m 39 7)) w) NXw := by
  have hW := hI.1.W
  have h12 := hW.S
  have h8 := hW.R
  refine ct_ofH rfl rfl (show 2 ≤ 3 by decide) ?_
  refine e_aload_n (dat d_L_tick 0 rfl) 0 rfl rfl ?_
  refine e_iload_n (dat d_L_tick 1 rfl) 1 rfl rfl ?_
  refine q_call (t_F_tick hI.1 hW hC hE) c_F_tick (dat d_L_tick 2 rfl) rfl k_444 rfl rfl (by decide) (by omega) rfl (show 0 ≤ 8 by decide) ⟨show 7 ≤ 7 by decide, show 202 ≤ 210 by decide⟩ ⟨show 1 ≤ 1 by decide, show 6 ≤ 6 by decide⟩ (fun v9 f9 h9 => ?_) (fun X9 h9 => ?_)
  · obtain ⟨hc0, rfl, hC9, hk9⟩ := h9
    have hkh : (if kTck x = 0 then 0 else 1) = 0 := if_pos hc0
    refine e_goto (dat d_L_tick 3 rfl) (tgt := 11) (by decide) ?_
    refine n_iconst (dat d_L_tick 7 rfl) 0 rfl ?_
    exact e_iret (dat d_L_tick 8 rfl) rfl (show 1 ≤ 1 by decide) (show 6 ≤ 6 by decide) (lh_0 hkh hk9 rfl hC9)
  · rcases h9 with ⟨h1, rfl⟩ | ⟨h1, rfl⟩ | ⟨h1, rfl⟩
    · exact absurd h1 (kTck_n (by decide)) -- 1
    · have hkh : (if kTck x = 0 then 0 else 1) = 1 := by rw [h1]; decide
      refine x_catch (X := "java/lang/IllegalArgumentException") (by decide +kernel) [] [] 0 5 8 21 rfl (fun z hz => nomatch hz) (by decide) (by decide) k_203 (fun q9 => ?_)
      refine e_astore_n (dat d_L_tick 4 rfl) rfl (show 2 < 3 by decide) (lv2 := [(2, _), (0, _), (1, _)]) rfl ?_
      refine n_iconst (dat d_L_tick 5 rfl) 1 rfl ?_
      exact e_iret (dat d_L_tick 6 rfl) rfl (show 1 ≤ 1 by decide) (show 6 ≤ 6 by decide) (lh_x hkh (by decide) hC)
    · exact absurd h1 (kTck_n (by decide)) -- 3
theorem t_L_off {E : wE} {m : wM} {f : wF} {w : Int64} {x : Int32} (hI : Iv m) (hC : Rc m f) (hE : (wl E).stackTraces = false)  : CtH E i_L_off 7 1 6 [.ref (wB E + 0), .int x, .ref (wB E + 56)] f g0 w 57 (LHp f w (kOff x) m m (nI (if ∀ r, r < m 39 7 → ¬ (m 45 r = ix x ∧ m 48 r = 1 ∧ clrP m r ∧ fndP m r) then 0 else 1)).toInt64) NXw := by
  have hW := hI.1.W
  have h12 := hW.S
  have h8 := hW.R
  refine ct_ofH rfl rfl (show 3 ≤ 4 by decide) ?_
  refine e_aload_n (dat d_L_off 0 rfl) 2 rfl rfl ?_
  refine n_iconst (dat d_L_off 1 rfl) 0 rfl ?_
  refine e_aload_n (dat d_L_off 2 rfl) 0 rfl rfl ?_
  refine e_iload_n (dat d_L_off 3 rfl) 1 rfl rfl ?_
  refine q_call (t_F_off hW hC hE) c_F_off (dat d_L_off 4 rfl) rfl k_464 rfl rfl (by decide) (by omega) rfl (show 2 ≤ 8 by decide) ⟨show 7 ≤ 7 by decide, show 201 ≤ 210 by decide⟩ ⟨show 1 ≤ 1 by decide, show 6 ≤ 6 by decide⟩ (fun v9 f9 h9 => ?_) (fun X9 h9 => ?_)
  · obtain ⟨hc0, rfl, hC9, hk9⟩ := h9
    have h01 : (if ∀ r, r < m 39 7 → ¬ (m 45 r = ix x ∧ m 48 r = 1 ∧ clrP m r ∧ fndP m r) then 0 else 1) ≤ 1 := by split <;> decide
    have hkh := hc0
    refine n_if_eq (dat d_L_off 5 rfl) (tgt := 14) (by decide) (Nat.lt_of_le_of_lt h01 (by decide)) (fun h7 => ?_) (fun h7 => ?_)
    · refine e_lconst (v := 0) (dat d_L_off 8 rfl) rfl ?_
      refine e_last (dat d_L_off 9 rfl) (by decide) ?_
      refine e_goto (dat d_L_off 10 rfl) (tgt := 22) (by decide) ?_
      refine n_iconst (dat d_L_off 14 rfl) 0 rfl ?_
      exact e_iret (dat d_L_off 15 rfl) rfl (show 1 ≤ 1 by decide) (show 6 ≤ 6 by decide) (lh_0 hkh hk9 ((l01 h01).1 h7) hC9)
    · refine e_lconst (v := 1) (dat d_L_off 6 rfl) rfl ?_
      refine e_goto (dat d_L_off 7 rfl) (tgt := 15) (by decide) ?_
      refine e_last (dat d_L_off 9 rfl) (by decide) ?_
      refine e_goto (dat d_L_off 10 rfl) (tgt := 22) (by decide) ?_
      refine n_iconst (dat d_L_off 14 rfl) 0 rfl ?_
      exact e_iret (dat d_L_off 15 rfl) rfl (show 1 ≤ 1 by decide) (show 6 ≤ 6 by decide) (lh_0 hkh hk9 ((l01 h01).2 h7) hC9)
  · rcases h9 with ⟨h1, rfl⟩ | ⟨h1, rfl⟩ | ⟨h1, rfl⟩
    · have hkh : (kOff x) = 1 := h1
      refine x_catch (X := "java/lang/IndexOutOfBoundsException") (by decide +kernel) [] [] 0 16 19 19 rfl (fun z hz => nomatch hz) (by decide) (by decide) k_202 (fun q9 => ?_)
      refine e_astore_n (dat d_L_off 11 rfl) rfl (show 3 < 4 by decide) (lv2 := [(3, _), (0, _), (1, _), (2, _)]) rfl ?_
      refine n_iconst (dat d_L_off 12 rfl) 1 rfl ?_
      exact e_iret (dat d_L_off 13 rfl) rfl (show 1 ≤ 1 by decide) (show 6 ≤ 6 by decide) (lh_x hkh (by decide) hC)
    · exact absurd h1 (kOff_n (by decide)) -- 2
    · exact absurd h1 (kOff_n (by decide)) -- 3
theorem t_L_clash {E : wE} {m : wM} {f : wF} {w : Int64} {x y : Int32} (hI : Iv m) (hC : Rc m f) (hE : (wl E).stackTraces = false)  : CtH E i_L_clash 8 2 12 [.ref (wB E + 0), .int x, .int y, .ref (wB E + 56)] f g0 w 57 (LHp f w (kCla m x y) m m (nI (claA m (ix x) (ix y))).toInt64) NXw := by
  have hW := hI.1.W
  have h12 := hW.S
  have h8 := hW.R
  refine ct_ofH rfl rfl (show 4 ≤ 5 by decide) ?_
  refine e_aload_n (dat d_L_clash 0 rfl) 3 rfl rfl ?_
  refine n_iconst (dat d_L_clash 1 rfl) 0 rfl ?_
  refine e_aload_n (dat d_L_clash 2 rfl) 0 rfl rfl ?_
  refine e_iload_n (dat d_L_clash 3 rfl) 1 rfl rfl ?_
  refine e_iload_n (dat d_L_clash 4 rfl) 2 rfl rfl ?_
  refine q_call (t_F_clash hW hC hE) c_F_clash (dat d_L_clash 5 rfl) rfl k_472 rfl rfl (by decide) (by omega) rfl (show 2 ≤ 8 by decide) ⟨show 8 ≤ 8 by decide, show 234 ≤ 240 by decide⟩ ⟨show 2 ≤ 2 by decide, show 12 ≤ 12 by decide⟩ (fun v9 f9 h9 => ?_) (fun X9 h9 => ?_)
  · obtain ⟨hc0, rfl, hC9, hk9⟩ := h9
    have h01 : claA m (ix x) (ix y) ≤ 1 := by unfold claA; split <;> decide
    have hkh := hc0
    refine n_if_eq (dat d_L_clash 6 rfl) (tgt := 15) (by decide) (Nat.lt_of_le_of_lt h01 (by decide)) (fun h8 => ?_) (fun h8 => ?_)
    · refine e_lconst (v := 0) (dat d_L_clash 9 rfl) rfl ?_
      refine e_last (dat d_L_clash 10 rfl) (by decide) ?_
      refine e_goto (dat d_L_clash 11 rfl) (tgt := 24) (by decide) ?_
      refine n_iconst (dat d_L_clash 15 rfl) 0 rfl ?_
      exact e_iret (dat d_L_clash 16 rfl) rfl (show 2 ≤ 2 by decide) (show 12 ≤ 12 by decide) (lh_0 hkh hk9 ((l01 h01).1 h8) hC9)
    · refine e_lconst (v := 1) (dat d_L_clash 7 rfl) rfl ?_
      refine e_goto (dat d_L_clash 8 rfl) (tgt := 16) (by decide) ?_
      refine e_last (dat d_L_clash 10 rfl) (by decide) ?_
      refine e_goto (dat d_L_clash 11 rfl) (tgt := 24) (by decide) ?_
      refine n_iconst (dat d_L_clash 15 rfl) 0 rfl ?_
      exact e_iret (dat d_L_clash 16 rfl) rfl (show 2 ≤ 2 by decide) (show 12 ≤ 12 by decide) (lh_0 hkh hk9 ((l01 h01).2 h8) hC9)
  · rcases h9 with ⟨h1, rfl⟩ | ⟨h1, rfl⟩ | ⟨h1, rfl⟩
    · have hkh : (kCla m x y) = 1 := h1
      refine x_catch (X := "java/lang/IndexOutOfBoundsException") (by decide +kernel) [] [] 0 17 20 19 rfl (fun z hz => nomatch hz) (by decide) (by decide) k_202 (fun q9 => ?_)
      refine e_astore (dat d_L_clash 12 rfl) (show 4 < 5 by decide) (lv2 := [(4, _), (0, _), (1, _), (2, _), (3, _)]) rfl ?_
      refine n_iconst (dat d_L_clash 13 rfl) 1 rfl ?_
      exact e_iret (dat d_L_clash 14 rfl) rfl (show 2 ≤ 2 by decide) (show 12 ≤ 12 by decide) (lh_x hkh (by decide) hC)
    · exact absurd h1 (kCla_n (by decide)) -- 2
    · exact absurd h1 (kCla_n (by decide)) -- 3
theorem t_L_about {E : wE} {m : wM} {f : wF} {w : Int64} {x y : Int32} (hI : Iv m) (hC : Rc m f) (hE : (wl E).stackTraces = false)  : CtH E i_L_about 8 2 12 [.ref (wB E + 0), .int x, .int y, .ref (wB E + 56)] f g0 w 57 (LHp f w (kAbt m x y) m m (nI (abtA m (ix x) (ix y))).toInt64) NXw := by
  have hW := hI.1.W
  have h12 := hW.S
  have h8 := hW.R
  refine ct_ofH rfl rfl (show 4 ≤ 5 by decide) ?_
  refine e_aload_n (dat d_L_about 0 rfl) 3 rfl rfl ?_
  refine n_iconst (dat d_L_about 1 rfl) 0 rfl ?_
  refine e_aload_n (dat d_L_about 2 rfl) 0 rfl rfl ?_
  refine e_iload_n (dat d_L_about 3 rfl) 1 rfl rfl ?_
  refine e_iload_n (dat d_L_about 4 rfl) 2 rfl rfl ?_
  refine q_call (t_F_about hW hC hE) c_F_about (dat d_L_about 5 rfl) rfl k_480 rfl rfl (by decide) (by omega) rfl (show 2 ≤ 8 by decide) ⟨show 8 ≤ 8 by decide, show 233 ≤ 240 by decide⟩ ⟨show 2 ≤ 2 by decide, show 12 ≤ 12 by decide⟩ (fun v9 f9 h9 => ?_) (fun X9 h9 => ?_)
  · obtain ⟨hc0, rfl, hC9, hk9⟩ := h9
    have hkh := hc0
    refine e_i2l (dat d_L_about 6 rfl) ?_
    refine e_last (dat d_L_about 7 rfl) (by decide) ?_
    refine e_goto (dat d_L_about 8 rfl) (tgt := 21) (by decide) ?_
    refine n_iconst (dat d_L_about 15 rfl) 0 rfl ?_
    exact e_iret (dat d_L_about 16 rfl) rfl (show 2 ≤ 2 by decide) (show 12 ≤ 12 by decide) (lh_0 hkh hk9 rfl hC9)
  · rcases h9 with ⟨h1, rfl⟩ | ⟨h1, rfl⟩ | ⟨h1, rfl⟩
    · have hkh : (kAbt m x y) = 1 := h1
      refine x_catch (X := "java/lang/IndexOutOfBoundsException") (by decide +kernel) [] [(0, 10, 17, 21)] 0 10 13 19 rfl (fun z hz => nomatch hz) (by decide) (by decide) k_202 (fun q9 => ?_)
      refine e_astore (dat d_L_about 9 rfl) (show 4 < 5 by decide) (lv2 := [(4, _), (0, _), (1, _), (2, _), (3, _)]) rfl ?_
      refine n_iconst (dat d_L_about 10 rfl) 1 rfl ?_
      exact e_iret (dat d_L_about 11 rfl) rfl (show 2 ≤ 2 by decide) (show 12 ≤ 12 by decide) (lh_x hkh (by decide) hC)
    · have hkh : (kAbt m x y) = 2 := h1
      refine x_catch (X := "java/lang/IllegalArgumentException") (by decide +kernel) [(0, 10, 13, 19)] [] 0 10 17 21 rfl (List.forall_mem_cons.mpr ⟨⟨by decide, "java/lang/IndexOutOfBoundsException", by decide +kernel, by decide +kernel, k_202⟩, (fun z hz => nomatch hz)⟩) (by decide) (by decide) k_203 (fun q9 => ?_)
      refine e_astore (dat d_L_about 12 rfl) (show 4 < 5 by decide) (lv2 := [(4, _), (0, _), (1, _), (2, _), (3, _)]) rfl ?_
      refine n_iconst (dat d_L_about 13 rfl) 2 rfl ?_
      exact e_iret (dat d_L_about 14 rfl) rfl (show 2 ≤ 2 by decide) (show 12 ≤ 12 by decide) (lh_x hkh (by decide) hC)
    · exact absurd h1 (kAbt_n (by decide)) -- 3
theorem t_L_track {E : wE} {m : wM} {f : wF} {w : Int64} {x y : Int32} (hI : Iv m) (hC : Rc m f) (hE : (wl E).stackTraces = false)  : CtH E i_L_track 8 2 12 [.ref (wB E + 0), .int x, .int y, .ref (wB E + 56)] f g0 w 57 (fun v u => ∃ t : Int32, (kTrk m x y = 0 → trkR m (ix x) (ix y) t) ∧ (LHp f w (kTrk m x y) m m t.toInt64) v u) NXw := by
  have hW := hI.1.W
  have h12 := hW.S
  have h8 := hW.R
  refine ct_ofH rfl rfl (show 4 ≤ 5 by decide) ?_
  refine e_aload_n (dat d_L_track 0 rfl) 3 rfl rfl ?_
  refine n_iconst (dat d_L_track 1 rfl) 0 rfl ?_
  refine e_aload_n (dat d_L_track 2 rfl) 0 rfl rfl ?_
  refine e_iload_n (dat d_L_track 3 rfl) 1 rfl rfl ?_
  refine e_iload_n (dat d_L_track 4 rfl) 2 rfl rfl ?_
  refine q_call (t_F_track hW hC hE) c_F_track (dat d_L_track 5 rfl) rfl k_488 rfl rfl (by decide) (by omega) rfl (show 2 ≤ 8 by decide) ⟨show 8 ≤ 8 by decide, show 233 ≤ 240 by decide⟩ ⟨show 2 ≤ 2 by decide, show 12 ≤ 12 by decide⟩ (fun v9 f9 h9 => ?_) (fun X9 h9 => ?_)
  · obtain ⟨hc0, ⟨t, rfl, ht⟩, hC9, hk9⟩ := h9
    have hkh := hc0
    refine e_i2l (dat d_L_track 6 rfl) ?_
    refine e_last (dat d_L_track 7 rfl) (by decide) ?_
    refine e_goto (dat d_L_track 8 rfl) (tgt := 21) (by decide) ?_
    refine n_iconst (dat d_L_track 15 rfl) 0 rfl ?_
    exact e_iret (dat d_L_track 16 rfl) rfl (show 2 ≤ 2 by decide) (show 12 ≤ 12 by decide) ⟨t, fun _ => ht, (lh_0 hkh hk9 rfl hC9)⟩
  · rcases h9 with ⟨h1, rfl⟩ | ⟨h1, rfl⟩ | ⟨h1, rfl⟩
    · have hkh : (kTrk m x y) = 1 := h1
      refine x_catch (X := "java/lang/IndexOutOfBoundsException") (by decide +kernel) [] [(0, 10, 17, 21)] 0 10 13 19 rfl (fun z hz => nomatch hz) (by decide) (by decide) k_202 (fun q9 => ?_)
      refine e_astore (dat d_L_track 9 rfl) (show 4 < 5 by decide) (lv2 := [(4, _), (0, _), (1, _), (2, _), (3, _)]) rfl ?_
      refine n_iconst (dat d_L_track 10 rfl) 1 rfl ?_
      exact e_iret (dat d_L_track 11 rfl) rfl (show 2 ≤ 2 by decide) (show 12 ≤ 12 by decide) ⟨0, fun h => absurd (h.symm.trans hkh) (by decide), (lh_x hkh (by decide) hC)⟩
    · have hkh : (kTrk m x y) = 2 := h1
      refine x_catch (X := "java/lang/IllegalArgumentException") (by decide +kernel) [(0, 10, 13, 19)] [] 0 10 17 21 rfl (List.forall_mem_cons.mpr ⟨⟨by decide, "java/lang/IndexOutOfBoundsException", by decide +kernel, by decide +kernel, k_202⟩, (fun z hz => nomatch hz)⟩) (by decide) (by decide) k_203 (fun q9 => ?_)
      refine e_astore (dat d_L_track 12 rfl) (show 4 < 5 by decide) (lv2 := [(4, _), (0, _), (1, _), (2, _), (3, _)]) rfl ?_
      refine n_iconst (dat d_L_track 13 rfl) 2 rfl ?_
      exact e_iret (dat d_L_track 14 rfl) rfl (show 2 ≤ 2 by decide) (show 12 ≤ 12 by decide) ⟨0, fun h => absurd (h.symm.trans hkh) (by decide), (lh_x hkh (by decide) hC)⟩
    · exact absurd h1 (kTrk_n (by decide)) -- 3
