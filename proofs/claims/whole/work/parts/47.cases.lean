theorem cs_0 {E : wE} {b L k cells slots : Nat} {xs : Nat → Int32} {m : wM} {f : wF} {w : Int64} (hE : (wl E).stackTraces = false) (hI : Iv m) (hC : Rc m f) (hm : Rm m f) (hL : L ≤ 2048) (hk4 : 4 * k + 4 ≤ L) (hcc : cells + 3 ≤ 662141) (hss : slots + 18 ≤ 7109682) (K : ∀ (m9 : wM) (f9 : wF) (w9 : Int64), Iv m9 → Rc m9 f9 → Rm m9 f9 → Ev E (jL E b L xs) (cells + 3) (slots + 18) 1022 [(4, .int (nI (4 * k))), (3, .ref (wB E + 56)), (2, .ref (wB E + 39)), (1, .ref (wB E + 0)), (0, .ref b)] [] f9 g0 w9 57) : Ev E (jL E b L xs) cells slots 112 [(4, .int (nI (4 * k))), (3, .ref (wB E + 56)), (2, .ref (wB E + 39)), (1, .ref (wB E + 0)), (0, .ref b)] [] f g0 w 57 := by
  have hW := hI.1.W
  have h12 := hW.S
  have h8 := hW.R
  refine e_aload_n (dat dL0 25 rfl) 3 rfl rfl ?_
  refine q_call (t_F_clear hW hC) c_F_clear (dat dL0 26 rfl) rfl k_115 rfl rfl (by decide) (by omega) rfl (show 0 ≤ 8 by decide) ⟨show 1 ≤ 11 by decide, show 20 ≤ 390 by decide⟩ ⟨show cells + 0 + 0 ≤ 662141 by omega, show slots + 0 + 0 ≤ 7109682 by omega⟩ (fun v9 f9 h9 => ?_) (fun X9 h9 => h9.elim)
  obtain ⟨rfl, hC9, hk9⟩ := h9
  have hmA := rm_kp hm hk9
  refine e_aload_n (dat dL0 27 rfl) 2 rfl rfl ?_
  refine q_call (t_M_clear hW hmA) c_M_clear (dat dL0 28 rfl) rfl k_562 rfl rfl (by decide) (by omega) rfl (show 0 ≤ 8 by decide) ⟨show 1 ≤ 11 by decide, show 20 ≤ 390 by decide⟩ ⟨show cells + 0 + 0 ≤ 662141 by omega, show slots + 0 + 0 ≤ 7109682 by omega⟩ (fun v9 f9 h9 => ?_) (fun X9 h9 => h9.elim)
  obtain ⟨hcd, hfr, rfl, hm0, hm1⟩ := h9
  refine e_goto (dat dL0 29 rfl) (tgt := 1022) (by decide) ?_
  refine e_wd (show _ ≤ cells + 3 by omega) (show _ ≤ slots + 18 by omega) ?_
  exact K _ _ _ (iv_clr hI) (rc_fr8 hC9 (iv_clr hI).1.W hfr) (hm0 rfl)
theorem cs_1 {E : wE} {b L k cells slots : Nat} {xs : Nat → Int32} {m : wM} {f : wF} {w : Int64} (hE : (wl E).stackTraces = false) (hI : Iv m) (hC : Rc m f) (hm : Rm m f) (hL : L ≤ 2048) (hk4 : 4 * k + 4 ≤ L) (hcc : cells + 3 ≤ 662141) (hss : slots + 18 ≤ 7109682) (K : ∀ (m9 : wM) (f9 : wF) (w9 : Int64), Iv m9 → Rc m9 f9 → Rm m9 f9 → Ev E (jL E b L xs) (cells + 3) (slots + 18) 1022 [(4, .int (nI (4 * k))), (3, .ref (wB E + 56)), (2, .ref (wB E + 39)), (1, .ref (wB E + 0)), (0, .ref b)] [] f9 g0 w9 57) : Ev E (jL E b L xs) cells slots 123 [(4, .int (nI (4 * k))), (3, .ref (wB E + 56)), (2, .ref (wB E + 39)), (1, .ref (wB E + 0)), (0, .ref b)] [] f g0 w 57 := by
  have hW := hI.1.W
  have h12 := hW.S
  have h8 := hW.R
  obtain ⟨vb, hvb, hv0, hv1⟩ : ∃ vb : Nat, vb ≤ 1 ∧ ((xs (4 * k + 1)) = 0 → vb = 0) ∧ (¬ (xs (4 * k + 1)) = 0 → vb = 1) := by
    by_cases e : (xs (4 * k + 1)) = 0
    · exact ⟨0, by decide, fun _ => rfl, fun h => absurd e h⟩
    · exact ⟨1, by decide, fun h => absurd h e, fun _ => rfl⟩
  refine e_aload_n (dat dL0 30 rfl) 3 rfl rfl ?_
  refine e_aload_n (dat dL0 31 rfl) 4 rfl rfl ?_
  refine e_iload (dat dL0 32 rfl) 0 rfl ?_
  refine n_iconst (dat dL0 33 rfl) 1 rfl ?_
  refine n_iadd (dat dL0 34 rfl) ?_
  refine e_sld (dat dL0 35 rfl) rfl (by omega) (by omega) ?_
  refine e_if_eq (dat dL0 36 rfl) (tgt := 137) (by decide) (fun h130 => ?_) (fun h130 => ?_)
  · have hvv := hv0 h130
    subst hvv
    refine n_iconst (dat dL0 39 rfl) 0 rfl ?_
    refine e_aload_n (dat dL0 40 rfl) 1 rfl rfl ?_
    refine s_callL (t_L_section hI hC hE hvb) c_L_section (dat dL0 41 rfl) rfl k_119 rfl (show 0 ≤ 8 by decide) ⟨show 8 ≤ 11 by decide, show 233 ≤ 390 by decide⟩ ⟨show cells + 1 ≤ 662141 by omega, show slots + 6 ≤ 7109682 by omega⟩ (fun fA wA hkA h0 h1 => ?_)
    have hmA := rm_kp hm hkA
    refine e_istore (dat dL0 42 rfl) (show 5 < 7 by decide) (lv2 := [(5, _), (4, _), (3, _), (2, _), (1, _), (0, _)]) rfl ?_
    refine e_aload_n (dat dL0 43 rfl) 3 rfl rfl ?_
    refine e_aload_n (dat dL0 44 rfl) 5 rfl rfl ?_
    refine e_iload (dat dL0 45 rfl) 1 rfl ?_
    refine n_iconst (dat dL0 46 rfl) 1 rfl ?_
    refine n_iadd (dat dL0 47 rfl) ?_
    refine e_sld (dat dL0 48 rfl) rfl (by omega) (by omega) ?_
    refine e_if_eq (dat dL0 49 rfl) (tgt := 158) (by decide) (fun h151 => ?_) (fun h151 => ?_)
    · refine n_iconst (dat dL0 52 rfl) 0 rfl ?_
      refine q_call (t_M_section hW hmA hvb) c_M_section (dat dL0 53 rfl) rfl k_566 rfl rfl (by decide) (by omega) rfl (show 0 ≤ 8 by decide) ⟨show 1 ≤ 11 by decide, show 21 ≤ 390 by decide⟩ ⟨show cells + 1 + 0 ≤ 662141 by omega, show slots + 6 + 0 ≤ 7109682 by omega⟩ (fun v9 f9 h9 => ?_) (fun X9 h9 => h9.elim)
      obtain ⟨hcd, hfr, ⟨t, rfl, hta⟩, hm0, hm1⟩ := h9
      refine e_istore (dat dL0 54 rfl) (show 6 < 7 by decide) (lv2 := [(6, _), (5, _), (4, _), (3, _), (2, _), (1, _), (0, _)]) rfl ?_
      refine e_aload_n (dat dL0 55 rfl) 4 rfl rfl ?_
      refine r_call t_M_thrown c_M_thrown (dat dL0 56 rfl) rfl k_558 rfl rfl (by decide) (by omega) rfl (show 0 ≤ 8 by decide) ⟨show 1 ≤ 11 by decide, show 20 ≤ 390 by decide⟩ ⟨show cells + 1 ≤ 662141 by omega, show slots + 6 ≤ 7109682 by omega⟩ ?_
      refine e_iload (dat dL0 57 rfl) 1 rfl ?_
      refine e_icmp_eq (dat dL0 58 rfl) (tgt := 175) (by decide) (fun h170 => ?_) (fun h170 => ?_)
      · refine e_iload (dat dL1 1 rfl) 1 rfl ?_
        refine e_if_ne (dat dL1 2 rfl) (tgt := 192) (by decide) (fun h177 => ?_) (fun h177 => ?_)
        · have hcn : (if m 39 1 = 12 then 1 else 0) ≠ 0 := fun h => h177 (by rw [h]; rfl)
          refine e_goto (dat dL1 12 rfl) (tgt := 1022) (by decide) ?_
          refine e_wd (show _ ≤ cells + 3 by omega) (show _ ≤ slots + 18 by omega) (e_lv [2, 3, 4, 5, 6] rfl ?_)
          exact K m f9 wA hI (rc_fr8 (h1 hcn) hW hfr) (hm1 hcn)
        · have hc0 : (if m 39 1 = 12 then 1 else 0) = 0 := nI_z (by split <;> decide) h177
          obtain ⟨hwA, hCA⟩ := h0 hc0
          have htt := hta hc0
          refine e_aload_n (dat dL1 3 rfl) 3 rfl rfl ?_
          refine n_iconst (dat dL1 4 rfl) 0 rfl ?_
          refine e_lald (dat dL1 5 rfl) (by decide) ?_
          refine e_iload (dat dL1 6 rfl) 0 rfl ?_
          refine e_i2l (dat dL1 7 rfl) ?_
          refine e_lcmp (dat dL1 8 rfl) ?_
          refine e_if_eq (dat dL1 9 rfl) (tgt := 192) (by decide) (fun h187 => ?_) (fun h187 => ?_)
          · refine e_goto (dat dL1 12 rfl) (tgt := 1022) (by decide) ?_
            refine e_wd (show _ ≤ cells + 3 by omega) (show _ ≤ slots + 18 by omega) (e_lv [2, 3, 4, 5, 6] rfl ?_)
            have hn : ¬ m 39 1 = 12 := fun h => by rw [if_pos h] at hc0; exact absurd hc0 (by decide)
            have hIv := iv_sec hI (by omega) hvb
            have hmv := hm0 hc0
            have hCv := rc_fr8 hCA hIv.1.W hfr
            exact K _ _ _ hIv hCv hmv
          · exact absurd (cmp_eq (by
              rw [hwA]
              rw [htt])) h187
      · exact absurd hcd h170
    · exact absurd h130 h151
  · have hvv := hv1 h130
    subst hvv
    refine n_iconst (dat dL0 37 rfl) 1 rfl ?_
    refine e_goto (dat dL0 38 rfl) (tgt := 138) (by decide) ?_
    refine e_aload_n (dat dL0 40 rfl) 1 rfl rfl ?_
    refine s_callL (t_L_section hI hC hE hvb) c_L_section (dat dL0 41 rfl) rfl k_119 rfl (show 0 ≤ 8 by decide) ⟨show 8 ≤ 11 by decide, show 233 ≤ 390 by decide⟩ ⟨show cells + 1 ≤ 662141 by omega, show slots + 6 ≤ 7109682 by omega⟩ (fun fA wA hkA h0 h1 => ?_)
    have hmA := rm_kp hm hkA
    refine e_istore (dat dL0 42 rfl) (show 5 < 7 by decide) (lv2 := [(5, _), (4, _), (3, _), (2, _), (1, _), (0, _)]) rfl ?_
    refine e_aload_n (dat dL0 43 rfl) 3 rfl rfl ?_
    refine e_aload_n (dat dL0 44 rfl) 5 rfl rfl ?_
    refine e_iload (dat dL0 45 rfl) 1 rfl ?_
    refine n_iconst (dat dL0 46 rfl) 1 rfl ?_
    refine n_iadd (dat dL0 47 rfl) ?_
    refine e_sld (dat dL0 48 rfl) rfl (by omega) (by omega) ?_
    refine e_if_eq (dat dL0 49 rfl) (tgt := 158) (by decide) (fun h151 => ?_) (fun h151 => ?_)
    · exact absurd h151 h130
    · refine n_iconst (dat dL0 50 rfl) 1 rfl ?_
      refine e_goto (dat dL0 51 rfl) (tgt := 159) (by decide) ?_
      refine q_call (t_M_section hW hmA hvb) c_M_section (dat dL0 53 rfl) rfl k_566 rfl rfl (by decide) (by omega) rfl (show 0 ≤ 8 by decide) ⟨show 1 ≤ 11 by decide, show 21 ≤ 390 by decide⟩ ⟨show cells + 1 + 0 ≤ 662141 by omega, show slots + 6 + 0 ≤ 7109682 by omega⟩ (fun v9 f9 h9 => ?_) (fun X9 h9 => h9.elim)
      obtain ⟨hcd, hfr, ⟨t, rfl, hta⟩, hm0, hm1⟩ := h9
      refine e_istore (dat dL0 54 rfl) (show 6 < 7 by decide) (lv2 := [(6, _), (5, _), (4, _), (3, _), (2, _), (1, _), (0, _)]) rfl ?_
      refine e_aload_n (dat dL0 55 rfl) 4 rfl rfl ?_
      refine r_call t_M_thrown c_M_thrown (dat dL0 56 rfl) rfl k_558 rfl rfl (by decide) (by omega) rfl (show 0 ≤ 8 by decide) ⟨show 1 ≤ 11 by decide, show 20 ≤ 390 by decide⟩ ⟨show cells + 1 ≤ 662141 by omega, show slots + 6 ≤ 7109682 by omega⟩ ?_
      refine e_iload (dat dL0 57 rfl) 1 rfl ?_
      refine e_icmp_eq (dat dL0 58 rfl) (tgt := 175) (by decide) (fun h170 => ?_) (fun h170 => ?_)
      · refine e_iload (dat dL1 1 rfl) 1 rfl ?_
        refine e_if_ne (dat dL1 2 rfl) (tgt := 192) (by decide) (fun h177 => ?_) (fun h177 => ?_)
        · have hcn : (if m 39 1 = 12 then 1 else 0) ≠ 0 := fun h => h177 (by rw [h]; rfl)
          refine e_goto (dat dL1 12 rfl) (tgt := 1022) (by decide) ?_
          refine e_wd (show _ ≤ cells + 3 by omega) (show _ ≤ slots + 18 by omega) (e_lv [2, 3, 4, 5, 6] rfl ?_)
          exact K m f9 wA hI (rc_fr8 (h1 hcn) hW hfr) (hm1 hcn)
        · have hc0 : (if m 39 1 = 12 then 1 else 0) = 0 := nI_z (by split <;> decide) h177
          obtain ⟨hwA, hCA⟩ := h0 hc0
          have htt := hta hc0
          refine e_aload_n (dat dL1 3 rfl) 3 rfl rfl ?_
          refine n_iconst (dat dL1 4 rfl) 0 rfl ?_
          refine e_lald (dat dL1 5 rfl) (by decide) ?_
          refine e_iload (dat dL1 6 rfl) 0 rfl ?_
          refine e_i2l (dat dL1 7 rfl) ?_
          refine e_lcmp (dat dL1 8 rfl) ?_
          refine e_if_eq (dat dL1 9 rfl) (tgt := 192) (by decide) (fun h187 => ?_) (fun h187 => ?_)
          · refine e_goto (dat dL1 12 rfl) (tgt := 1022) (by decide) ?_
            refine e_wd (show _ ≤ cells + 3 by omega) (show _ ≤ slots + 18 by omega) (e_lv [2, 3, 4, 5, 6] rfl ?_)
            have hn : ¬ m 39 1 = 12 := fun h => by rw [if_pos h] at hc0; exact absurd hc0 (by decide)
            have hIv := iv_sec hI (by omega) hvb
            have hmv := hm0 hc0
            have hCv := rc_fr8 hCA hIv.1.W hfr
            exact K _ _ _ hIv hCv hmv
          · exact absurd (cmp_eq (by
              rw [hwA]
              rw [htt])) h187
      · exact absurd hcd h170
theorem cs_2 {E : wE} {b L k cells slots : Nat} {xs : Nat → Int32} {m : wM} {f : wF} {w : Int64} (hE : (wl E).stackTraces = false) (hI : Iv m) (hC : Rc m f) (hm : Rm m f) (hL : L ≤ 2048) (hk4 : 4 * k + 4 ≤ L) (hcc : cells + 3 ≤ 662141) (hss : slots + 18 ≤ 7109682) (K : ∀ (m9 : wM) (f9 : wF) (w9 : Int64), Iv m9 → Rc m9 f9 → Rm m9 f9 → Ev E (jL E b L xs) (cells + 3) (slots + 18) 1022 [(4, .int (nI (4 * k))), (3, .ref (wB E + 56)), (2, .ref (wB E + 39)), (1, .ref (wB E + 0)), (0, .ref b)] [] f9 g0 w9 57) : Ev E (jL E b L xs) cells slots 195 [(4, .int (nI (4 * k))), (3, .ref (wB E + 56)), (2, .ref (wB E + 39)), (1, .ref (wB E + 0)), (0, .ref b)] [] f g0 w 57 := by
  have hW := hI.1.W
  have h12 := hW.S
  have h8 := hW.R
  refine e_aload_n (dat dL1 13 rfl) 3 rfl rfl ?_
  refine e_aload_n (dat dL1 14 rfl) 4 rfl rfl ?_
  refine e_iload (dat dL1 15 rfl) 0 rfl ?_
  refine n_iconst (dat dL1 16 rfl) 1 rfl ?_
  refine n_iadd (dat dL1 17 rfl) ?_
  refine e_sld (dat dL1 18 rfl) rfl (by omega) (by omega) ?_
  refine e_aload_n (dat dL1 19 rfl) 4 rfl rfl ?_
  refine e_iload (dat dL1 20 rfl) 0 rfl ?_
  refine n_iconst (dat dL1 21 rfl) 2 rfl ?_
  refine n_iadd (dat dL1 22 rfl) ?_
  refine e_sld (dat dL1 23 rfl) rfl (by omega) (by omega) ?_
  refine e_aload_n (dat dL1 24 rfl) 4 rfl rfl ?_
  refine e_iload (dat dL1 25 rfl) 0 rfl ?_
  refine n_iconst (dat dL1 26 rfl) 3 rfl ?_
  refine n_iadd (dat dL1 27 rfl) ?_
  refine e_sld (dat dL1 28 rfl) rfl (by omega) (by omega) ?_
  refine e_aload_n (dat dL1 29 rfl) 1 rfl rfl ?_
  refine s_callL (t_L_route hI hC hE) c_L_route (dat dL1 30 rfl) rfl k_199 rfl (show 0 ≤ 8 by decide) ⟨show 8 ≤ 11 by decide, show 235 ≤ 390 by decide⟩ ⟨show cells + 1 ≤ 662141 by omega, show slots + 6 ≤ 7109682 by omega⟩ (fun fA wA hkA h0 h1 => ?_)
  have hmA := rm_kp hm hkA
  refine e_istore (dat dL1 31 rfl) (show 5 < 7 by decide) (lv2 := [(5, _), (4, _), (3, _), (2, _), (1, _), (0, _)]) rfl ?_
  refine e_aload_n (dat dL1 32 rfl) 3 rfl rfl ?_
  refine e_aload_n (dat dL1 33 rfl) 5 rfl rfl ?_
  refine e_iload (dat dL1 34 rfl) 1 rfl ?_
  refine n_iconst (dat dL1 35 rfl) 1 rfl ?_
  refine n_iadd (dat dL1 36 rfl) ?_
  refine e_sld (dat dL1 37 rfl) rfl (by omega) (by omega) ?_
  refine e_aload_n (dat dL1 38 rfl) 5 rfl rfl ?_
  refine e_iload (dat dL1 39 rfl) 1 rfl ?_
  refine n_iconst (dat dL1 40 rfl) 2 rfl ?_
  refine n_iadd (dat dL1 41 rfl) ?_
  refine e_sld (dat dL1 42 rfl) rfl (by omega) (by omega) ?_
  refine e_aload_n (dat dL1 43 rfl) 5 rfl rfl ?_
  refine e_iload (dat dL1 44 rfl) 1 rfl ?_
  refine n_iconst (dat dL1 45 rfl) 3 rfl ?_
  refine n_iadd (dat dL1 46 rfl) ?_
  refine e_sld (dat dL1 47 rfl) rfl (by omega) (by omega) ?_
  refine q_call (t_M_route hW hmA) c_M_route (dat dL1 48 rfl) rfl k_570 rfl rfl (by decide) (by omega) rfl (show 0 ≤ 8 by decide) ⟨show 2 ≤ 11 by decide, show 53 ≤ 390 by decide⟩ ⟨show cells + 1 + 0 ≤ 662141 by omega, show slots + 6 + 0 ≤ 7109682 by omega⟩ (fun v9 f9 h9 => ?_) (fun X9 h9 => h9.elim)
  obtain ⟨hcd, hfr, ⟨t, rfl, hta⟩, hm0, hm1⟩ := h9
  refine e_istore (dat dL1 49 rfl) (show 6 < 7 by decide) (lv2 := [(6, _), (5, _), (4, _), (3, _), (2, _), (1, _), (0, _)]) rfl ?_
  refine e_aload_n (dat dL1 50 rfl) 4 rfl rfl ?_
  refine r_call t_M_thrown c_M_thrown (dat dL1 51 rfl) rfl k_558 rfl rfl (by decide) (by omega) rfl (show 0 ≤ 8 by decide) ⟨show 1 ≤ 11 by decide, show 20 ≤ 390 by decide⟩ ⟨show cells + 1 ≤ 662141 by omega, show slots + 6 ≤ 7109682 by omega⟩ ?_
  refine e_iload (dat dL1 52 rfl) 1 rfl ?_
  refine e_icmp_eq (dat dL1 53 rfl) (tgt := 255) (by decide) (fun h250 => ?_) (fun h250 => ?_)
  · refine e_iload (dat dL1 56 rfl) 1 rfl ?_
    refine e_if_ne (dat dL1 57 rfl) (tgt := 272) (by decide) (fun h257 => ?_) (fun h257 => ?_)
    · have hcn : (kRte m (xs (4 * k + 1)) (xs (4 * k + 2)) (xs (4 * k + 3))) ≠ 0 := fun h => h257 (by rw [h]; rfl)
      refine e_goto (dat dL2 7 rfl) (tgt := 1022) (by decide) ?_
      refine e_wd (show _ ≤ cells + 3 by omega) (show _ ≤ slots + 18 by omega) (e_lv [2, 3, 4, 5, 6] rfl ?_)
      exact K m f9 wA hI (rc_fr8 (h1 hcn) hW hfr) (hm1 hcn)
    · have hc0 : (kRte m (xs (4 * k + 1)) (xs (4 * k + 2)) (xs (4 * k + 3))) = 0 := nI_z (by exact Nat.lt_of_le_of_lt (kRte_3 _ _ _ _) (by decide)) h257
      obtain ⟨hwA, hCA⟩ := h0 hc0
      have htt := hta hc0
      refine e_aload_n (dat dL1 58 rfl) 3 rfl rfl ?_
      refine n_iconst (dat dL1 59 rfl) 0 rfl ?_
      refine e_lald (dat dL2 0 rfl) (by decide) ?_
      refine e_iload (dat dL2 1 rfl) 0 rfl ?_
      refine e_i2l (dat dL2 2 rfl) ?_
      refine e_lcmp (dat dL2 3 rfl) ?_
      refine e_if_eq (dat dL2 4 rfl) (tgt := 272) (by decide) (fun h267 => ?_) (fun h267 => ?_)
      · refine e_goto (dat dL2 7 rfl) (tgt := 1022) (by decide) ?_
        refine e_wd (show _ ≤ cells + 3 by omega) (show _ ≤ slots + 18 by omega) (e_lv [2, 3, 4, 5, 6] rfl ?_)
        obtain ⟨sg, ap, dl, ⟨b1, b2, b3⟩, e1, e2, e3, hmv⟩ := hm0 hc0
        have hIv : Iv (rteM m sg ap dl) := rte_iv hI b1 b2 b3 e1 e2 e3 hc0
        rw [e1, e2, e3, ix_nI b1, ixa_ap b2, ix_nI b3] at hCA
        have hCv := rc_fr8 hCA hIv.1.W hfr
        exact K _ _ _ hIv hCv hmv
      · exact absurd (cmp_eq (by
          rw [hwA]
          rw [htt])) h267
  · exact absurd hcd h250
theorem cs_3 {E : wE} {b L k cells slots : Nat} {xs : Nat → Int32} {m : wM} {f : wF} {w : Int64} (hE : (wl E).stackTraces = false) (hI : Iv m) (hC : Rc m f) (hm : Rm m f) (hL : L ≤ 2048) (hk4 : 4 * k + 4 ≤ L) (hcc : cells + 3 ≤ 662141) (hss : slots + 18 ≤ 7109682) (K : ∀ (m9 : wM) (f9 : wF) (w9 : Int64), Iv m9 → Rc m9 f9 → Rm m9 f9 → Ev E (jL E b L xs) (cells + 3) (slots + 18) 1022 [(4, .int (nI (4 * k))), (3, .ref (wB E + 56)), (2, .ref (wB E + 39)), (1, .ref (wB E + 0)), (0, .ref b)] [] f9 g0 w9 57) : Ev E (jL E b L xs) cells slots 275 [(4, .int (nI (4 * k))), (3, .ref (wB E + 56)), (2, .ref (wB E + 39)), (1, .ref (wB E + 0)), (0, .ref b)] [] f g0 w 57 := by
  have hW := hI.1.W
  have h12 := hW.S
  have h8 := hW.R
  refine e_aload_n (dat dL2 8 rfl) 3 rfl rfl ?_
  refine e_aload_n (dat dL2 9 rfl) 4 rfl rfl ?_
  refine e_iload (dat dL2 10 rfl) 0 rfl ?_
  refine n_iconst (dat dL2 11 rfl) 1 rfl ?_
  refine n_iadd (dat dL2 12 rfl) ?_
  refine e_sld (dat dL2 13 rfl) rfl (by omega) (by omega) ?_
  refine e_aload_n (dat dL2 14 rfl) 4 rfl rfl ?_
  refine e_iload (dat dL2 15 rfl) 0 rfl ?_
  refine n_iconst (dat dL2 16 rfl) 2 rfl ?_
  refine n_iadd (dat dL2 17 rfl) ?_
  refine e_sld (dat dL2 18 rfl) rfl (by omega) (by omega) ?_
  refine e_aload_n (dat dL2 19 rfl) 4 rfl rfl ?_
  refine e_iload (dat dL2 20 rfl) 0 rfl ?_
  refine n_iconst (dat dL2 21 rfl) 3 rfl ?_
  refine n_iadd (dat dL2 22 rfl) ?_
  refine e_sld (dat dL2 23 rfl) rfl (by omega) (by omega) ?_
  refine s_callL (t_L_use hI hC hE) c_L_use (dat dL2 24 rfl) rfl k_256 rfl (show 0 ≤ 8 by decide) ⟨show 9 ≤ 11 by decide, show 264 ≤ 390 by decide⟩ ⟨show cells + 3 ≤ 662141 by omega, show slots + 18 ≤ 7109682 by omega⟩ (fun fA wA hkA h0 h1 => ?_)
  have hmA := rm_kp hm hkA
  refine e_istore (dat dL2 25 rfl) (show 5 < 7 by decide) (lv2 := [(5, _), (4, _), (3, _), (2, _), (1, _), (0, _)]) rfl ?_
  refine e_aload_n (dat dL2 26 rfl) 3 rfl rfl ?_
  refine e_aload_n (dat dL2 27 rfl) 5 rfl rfl ?_
  refine e_iload (dat dL2 28 rfl) 1 rfl ?_
  refine n_iconst (dat dL2 29 rfl) 1 rfl ?_
  refine n_iadd (dat dL2 30 rfl) ?_
  refine e_sld (dat dL2 31 rfl) rfl (by omega) (by omega) ?_
  refine e_aload_n (dat dL2 32 rfl) 5 rfl rfl ?_
  refine e_iload (dat dL2 33 rfl) 1 rfl ?_
  refine n_iconst (dat dL2 34 rfl) 2 rfl ?_
  refine n_iadd (dat dL2 35 rfl) ?_
  refine e_sld (dat dL2 36 rfl) rfl (by omega) (by omega) ?_
  refine e_aload_n (dat dL2 37 rfl) 5 rfl rfl ?_
  refine e_iload (dat dL2 38 rfl) 1 rfl ?_
  refine n_iconst (dat dL2 39 rfl) 3 rfl ?_
  refine n_iadd (dat dL2 40 rfl) ?_
  refine e_sld (dat dL2 41 rfl) rfl (by omega) (by omega) ?_
  refine q_call (t_M_use hW hmA) c_M_use (dat dL2 42 rfl) rfl k_582 rfl rfl (by decide) (by omega) rfl (show 0 ≤ 8 by decide) ⟨show 2 ≤ 11 by decide, show 55 ≤ 390 by decide⟩ ⟨show cells + 3 + 0 ≤ 662141 by omega, show slots + 18 + 0 ≤ 7109682 by omega⟩ (fun v9 f9 h9 => ?_) (fun X9 h9 => h9.elim)
  obtain ⟨hcd, hfr, rfl, hm0, hm1⟩ := h9
  refine e_aload_n (dat dL2 43 rfl) 3 rfl rfl ?_
  refine r_call t_M_thrown c_M_thrown (dat dL2 44 rfl) rfl k_558 rfl rfl (by decide) (by omega) rfl (show 0 ≤ 8 by decide) ⟨show 1 ≤ 11 by decide, show 20 ≤ 390 by decide⟩ ⟨show cells + 3 ≤ 662141 by omega, show slots + 18 ≤ 7109682 by omega⟩ ?_
  refine e_iload (dat dL2 45 rfl) 0 rfl ?_
  refine e_icmp_eq (dat dL2 46 rfl) (tgt := 332) (by decide) (fun h327 => ?_) (fun h327 => ?_)
  · refine e_goto (dat dL2 49 rfl) (tgt := 1022) (by decide) ?_
    refine e_wd (show _ ≤ cells + 3 by omega) (show _ ≤ slots + 18 by omega) (e_lv [1, 2, 3, 4, 5] rfl ?_)
    by_cases hc0 : (kUse m (xs (4 * k + 1)) (xs (4 * k + 2)) (xs (4 * k + 3))) = 0
    · obtain ⟨hwA, hCA⟩ := h0 hc0
      have hIv := use_iv hI hc0
      have hmv := hm0 hc0
      have hCv := rc_fr8 hCA hIv.1.W hfr
      exact K _ _ _ hIv hCv hmv
    · exact K m f9 wA hI (rc_fr8 (h1 hc0) hW hfr) (hm1 hc0)
  · exact absurd hcd h327
theorem cs_4 {E : wE} {b L k cells slots : Nat} {xs : Nat → Int32} {m : wM} {f : wF} {w : Int64} (hE : (wl E).stackTraces = false) (hI : Iv m) (hC : Rc m f) (hm : Rm m f) (hL : L ≤ 2048) (hk4 : 4 * k + 4 ≤ L) (hcc : cells + 3 ≤ 662141) (hss : slots + 18 ≤ 7109682) (K : ∀ (m9 : wM) (f9 : wF) (w9 : Int64), Iv m9 → Rc m9 f9 → Rm m9 f9 → Ev E (jL E b L xs) (cells + 3) (slots + 18) 1022 [(4, .int (nI (4 * k))), (3, .ref (wB E + 56)), (2, .ref (wB E + 39)), (1, .ref (wB E + 0)), (0, .ref b)] [] f9 g0 w9 57) : Ev E (jL E b L xs) cells slots 335 [(4, .int (nI (4 * k))), (3, .ref (wB E + 56)), (2, .ref (wB E + 39)), (1, .ref (wB E + 0)), (0, .ref b)] [] f g0 w 57 := by
  have hW := hI.1.W
  have h12 := hW.S
  have h8 := hW.R
  refine e_aload_n (dat dL2 50 rfl) 3 rfl rfl ?_
  refine e_aload_n (dat dL2 51 rfl) 4 rfl rfl ?_
  refine e_iload (dat dL2 52 rfl) 0 rfl ?_
  refine n_iconst (dat dL2 53 rfl) 1 rfl ?_
  refine n_iadd (dat dL2 54 rfl) ?_
  refine e_sld (dat dL2 55 rfl) rfl (by omega) (by omega) ?_
  refine e_aload_n (dat dL2 56 rfl) 1 rfl rfl ?_
  refine s_callL (t_L_request hI hC hE) c_L_request (dat dL2 57 rfl) rfl k_289 rfl (show 0 ≤ 8 by decide) ⟨show 9 ≤ 11 by decide, show 263 ≤ 390 by decide⟩ ⟨show cells + 1 ≤ 662141 by omega, show slots + 6 ≤ 7109682 by omega⟩ (fun fA wA hkA h0 h1 => ?_)
  have hmA := rm_kp hm hkA
  refine e_istore (dat dL2 58 rfl) (show 5 < 7 by decide) (lv2 := [(5, _), (4, _), (3, _), (2, _), (1, _), (0, _)]) rfl ?_
  refine e_aload_n (dat dL2 59 rfl) 3 rfl rfl ?_
  refine e_aload_n (dat dL3 0 rfl) 5 rfl rfl ?_
  refine e_iload (dat dL3 1 rfl) 1 rfl ?_
  refine n_iconst (dat dL3 2 rfl) 1 rfl ?_
  refine n_iadd (dat dL3 3 rfl) ?_
  refine e_sld (dat dL3 4 rfl) rfl (by omega) (by omega) ?_
  refine q_call (t_M_request hW hmA) c_M_request (dat dL3 5 rfl) rfl k_608 rfl rfl (by decide) (by omega) rfl (show 0 ≤ 8 by decide) ⟨show 4 ≤ 11 by decide, show 116 ≤ 390 by decide⟩ ⟨show cells + 1 + 0 ≤ 662141 by omega, show slots + 6 + 0 ≤ 7109682 by omega⟩ (fun v9 f9 h9 => ?_) (fun X9 h9 => h9.elim)
  obtain ⟨hcd, hfr, ⟨t, rfl, hta⟩, hm0, hm1⟩ := h9
  refine e_istore (dat dL3 6 rfl) (show 6 < 7 by decide) (lv2 := [(6, _), (5, _), (4, _), (3, _), (2, _), (1, _), (0, _)]) rfl ?_
  refine e_aload_n (dat dL3 7 rfl) 4 rfl rfl ?_
  refine r_call t_M_thrown c_M_thrown (dat dL3 8 rfl) rfl k_558 rfl rfl (by decide) (by omega) rfl (show 0 ≤ 8 by decide) ⟨show 1 ≤ 11 by decide, show 20 ≤ 390 by decide⟩ ⟨show cells + 1 ≤ 662141 by omega, show slots + 6 ≤ 7109682 by omega⟩ ?_
  refine e_iload (dat dL3 9 rfl) 1 rfl ?_
  refine e_icmp_eq (dat dL3 10 rfl) (tgt := 371) (by decide) (fun h366 => ?_) (fun h366 => ?_)
  · refine e_iload (dat dL3 13 rfl) 1 rfl ?_
    refine e_if_ne (dat dL3 14 rfl) (tgt := 388) (by decide) (fun h373 => ?_) (fun h373 => ?_)
    · have hcn : (kR1 m (xs (4 * k + 1))) ≠ 0 := fun h => h373 (by rw [h]; rfl)
      refine e_goto (dat dL3 24 rfl) (tgt := 1022) (by decide) ?_
      refine e_wd (show _ ≤ cells + 3 by omega) (show _ ≤ slots + 18 by omega) (e_lv [2, 3, 4, 5, 6] rfl ?_)
      exact K m f9 wA hI (rc_fr8 (h1 hcn) hW hfr) (hm1 hcn)
    · have hc0 : (kR1 m (xs (4 * k + 1))) = 0 := nI_z (by exact Nat.lt_of_le_of_lt (kR1_3 _ _) (by decide)) h373
      obtain ⟨hwA, hCA⟩ := h0 hc0
      have htt := hta hc0
      refine e_aload_n (dat dL3 15 rfl) 3 rfl rfl ?_
      refine n_iconst (dat dL3 16 rfl) 0 rfl ?_
      refine e_lald (dat dL3 17 rfl) (by decide) ?_
      refine e_iload (dat dL3 18 rfl) 0 rfl ?_
      refine e_i2l (dat dL3 19 rfl) ?_
      refine e_lcmp (dat dL3 20 rfl) ?_
      refine e_if_eq (dat dL3 21 rfl) (tgt := 388) (by decide) (fun h383 => ?_) (fun h383 => ?_)
      · refine e_goto (dat dL3 24 rfl) (tgt := 1022) (by decide) ?_
        refine e_wd (show _ ≤ cells + 3 by omega) (show _ ≤ slots + 18 by omega) (e_lv [2, 3, 4, 5, 6] rfl ?_)
        have hnr := kR1_0 hc0
        obtain ⟨r, hr, er⟩ := ix_of (N := m 39 7) (by omega) hnr
        have hxr : ix (xs (4 * k + 1)) = r := by rw [er]; exact ix_nI (by omega)
        have e9 : reqM m (ix (xs (4 * k + 1))) = rqM m (ix (xs (4 * k + 1))) := by rw [hxr]; exact req_eq hI.1 hr
        have hIv := (show Iv (reqM m (ix (xs (4 * k + 1)))) by rw [hxr, req_eq hI.1 hr]; exact req_iv hI hr)
        have hmv := hm0 hc0
        rw [← e9] at hmv
        have hCv := rc_fr8 hCA hIv.1.W hfr
        exact K _ _ _ hIv hCv hmv
      · exact absurd (cmp_eq (by
          rw [hwA]
          obtain ⟨r, hr, er⟩ := ix_of (N := m 39 7) (by omega) (kR1_0 hc0)
          have hxr : ix (xs (4 * k + 1)) = r := by rw [er]; exact ix_nI (by omega)
          rw [htt, hxr, jdg_rq hI.1 hr])) h383
  · exact absurd hcd h366
theorem cs_5 {E : wE} {b L k cells slots : Nat} {xs : Nat → Int32} {m : wM} {f : wF} {w : Int64} (hE : (wl E).stackTraces = false) (hI : Iv m) (hC : Rc m f) (hm : Rm m f) (hL : L ≤ 2048) (hk4 : 4 * k + 4 ≤ L) (hcc : cells + 3 ≤ 662141) (hss : slots + 18 ≤ 7109682) (K : ∀ (m9 : wM) (f9 : wF) (w9 : Int64), Iv m9 → Rc m9 f9 → Rm m9 f9 → Ev E (jL E b L xs) (cells + 3) (slots + 18) 1022 [(4, .int (nI (4 * k))), (3, .ref (wB E + 56)), (2, .ref (wB E + 39)), (1, .ref (wB E + 0)), (0, .ref b)] [] f9 g0 w9 57) : Ev E (jL E b L xs) cells slots 391 [(4, .int (nI (4 * k))), (3, .ref (wB E + 56)), (2, .ref (wB E + 39)), (1, .ref (wB E + 0)), (0, .ref b)] [] f g0 w 57 := by
  have hW := hI.1.W
  have h12 := hW.S
  have h8 := hW.R
  refine e_aload_n (dat dL3 25 rfl) 3 rfl rfl ?_
  refine e_aload_n (dat dL3 26 rfl) 4 rfl rfl ?_
  refine e_iload (dat dL3 27 rfl) 0 rfl ?_
  refine n_iconst (dat dL3 28 rfl) 1 rfl ?_
  refine n_iadd (dat dL3 29 rfl) ?_
  refine e_sld (dat dL3 30 rfl) rfl (by omega) (by omega) ?_
  refine e_aload_n (dat dL3 31 rfl) 1 rfl rfl ?_
  refine s_callL (t_L_cancel hI hC hE) c_L_cancel (dat dL3 32 rfl) rfl k_363 rfl (show 0 ≤ 8 by decide) ⟨show 9 ≤ 11 by decide, show 263 ≤ 390 by decide⟩ ⟨show cells + 1 ≤ 662141 by omega, show slots + 6 ≤ 7109682 by omega⟩ (fun fA wA hkA h0 h1 => ?_)
  have hmA := rm_kp hm hkA
  refine e_istore (dat dL3 33 rfl) (show 5 < 7 by decide) (lv2 := [(5, _), (4, _), (3, _), (2, _), (1, _), (0, _)]) rfl ?_
  refine e_aload_n (dat dL3 34 rfl) 3 rfl rfl ?_
  refine e_aload_n (dat dL3 35 rfl) 5 rfl rfl ?_
  refine e_iload (dat dL3 36 rfl) 1 rfl ?_
  refine n_iconst (dat dL3 37 rfl) 1 rfl ?_
  refine n_iadd (dat dL3 38 rfl) ?_
  refine e_sld (dat dL3 39 rfl) rfl (by omega) (by omega) ?_
  refine q_call (t_M_cancel hW hmA) c_M_cancel (dat dL3 40 rfl) rfl k_632 rfl rfl (by decide) (by omega) rfl (show 0 ≤ 8 by decide) ⟨show 4 ≤ 11 by decide, show 111 ≤ 390 by decide⟩ ⟨show cells + 1 + 0 ≤ 662141 by omega, show slots + 6 + 0 ≤ 7109682 by omega⟩ (fun v9 f9 h9 => ?_) (fun X9 h9 => h9.elim)
  obtain ⟨hcd, hfr, ⟨t, rfl, hta⟩, hm0, hm1⟩ := h9
  refine e_istore (dat dL3 41 rfl) (show 6 < 7 by decide) (lv2 := [(6, _), (5, _), (4, _), (3, _), (2, _), (1, _), (0, _)]) rfl ?_
  refine e_aload_n (dat dL3 42 rfl) 4 rfl rfl ?_
  refine r_call t_M_thrown c_M_thrown (dat dL3 43 rfl) rfl k_558 rfl rfl (by decide) (by omega) rfl (show 0 ≤ 8 by decide) ⟨show 1 ≤ 11 by decide, show 20 ≤ 390 by decide⟩ ⟨show cells + 1 ≤ 662141 by omega, show slots + 6 ≤ 7109682 by omega⟩ ?_
  refine e_iload (dat dL3 44 rfl) 1 rfl ?_
  refine e_icmp_eq (dat dL3 45 rfl) (tgt := 427) (by decide) (fun h422 => ?_) (fun h422 => ?_)
  · refine e_iload (dat dL3 48 rfl) 1 rfl ?_
    refine e_if_ne (dat dL3 49 rfl) (tgt := 444) (by decide) (fun h429 => ?_) (fun h429 => ?_)
    · have hcn : (kR1 m (xs (4 * k + 1))) ≠ 0 := fun h => h429 (by rw [h]; rfl)
      refine e_goto (dat dL3 59 rfl) (tgt := 1022) (by decide) ?_
      refine e_wd (show _ ≤ cells + 3 by omega) (show _ ≤ slots + 18 by omega) (e_lv [2, 3, 4, 5, 6] rfl ?_)
      exact K m f9 wA hI (rc_fr8 (h1 hcn) hW hfr) (hm1 hcn)
    · have hc0 : (kR1 m (xs (4 * k + 1))) = 0 := nI_z (by exact Nat.lt_of_le_of_lt (kR1_3 _ _) (by decide)) h429
      obtain ⟨hwA, hCA⟩ := h0 hc0
      have htt := hta hc0
      refine e_aload_n (dat dL3 50 rfl) 3 rfl rfl ?_
      refine n_iconst (dat dL3 51 rfl) 0 rfl ?_
      refine e_lald (dat dL3 52 rfl) (by decide) ?_
      refine e_iload (dat dL3 53 rfl) 0 rfl ?_
      refine e_i2l (dat dL3 54 rfl) ?_
      refine e_lcmp (dat dL3 55 rfl) ?_
      refine e_if_eq (dat dL3 56 rfl) (tgt := 444) (by decide) (fun h439 => ?_) (fun h439 => ?_)
      · refine e_goto (dat dL3 59 rfl) (tgt := 1022) (by decide) ?_
        refine e_wd (show _ ≤ cells + 3 by omega) (show _ ≤ slots + 18 by omega) (e_lv [2, 3, 4, 5, 6] rfl ?_)
        have hnr := kR1_0 hc0
        obtain ⟨r, hr, er⟩ := ix_of (N := m 39 7) (by omega) hnr
        have hxr : ix (xs (4 * k + 1)) = r := by rw [er]; exact ix_nI (by omega)
        have e9 : canM m (ix (xs (4 * k + 1))) = canM2 m (ix (xs (4 * k + 1))) := by rw [hxr]; exact can_eq hI hr
        have hIv := (show Iv (canM m (ix (xs (4 * k + 1)))) by rw [hxr]; exact can_iv hI hr)
        have hmv := hm0 hc0
        rw [← e9] at hmv
        have hCv := rc_fr8 hCA hIv.1.W hfr
        exact K _ _ _ hIv hCv hmv
      · exact absurd (cmp_eq (by
          rw [hwA]
          rw [htt])) h439
  · exact absurd hcd h422
theorem cs_6 {E : wE} {b L k cells slots : Nat} {xs : Nat → Int32} {m : wM} {f : wF} {w : Int64} (hE : (wl E).stackTraces = false) (hI : Iv m) (hC : Rc m f) (hm : Rm m f) (hL : L ≤ 2048) (hk4 : 4 * k + 4 ≤ L) (hcc : cells + 3 ≤ 662141) (hss : slots + 18 ≤ 7109682) (K : ∀ (m9 : wM) (f9 : wF) (w9 : Int64), Iv m9 → Rc m9 f9 → Rm m9 f9 → Ev E (jL E b L xs) (cells + 3) (slots + 18) 1022 [(4, .int (nI (4 * k))), (3, .ref (wB E + 56)), (2, .ref (wB E + 39)), (1, .ref (wB E + 0)), (0, .ref b)] [] f9 g0 w9 57) : Ev E (jL E b L xs) cells slots 447 [(4, .int (nI (4 * k))), (3, .ref (wB E + 56)), (2, .ref (wB E + 39)), (1, .ref (wB E + 0)), (0, .ref b)] [] f g0 w 57 := by
  have hW := hI.1.W
  have h12 := hW.S
  have h8 := hW.R
  refine e_aload_n (dat dL4 0 rfl) 3 rfl rfl ?_
  refine e_aload_n (dat dL4 1 rfl) 4 rfl rfl ?_
  refine e_iload (dat dL4 2 rfl) 0 rfl ?_
  refine n_iconst (dat dL4 3 rfl) 1 rfl ?_
  refine n_iadd (dat dL4 4 rfl) ?_
  refine e_sld (dat dL4 5 rfl) rfl (by omega) (by omega) ?_
  refine e_aload_n (dat dL4 6 rfl) 1 rfl rfl ?_
  refine s_callL (t_L_occupy hI hC hE) c_L_occupy (dat dL4 7 rfl) rfl k_375 rfl (show 0 ≤ 8 by decide) ⟨show 9 ≤ 11 by decide, show 263 ≤ 390 by decide⟩ ⟨show cells + 1 ≤ 662141 by omega, show slots + 6 ≤ 7109682 by omega⟩ (fun fA wA hkA h0 h1 => ?_)
  have hmA := rm_kp hm hkA
  refine e_istore (dat dL4 8 rfl) (show 5 < 7 by decide) (lv2 := [(5, _), (4, _), (3, _), (2, _), (1, _), (0, _)]) rfl ?_
  refine e_aload_n (dat dL4 9 rfl) 3 rfl rfl ?_
  refine e_aload_n (dat dL4 10 rfl) 5 rfl rfl ?_
  refine e_iload (dat dL4 11 rfl) 1 rfl ?_
  refine n_iconst (dat dL4 12 rfl) 1 rfl ?_
  refine n_iadd (dat dL4 13 rfl) ?_
  refine e_sld (dat dL4 14 rfl) rfl (by omega) (by omega) ?_
  refine q_call (t_M_occupy hW hmA) c_M_occupy (dat dL4 15 rfl) rfl k_636 rfl rfl (by decide) (by omega) rfl (show 0 ≤ 8 by decide) ⟨show 4 ≤ 11 by decide, show 113 ≤ 390 by decide⟩ ⟨show cells + 1 + 0 ≤ 662141 by omega, show slots + 6 + 0 ≤ 7109682 by omega⟩ (fun v9 f9 h9 => ?_) (fun X9 h9 => h9.elim)
  obtain ⟨hcd, hfr, ⟨t, rfl, hta⟩, hm0, hm1⟩ := h9
  refine e_istore (dat dL4 16 rfl) (show 6 < 7 by decide) (lv2 := [(6, _), (5, _), (4, _), (3, _), (2, _), (1, _), (0, _)]) rfl ?_
  refine e_aload_n (dat dL4 17 rfl) 4 rfl rfl ?_
  refine r_call t_M_thrown c_M_thrown (dat dL4 18 rfl) rfl k_558 rfl rfl (by decide) (by omega) rfl (show 0 ≤ 8 by decide) ⟨show 1 ≤ 11 by decide, show 20 ≤ 390 by decide⟩ ⟨show cells + 1 ≤ 662141 by omega, show slots + 6 ≤ 7109682 by omega⟩ ?_
  refine e_iload (dat dL4 19 rfl) 1 rfl ?_
  refine e_icmp_eq (dat dL4 20 rfl) (tgt := 483) (by decide) (fun h478 => ?_) (fun h478 => ?_)
  · refine e_iload (dat dL4 23 rfl) 1 rfl ?_
    refine e_if_ne (dat dL4 24 rfl) (tgt := 507) (by decide) (fun h485 => ?_) (fun h485 => ?_)
    · have hcn : (kS1 m (xs (4 * k + 1))) ≠ 0 := fun h => h485 (by rw [h]; rfl)
      refine e_goto (dat dL4 37 rfl) (tgt := 1022) (by decide) ?_
      refine e_wd (show _ ≤ cells + 3 by omega) (show _ ≤ slots + 18 by omega) (e_lv [2, 3, 4, 5, 6] rfl ?_)
      exact K m f9 wA hI (rc_fr8 (h1 hcn) hW hfr) (hm1 hcn)
    · have hc0 : (kS1 m (xs (4 * k + 1))) = 0 := nI_z (by exact Nat.lt_of_le_of_lt (kS1_3 _ _) (by decide)) h485
      obtain ⟨hwA, hCA⟩ := h0 hc0
      have htt := hta hc0
      refine e_aload_n (dat dL4 25 rfl) 3 rfl rfl ?_
      refine n_iconst (dat dL4 26 rfl) 0 rfl ?_
      refine e_lald (dat dL4 27 rfl) (by decide) ?_
      refine e_iload (dat dL4 28 rfl) 0 rfl ?_
      refine e_if_eq (dat dL4 29 rfl) (tgt := 500) (by decide) (fun h493 => ?_) (fun h493 => ?_)
      · refine e_lconst (v := 0) (dat dL4 32 rfl) rfl ?_
        refine e_lcmp (dat dL4 33 rfl) ?_
        refine e_if_eq (dat dL4 34 rfl) (tgt := 507) (by decide) (fun h502 => ?_) (fun h502 => ?_)
        · refine e_goto (dat dL4 37 rfl) (tgt := 1022) (by decide) ?_
          refine e_wd (show _ ≤ cells + 3 by omega) (show _ ≤ slots + 18 by omega) (e_lv [2, 3, 4, 5, 6] rfl ?_)
          have hIv := (show Iv (occM m (ix (xs (4 * k + 1)))) by rw [occ_eq hI.1]; exact occ_iv hI)
          have hmv := hm0 hc0
          rw [← occ_eq hI.1] at hmv
          have hCv := rc_fr8 hCA hIv.1.W hfr
          exact K _ _ _ hIv hCv hmv
        · exact absurd (cmp_eq (by
            rw [hwA]
            first | exact (bl_0 htt (by split <;> decide) h493).symm | exact (bl_1 htt (by split <;> decide) h493).symm)) h502
      · refine e_lconst (v := 1) (dat dL4 30 rfl) rfl ?_
        refine e_goto (dat dL4 31 rfl) (tgt := 501) (by decide) ?_
        refine e_lcmp (dat dL4 33 rfl) ?_
        refine e_if_eq (dat dL4 34 rfl) (tgt := 507) (by decide) (fun h502 => ?_) (fun h502 => ?_)
        · refine e_goto (dat dL4 37 rfl) (tgt := 1022) (by decide) ?_
          refine e_wd (show _ ≤ cells + 3 by omega) (show _ ≤ slots + 18 by omega) (e_lv [2, 3, 4, 5, 6] rfl ?_)
          have hIv := (show Iv (occM m (ix (xs (4 * k + 1)))) by rw [occ_eq hI.1]; exact occ_iv hI)
          have hmv := hm0 hc0
          rw [← occ_eq hI.1] at hmv
          have hCv := rc_fr8 hCA hIv.1.W hfr
          exact K _ _ _ hIv hCv hmv
        · exact absurd (cmp_eq (by
            rw [hwA]
            first | exact (bl_0 htt (by split <;> decide) h493).symm | exact (bl_1 htt (by split <;> decide) h493).symm)) h502
  · exact absurd hcd h478
theorem cs_7 {E : wE} {b L k cells slots : Nat} {xs : Nat → Int32} {m : wM} {f : wF} {w : Int64} (hE : (wl E).stackTraces = false) (hI : Iv m) (hC : Rc m f) (hm : Rm m f) (hL : L ≤ 2048) (hk4 : 4 * k + 4 ≤ L) (hcc : cells + 3 ≤ 662141) (hss : slots + 18 ≤ 7109682) (K : ∀ (m9 : wM) (f9 : wF) (w9 : Int64), Iv m9 → Rc m9 f9 → Rm m9 f9 → Ev E (jL E b L xs) (cells + 3) (slots + 18) 1022 [(4, .int (nI (4 * k))), (3, .ref (wB E + 56)), (2, .ref (wB E + 39)), (1, .ref (wB E + 0)), (0, .ref b)] [] f9 g0 w9 57) : Ev E (jL E b L xs) cells slots 510 [(4, .int (nI (4 * k))), (3, .ref (wB E + 56)), (2, .ref (wB E + 39)), (1, .ref (wB E + 0)), (0, .ref b)] [] f g0 w 57 := by
  have hW := hI.1.W
  have h12 := hW.S
  have h8 := hW.R
  refine e_aload_n (dat dL4 38 rfl) 3 rfl rfl ?_
  refine e_aload_n (dat dL4 39 rfl) 4 rfl rfl ?_
  refine e_iload (dat dL4 40 rfl) 0 rfl ?_
  refine n_iconst (dat dL4 41 rfl) 1 rfl ?_
  refine n_iadd (dat dL4 42 rfl) ?_
  refine e_sld (dat dL4 43 rfl) rfl (by omega) (by omega) ?_
  refine e_aload_n (dat dL4 44 rfl) 1 rfl rfl ?_
  refine s_callL (t_L_vacate hI hC hE) c_L_vacate (dat dL4 45 rfl) rfl k_394 rfl (show 0 ≤ 8 by decide) ⟨show 9 ≤ 11 by decide, show 263 ≤ 390 by decide⟩ ⟨show cells + 1 ≤ 662141 by omega, show slots + 6 ≤ 7109682 by omega⟩ (fun fA wA hkA h0 h1 => ?_)
  have hmA := rm_kp hm hkA
  refine e_istore (dat dL4 46 rfl) (show 5 < 7 by decide) (lv2 := [(5, _), (4, _), (3, _), (2, _), (1, _), (0, _)]) rfl ?_
  refine e_aload_n (dat dL4 47 rfl) 3 rfl rfl ?_
  refine e_aload_n (dat dL4 48 rfl) 5 rfl rfl ?_
  refine e_iload (dat dL4 49 rfl) 1 rfl ?_
  refine n_iconst (dat dL4 50 rfl) 1 rfl ?_
  refine n_iadd (dat dL4 51 rfl) ?_
  refine e_sld (dat dL4 52 rfl) rfl (by omega) (by omega) ?_
  refine q_call (t_M_vacate hW hmA) c_M_vacate (dat dL4 53 rfl) rfl k_640 rfl rfl (by decide) (by omega) rfl (show 0 ≤ 8 by decide) ⟨show 4 ≤ 11 by decide, show 112 ≤ 390 by decide⟩ ⟨show cells + 1 + 0 ≤ 662141 by omega, show slots + 6 + 0 ≤ 7109682 by omega⟩ (fun v9 f9 h9 => ?_) (fun X9 h9 => h9.elim)
  obtain ⟨hcd, hfr, ⟨t, rfl, hta⟩, hm0, hm1⟩ := h9
  refine e_istore (dat dL4 54 rfl) (show 6 < 7 by decide) (lv2 := [(6, _), (5, _), (4, _), (3, _), (2, _), (1, _), (0, _)]) rfl ?_
  refine e_aload_n (dat dL4 55 rfl) 4 rfl rfl ?_
  refine r_call t_M_thrown c_M_thrown (dat dL4 56 rfl) rfl k_558 rfl rfl (by decide) (by omega) rfl (show 0 ≤ 8 by decide) ⟨show 1 ≤ 11 by decide, show 20 ≤ 390 by decide⟩ ⟨show cells + 1 ≤ 662141 by omega, show slots + 6 ≤ 7109682 by omega⟩ ?_
  refine e_iload (dat dL4 57 rfl) 1 rfl ?_
  refine e_icmp_eq (dat dL4 58 rfl) (tgt := 546) (by decide) (fun h541 => ?_) (fun h541 => ?_)
  · refine e_iload (dat dL5 1 rfl) 1 rfl ?_
    refine e_if_ne (dat dL5 2 rfl) (tgt := 570) (by decide) (fun h548 => ?_) (fun h548 => ?_)
    · have hcn : (kS1 m (xs (4 * k + 1))) ≠ 0 := fun h => h548 (by rw [h]; rfl)
      refine e_goto (dat dL5 15 rfl) (tgt := 1022) (by decide) ?_
      refine e_wd (show _ ≤ cells + 3 by omega) (show _ ≤ slots + 18 by omega) (e_lv [2, 3, 4, 5, 6] rfl ?_)
      exact K m f9 wA hI (rc_fr8 (h1 hcn) hW hfr) (hm1 hcn)
    · have hc0 : (kS1 m (xs (4 * k + 1))) = 0 := nI_z (by exact Nat.lt_of_le_of_lt (kS1_3 _ _) (by decide)) h548
      obtain ⟨hwA, hCA⟩ := h0 hc0
      have htt := hta hc0
      refine e_aload_n (dat dL5 3 rfl) 3 rfl rfl ?_
      refine n_iconst (dat dL5 4 rfl) 0 rfl ?_
      refine e_lald (dat dL5 5 rfl) (by decide) ?_
      refine e_iload (dat dL5 6 rfl) 0 rfl ?_
      refine e_if_eq (dat dL5 7 rfl) (tgt := 563) (by decide) (fun h556 => ?_) (fun h556 => ?_)
      · refine e_lconst (v := 0) (dat dL5 10 rfl) rfl ?_
        refine e_lcmp (dat dL5 11 rfl) ?_
        refine e_if_eq (dat dL5 12 rfl) (tgt := 570) (by decide) (fun h565 => ?_) (fun h565 => ?_)
        · refine e_goto (dat dL5 15 rfl) (tgt := 1022) (by decide) ?_
          refine e_wd (show _ ≤ cells + 3 by omega) (show _ ≤ slots + 18 by omega) (e_lv [2, 3, 4, 5, 6] rfl ?_)
          have hIv := (show Iv (vacM m (ix (xs (4 * k + 1)))) from vac_iv hI)
          have hmv := hm0 hc0
          rw [← vac_eq hI] at hmv
          have hCv := rc_fr8 hCA hIv.1.W hfr
          exact K _ _ _ hIv hCv hmv
        · exact absurd (cmp_eq (by
            rw [hwA]
            first | exact (bl_0 htt (by split <;> decide) h556).symm | exact (bl_1 htt (by split <;> decide) h556).symm)) h565
      · refine e_lconst (v := 1) (dat dL5 8 rfl) rfl ?_
        refine e_goto (dat dL5 9 rfl) (tgt := 564) (by decide) ?_
        refine e_lcmp (dat dL5 11 rfl) ?_
        refine e_if_eq (dat dL5 12 rfl) (tgt := 570) (by decide) (fun h565 => ?_) (fun h565 => ?_)
        · refine e_goto (dat dL5 15 rfl) (tgt := 1022) (by decide) ?_
          refine e_wd (show _ ≤ cells + 3 by omega) (show _ ≤ slots + 18 by omega) (e_lv [2, 3, 4, 5, 6] rfl ?_)
          have hIv := (show Iv (vacM m (ix (xs (4 * k + 1)))) from vac_iv hI)
          have hmv := hm0 hc0
          rw [← vac_eq hI] at hmv
          have hCv := rc_fr8 hCA hIv.1.W hfr
          exact K _ _ _ hIv hCv hmv
        · exact absurd (cmp_eq (by
            rw [hwA]
            first | exact (bl_0 htt (by split <;> decide) h556).symm | exact (bl_1 htt (by split <;> decide) h556).symm)) h565
  · exact absurd hcd h541
theorem cs_8 {E : wE} {b L k cells slots : Nat} {xs : Nat → Int32} {m : wM} {f : wF} {w : Int64} (hE : (wl E).stackTraces = false) (hI : Iv m) (hC : Rc m f) (hm : Rm m f) (hL : L ≤ 2048) (hk4 : 4 * k + 4 ≤ L) (hcc : cells + 3 ≤ 662141) (hss : slots + 18 ≤ 7109682) (K : ∀ (m9 : wM) (f9 : wF) (w9 : Int64), Iv m9 → Rc m9 f9 → Rm m9 f9 → Ev E (jL E b L xs) (cells + 3) (slots + 18) 1022 [(4, .int (nI (4 * k))), (3, .ref (wB E + 56)), (2, .ref (wB E + 39)), (1, .ref (wB E + 0)), (0, .ref b)] [] f9 g0 w9 57) : Ev E (jL E b L xs) cells slots 573 [(4, .int (nI (4 * k))), (3, .ref (wB E + 56)), (2, .ref (wB E + 39)), (1, .ref (wB E + 0)), (0, .ref b)] [] f g0 w 57 := by
  have hW := hI.1.W
  have h12 := hW.S
  have h8 := hW.R
  refine e_aload_n (dat dL5 16 rfl) 3 rfl rfl ?_
  refine e_aload_n (dat dL5 17 rfl) 4 rfl rfl ?_
  refine e_iload (dat dL5 18 rfl) 0 rfl ?_
  refine n_iconst (dat dL5 19 rfl) 1 rfl ?_
  refine n_iadd (dat dL5 20 rfl) ?_
  refine e_sld (dat dL5 21 rfl) rfl (by omega) (by omega) ?_
  refine e_aload_n (dat dL5 22 rfl) 4 rfl rfl ?_
  refine e_iload (dat dL5 23 rfl) 0 rfl ?_
  refine n_iconst (dat dL5 24 rfl) 2 rfl ?_
  refine n_iadd (dat dL5 25 rfl) ?_
  refine e_sld (dat dL5 26 rfl) rfl (by omega) (by omega) ?_
  refine e_aload_n (dat dL5 27 rfl) 1 rfl rfl ?_
  refine s_callL (t_L_move hI hC hE) c_L_move (dat dL5 28 rfl) rfl k_413 rfl (show 0 ≤ 8 by decide) ⟨show 9 ≤ 11 by decide, show 264 ≤ 390 by decide⟩ ⟨show cells + 2 ≤ 662141 by omega, show slots + 12 ≤ 7109682 by omega⟩ (fun fA wA hkA h0 h1 => ?_)
  have hmA := rm_kp hm hkA
  refine e_istore (dat dL5 29 rfl) (show 5 < 7 by decide) (lv2 := [(5, _), (4, _), (3, _), (2, _), (1, _), (0, _)]) rfl ?_
  refine e_aload_n (dat dL5 30 rfl) 3 rfl rfl ?_
  refine e_aload_n (dat dL5 31 rfl) 5 rfl rfl ?_
  refine e_iload (dat dL5 32 rfl) 1 rfl ?_
  refine n_iconst (dat dL5 33 rfl) 1 rfl ?_
  refine n_iadd (dat dL5 34 rfl) ?_
  refine e_sld (dat dL5 35 rfl) rfl (by omega) (by omega) ?_
  refine e_aload_n (dat dL5 36 rfl) 5 rfl rfl ?_
  refine e_iload (dat dL5 37 rfl) 1 rfl ?_
  refine n_iconst (dat dL5 38 rfl) 2 rfl ?_
  refine n_iadd (dat dL5 39 rfl) ?_
  refine e_sld (dat dL5 40 rfl) rfl (by omega) (by omega) ?_
  refine q_call (t_M_move hW hmA) c_M_move (dat dL5 41 rfl) rfl k_648 rfl rfl (by decide) (by omega) rfl (show 0 ≤ 8 by decide) ⟨show 4 ≤ 11 by decide, show 114 ≤ 390 by decide⟩ ⟨show cells + 2 + 0 ≤ 662141 by omega, show slots + 12 + 0 ≤ 7109682 by omega⟩ (fun v9 f9 h9 => ?_) (fun X9 h9 => h9.elim)
  obtain ⟨hcd, hfr, ⟨t, rfl, hta⟩, hm0, hm1⟩ := h9
  refine e_istore (dat dL5 42 rfl) (show 6 < 7 by decide) (lv2 := [(6, _), (5, _), (4, _), (3, _), (2, _), (1, _), (0, _)]) rfl ?_
  refine e_aload_n (dat dL5 43 rfl) 4 rfl rfl ?_
  refine r_call t_M_thrown c_M_thrown (dat dL5 44 rfl) rfl k_558 rfl rfl (by decide) (by omega) rfl (show 0 ≤ 8 by decide) ⟨show 1 ≤ 11 by decide, show 20 ≤ 390 by decide⟩ ⟨show cells + 2 ≤ 662141 by omega, show slots + 12 ≤ 7109682 by omega⟩ ?_
  refine e_iload (dat dL5 45 rfl) 1 rfl ?_
  refine e_icmp_eq (dat dL5 46 rfl) (tgt := 621) (by decide) (fun h616 => ?_) (fun h616 => ?_)
  · refine e_iload (dat dL5 49 rfl) 1 rfl ?_
    refine e_if_ne (dat dL5 50 rfl) (tgt := 645) (by decide) (fun h623 => ?_) (fun h623 => ?_)
    · have hcn : (kMov m (xs (4 * k + 1)) (xs (4 * k + 2))) ≠ 0 := fun h => h623 (by rw [h]; rfl)
      refine e_goto (dat dL6 3 rfl) (tgt := 1022) (by decide) ?_
      refine e_wd (show _ ≤ cells + 3 by omega) (show _ ≤ slots + 18 by omega) (e_lv [2, 3, 4, 5, 6] rfl ?_)
      exact K m f9 wA hI (rc_fr8 (h1 hcn) hW hfr) (hm1 hcn)
    · have hc0 : (kMov m (xs (4 * k + 1)) (xs (4 * k + 2))) = 0 := nI_z (by exact Nat.lt_of_le_of_lt (kMov_3 _ _ _) (by decide)) h623
      obtain ⟨hwA, hCA⟩ := h0 hc0
      have htt := hta hc0
      refine e_aload_n (dat dL5 51 rfl) 3 rfl rfl ?_
      refine n_iconst (dat dL5 52 rfl) 0 rfl ?_
      refine e_lald (dat dL5 53 rfl) (by decide) ?_
      refine e_iload (dat dL5 54 rfl) 0 rfl ?_
      refine e_if_eq (dat dL5 55 rfl) (tgt := 638) (by decide) (fun h631 => ?_) (fun h631 => ?_)
      · refine e_lconst (v := 0) (dat dL5 58 rfl) rfl ?_
        refine e_lcmp (dat dL5 59 rfl) ?_
        refine e_if_eq (dat dL6 0 rfl) (tgt := 645) (by decide) (fun h640 => ?_) (fun h640 => ?_)
        · refine e_goto (dat dL6 3 rfl) (tgt := 1022) (by decide) ?_
          refine e_wd (show _ ≤ cells + 3 by omega) (show _ ≤ slots + 18 by omega) (e_lv [2, 3, 4, 5, 6] rfl ?_)
          obtain ⟨q1, q2, q3⟩ := kMov_0 hW hc0
          have e9 := mov_eq hI q1 q3 q2
          have hIv := (show Iv (movM m (ix (xs (4 * k + 1))) (ix (xs (4 * k + 2)))) from mov_iv hI q1 q3 q2)
          have hmv := hm0 hc0
          rw [← e9] at hmv
          have hCv := rc_fr8 hCA hIv.1.W hfr
          exact K _ _ _ hIv hCv hmv
        · exact absurd (cmp_eq (by
            rw [hwA]
            rw [mov_a hW]
            first | exact (bl_0 htt (by unfold movA2; split <;> decide) h631).symm | exact (bl_1 htt (by unfold movA2; split <;> decide) h631).symm)) h640
      · refine e_lconst (v := 1) (dat dL5 56 rfl) rfl ?_
        refine e_goto (dat dL5 57 rfl) (tgt := 639) (by decide) ?_
        refine e_lcmp (dat dL5 59 rfl) ?_
        refine e_if_eq (dat dL6 0 rfl) (tgt := 645) (by decide) (fun h640 => ?_) (fun h640 => ?_)
        · refine e_goto (dat dL6 3 rfl) (tgt := 1022) (by decide) ?_
          refine e_wd (show _ ≤ cells + 3 by omega) (show _ ≤ slots + 18 by omega) (e_lv [2, 3, 4, 5, 6] rfl ?_)
          obtain ⟨q1, q2, q3⟩ := kMov_0 hW hc0
          have e9 := mov_eq hI q1 q3 q2
          have hIv := (show Iv (movM m (ix (xs (4 * k + 1))) (ix (xs (4 * k + 2)))) from mov_iv hI q1 q3 q2)
          have hmv := hm0 hc0
          rw [← e9] at hmv
          have hCv := rc_fr8 hCA hIv.1.W hfr
          exact K _ _ _ hIv hCv hmv
        · exact absurd (cmp_eq (by
            rw [hwA]
            rw [mov_a hW]
            first | exact (bl_0 htt (by unfold movA2; split <;> decide) h631).symm | exact (bl_1 htt (by unfold movA2; split <;> decide) h631).symm)) h640
  · exact absurd hcd h616
theorem cs_9 {E : wE} {b L k cells slots : Nat} {xs : Nat → Int32} {m : wM} {f : wF} {w : Int64} (hE : (wl E).stackTraces = false) (hI : Iv m) (hC : Rc m f) (hm : Rm m f) (hL : L ≤ 2048) (hk4 : 4 * k + 4 ≤ L) (hcc : cells + 3 ≤ 662141) (hss : slots + 18 ≤ 7109682) (K : ∀ (m9 : wM) (f9 : wF) (w9 : Int64), Iv m9 → Rc m9 f9 → Rm m9 f9 → Ev E (jL E b L xs) (cells + 3) (slots + 18) 1022 [(4, .int (nI (4 * k))), (3, .ref (wB E + 56)), (2, .ref (wB E + 39)), (1, .ref (wB E + 0)), (0, .ref b)] [] f9 g0 w9 57) : Ev E (jL E b L xs) cells slots 648 [(4, .int (nI (4 * k))), (3, .ref (wB E + 56)), (2, .ref (wB E + 39)), (1, .ref (wB E + 0)), (0, .ref b)] [] f g0 w 57 := by
  have hW := hI.1.W
  have h12 := hW.S
  have h8 := hW.R
  obtain ⟨vb, hvb, hv0, hv1⟩ : ∃ vb : Nat, vb ≤ 1 ∧ ((xs (4 * k + 2)) = 0 → vb = 0) ∧ (¬ (xs (4 * k + 2)) = 0 → vb = 1) := by
    by_cases e : (xs (4 * k + 2)) = 0
    · exact ⟨0, by decide, fun _ => rfl, fun h => absurd e h⟩
    · exact ⟨1, by decide, fun h => absurd h e, fun _ => rfl⟩
  refine e_aload_n (dat dL6 4 rfl) 3 rfl rfl ?_
  refine e_aload_n (dat dL6 5 rfl) 4 rfl rfl ?_
  refine e_iload (dat dL6 6 rfl) 0 rfl ?_
  refine n_iconst (dat dL6 7 rfl) 1 rfl ?_
  refine n_iadd (dat dL6 8 rfl) ?_
  refine e_sld (dat dL6 9 rfl) rfl (by omega) (by omega) ?_
  refine e_aload_n (dat dL6 10 rfl) 4 rfl rfl ?_
  refine e_iload (dat dL6 11 rfl) 0 rfl ?_
  refine n_iconst (dat dL6 12 rfl) 2 rfl ?_
  refine n_iadd (dat dL6 13 rfl) ?_
  refine e_sld (dat dL6 14 rfl) rfl (by omega) (by omega) ?_
  refine e_if_eq (dat dL6 15 rfl) (tgt := 668) (by decide) (fun h661 => ?_) (fun h661 => ?_)
  · have hvv := hv0 h661
    subst hvv
    refine n_iconst (dat dL6 18 rfl) 0 rfl ?_
    refine s_callL (t_L_breakPoints hI hC hE hvb) c_L_breakPoints (dat dL6 19 rfl) rfl k_433 rfl (show 0 ≤ 8 by decide) ⟨show 9 ≤ 11 by decide, show 263 ≤ 390 by decide⟩ ⟨show cells + 2 ≤ 662141 by omega, show slots + 12 ≤ 7109682 by omega⟩ (fun fA wA hkA h0 h1 => ?_)
    have hmA := rm_kp hm hkA
    refine e_istore (dat dL6 20 rfl) (show 5 < 7 by decide) (lv2 := [(5, _), (4, _), (3, _), (2, _), (1, _), (0, _)]) rfl ?_
    refine e_aload_n (dat dL6 21 rfl) 3 rfl rfl ?_
    refine e_aload_n (dat dL6 22 rfl) 5 rfl rfl ?_
    refine e_iload (dat dL6 23 rfl) 1 rfl ?_
    refine n_iconst (dat dL6 24 rfl) 1 rfl ?_
    refine n_iadd (dat dL6 25 rfl) ?_
    refine e_sld (dat dL6 26 rfl) rfl (by omega) (by omega) ?_
    refine e_aload_n (dat dL6 27 rfl) 5 rfl rfl ?_
    refine e_iload (dat dL6 28 rfl) 1 rfl ?_
    refine n_iconst (dat dL6 29 rfl) 2 rfl ?_
    refine n_iadd (dat dL6 30 rfl) ?_
    refine e_sld (dat dL6 31 rfl) rfl (by omega) (by omega) ?_
    refine e_if_eq (dat dL6 32 rfl) (tgt := 694) (by decide) (fun h687 => ?_) (fun h687 => ?_)
    · refine n_iconst (dat dL6 35 rfl) 0 rfl ?_
      refine q_call (t_M_breakPoints hW hmA hvb) c_M_breakPoints (dat dL6 36 rfl) rfl k_652 rfl rfl (by decide) (by omega) rfl (show 0 ≤ 8 by decide) ⟨show 4 ≤ 11 by decide, show 112 ≤ 390 by decide⟩ ⟨show cells + 2 + 0 ≤ 662141 by omega, show slots + 12 + 0 ≤ 7109682 by omega⟩ (fun v9 f9 h9 => ?_) (fun X9 h9 => h9.elim)
      obtain ⟨hcd, hfr, rfl, hm0, hm1⟩ := h9
      refine e_aload_n (dat dL6 37 rfl) 3 rfl rfl ?_
      refine r_call t_M_thrown c_M_thrown (dat dL6 38 rfl) rfl k_558 rfl rfl (by decide) (by omega) rfl (show 0 ≤ 8 by decide) ⟨show 1 ≤ 11 by decide, show 20 ≤ 390 by decide⟩ ⟨show cells + 2 ≤ 662141 by omega, show slots + 12 ≤ 7109682 by omega⟩ ?_
      refine e_iload (dat dL6 39 rfl) 0 rfl ?_
      refine e_icmp_eq (dat dL6 40 rfl) (tgt := 709) (by decide) (fun h704 => ?_) (fun h704 => ?_)
      · refine e_goto (dat dL6 43 rfl) (tgt := 1022) (by decide) ?_
        refine e_wd (show _ ≤ cells + 3 by omega) (show _ ≤ slots + 18 by omega) (e_lv [1, 2, 3, 4, 5] rfl ?_)
        by_cases hc0 : (kBrk m (xs (4 * k + 1))) = 0
        · obtain ⟨hwA, hCA⟩ := h0 hc0
          rw [brk_eq hI.1 hvb] at hCA
          have hIv := iv_look (iv_brk (s := ix (xs (4 * k + 1))) hI.1 hvb)
          have hmv := hm0 hc0
          have hCv := rc_fr8 hCA hIv.1.W hfr
          exact K _ _ _ hIv hCv hmv
        · exact K m f9 wA hI (rc_fr8 (h1 hc0) hW hfr) (hm1 hc0)
      · exact absurd hcd h704
    · exact absurd h661 h687
  · have hvv := hv1 h661
    subst hvv
    refine n_iconst (dat dL6 16 rfl) 1 rfl ?_
    refine e_goto (dat dL6 17 rfl) (tgt := 669) (by decide) ?_
    refine s_callL (t_L_breakPoints hI hC hE hvb) c_L_breakPoints (dat dL6 19 rfl) rfl k_433 rfl (show 0 ≤ 8 by decide) ⟨show 9 ≤ 11 by decide, show 263 ≤ 390 by decide⟩ ⟨show cells + 2 ≤ 662141 by omega, show slots + 12 ≤ 7109682 by omega⟩ (fun fA wA hkA h0 h1 => ?_)
    have hmA := rm_kp hm hkA
    refine e_istore (dat dL6 20 rfl) (show 5 < 7 by decide) (lv2 := [(5, _), (4, _), (3, _), (2, _), (1, _), (0, _)]) rfl ?_
    refine e_aload_n (dat dL6 21 rfl) 3 rfl rfl ?_
    refine e_aload_n (dat dL6 22 rfl) 5 rfl rfl ?_
    refine e_iload (dat dL6 23 rfl) 1 rfl ?_
    refine n_iconst (dat dL6 24 rfl) 1 rfl ?_
    refine n_iadd (dat dL6 25 rfl) ?_
    refine e_sld (dat dL6 26 rfl) rfl (by omega) (by omega) ?_
    refine e_aload_n (dat dL6 27 rfl) 5 rfl rfl ?_
    refine e_iload (dat dL6 28 rfl) 1 rfl ?_
    refine n_iconst (dat dL6 29 rfl) 2 rfl ?_
    refine n_iadd (dat dL6 30 rfl) ?_
    refine e_sld (dat dL6 31 rfl) rfl (by omega) (by omega) ?_
    refine e_if_eq (dat dL6 32 rfl) (tgt := 694) (by decide) (fun h687 => ?_) (fun h687 => ?_)
    · exact absurd h687 h661
    · refine n_iconst (dat dL6 33 rfl) 1 rfl ?_
      refine e_goto (dat dL6 34 rfl) (tgt := 695) (by decide) ?_
      refine q_call (t_M_breakPoints hW hmA hvb) c_M_breakPoints (dat dL6 36 rfl) rfl k_652 rfl rfl (by decide) (by omega) rfl (show 0 ≤ 8 by decide) ⟨show 4 ≤ 11 by decide, show 112 ≤ 390 by decide⟩ ⟨show cells + 2 + 0 ≤ 662141 by omega, show slots + 12 + 0 ≤ 7109682 by omega⟩ (fun v9 f9 h9 => ?_) (fun X9 h9 => h9.elim)
      obtain ⟨hcd, hfr, rfl, hm0, hm1⟩ := h9
      refine e_aload_n (dat dL6 37 rfl) 3 rfl rfl ?_
      refine r_call t_M_thrown c_M_thrown (dat dL6 38 rfl) rfl k_558 rfl rfl (by decide) (by omega) rfl (show 0 ≤ 8 by decide) ⟨show 1 ≤ 11 by decide, show 20 ≤ 390 by decide⟩ ⟨show cells + 2 ≤ 662141 by omega, show slots + 12 ≤ 7109682 by omega⟩ ?_
      refine e_iload (dat dL6 39 rfl) 0 rfl ?_
      refine e_icmp_eq (dat dL6 40 rfl) (tgt := 709) (by decide) (fun h704 => ?_) (fun h704 => ?_)
      · refine e_goto (dat dL6 43 rfl) (tgt := 1022) (by decide) ?_
        refine e_wd (show _ ≤ cells + 3 by omega) (show _ ≤ slots + 18 by omega) (e_lv [1, 2, 3, 4, 5] rfl ?_)
        by_cases hc0 : (kBrk m (xs (4 * k + 1))) = 0
        · obtain ⟨hwA, hCA⟩ := h0 hc0
          rw [brk_eq hI.1 hvb] at hCA
          have hIv := iv_look (iv_brk (s := ix (xs (4 * k + 1))) hI.1 hvb)
          have hmv := hm0 hc0
          have hCv := rc_fr8 hCA hIv.1.W hfr
          exact K _ _ _ hIv hCv hmv
        · exact K m f9 wA hI (rc_fr8 (h1 hc0) hW hfr) (hm1 hc0)
      · exact absurd hcd h704
theorem cs_10 {E : wE} {b L k cells slots : Nat} {xs : Nat → Int32} {m : wM} {f : wF} {w : Int64} (hE : (wl E).stackTraces = false) (hI : Iv m) (hC : Rc m f) (hm : Rm m f) (hL : L ≤ 2048) (hk4 : 4 * k + 4 ≤ L) (hcc : cells + 3 ≤ 662141) (hss : slots + 18 ≤ 7109682) (K : ∀ (m9 : wM) (f9 : wF) (w9 : Int64), Iv m9 → Rc m9 f9 → Rm m9 f9 → Ev E (jL E b L xs) (cells + 3) (slots + 18) 1022 [(4, .int (nI (4 * k))), (3, .ref (wB E + 56)), (2, .ref (wB E + 39)), (1, .ref (wB E + 0)), (0, .ref b)] [] f9 g0 w9 57) : Ev E (jL E b L xs) cells slots 712 [(4, .int (nI (4 * k))), (3, .ref (wB E + 56)), (2, .ref (wB E + 39)), (1, .ref (wB E + 0)), (0, .ref b)] [] f g0 w 57 := by
  have hW := hI.1.W
  have h12 := hW.S
  have h8 := hW.R
  refine e_aload_n (dat dL6 44 rfl) 3 rfl rfl ?_
  refine e_aload_n (dat dL6 45 rfl) 4 rfl rfl ?_
  refine e_iload (dat dL6 46 rfl) 0 rfl ?_
  refine n_iconst (dat dL6 47 rfl) 1 rfl ?_
  refine n_iadd (dat dL6 48 rfl) ?_
  refine e_sld (dat dL6 49 rfl) rfl (by omega) (by omega) ?_
  refine s_callL (t_L_tick hI hC hE) c_L_tick (dat dL6 50 rfl) rfl k_441 rfl (show 0 ≤ 8 by decide) ⟨show 8 ≤ 11 by decide, show 232 ≤ 390 by decide⟩ ⟨show cells + 1 ≤ 662141 by omega, show slots + 6 ≤ 7109682 by omega⟩ (fun fA wA hkA h0 h1 => ?_)
  have hmA := rm_kp hm hkA
  refine e_istore (dat dL6 51 rfl) (show 5 < 7 by decide) (lv2 := [(5, _), (4, _), (3, _), (2, _), (1, _), (0, _)]) rfl ?_
  refine e_aload_n (dat dL6 52 rfl) 3 rfl rfl ?_
  refine e_aload_n (dat dL6 53 rfl) 5 rfl rfl ?_
  refine e_iload (dat dL6 54 rfl) 1 rfl ?_
  refine n_iconst (dat dL6 55 rfl) 1 rfl ?_
  refine n_iadd (dat dL6 56 rfl) ?_
  refine e_sld (dat dL6 57 rfl) rfl (by omega) (by omega) ?_
  refine q_call (t_M_tick hW hmA hI.1) c_M_tick (dat dL6 58 rfl) rfl k_656 rfl rfl (by decide) (by omega) rfl (show 0 ≤ 8 by decide) ⟨show 4 ≤ 11 by decide, show 113 ≤ 390 by decide⟩ ⟨show cells + 1 + 0 ≤ 662141 by omega, show slots + 6 + 0 ≤ 7109682 by omega⟩ (fun v9 f9 h9 => ?_) (fun X9 h9 => h9.elim)
  obtain ⟨hcd, hfr, rfl, hm0, hm1⟩ := h9
  refine e_aload_n (dat dL6 59 rfl) 3 rfl rfl ?_
  refine r_call t_M_thrown c_M_thrown (dat dL7 0 rfl) rfl k_558 rfl rfl (by decide) (by omega) rfl (show 0 ≤ 8 by decide) ⟨show 1 ≤ 11 by decide, show 20 ≤ 390 by decide⟩ ⟨show cells + 1 ≤ 662141 by omega, show slots + 6 ≤ 7109682 by omega⟩ ?_
  refine e_iload (dat dL7 1 rfl) 0 rfl ?_
  refine e_icmp_eq (dat dL7 2 rfl) (tgt := 745) (by decide) (fun h740 => ?_) (fun h740 => ?_)
  · refine e_goto (dat dL7 5 rfl) (tgt := 1022) (by decide) ?_
    refine e_wd (show _ ≤ cells + 3 by omega) (show _ ≤ slots + 18 by omega) (e_lv [1, 2, 3, 4, 5] rfl ?_)
    by_cases hc0 : (if kTck (xs (4 * k + 1)) = 0 then 0 else 1) = 0
    · obtain ⟨hwA, hCA⟩ := h0 hc0
      rw [tck_eq hI.1] at hCA
      have hIv := iv_look (jv_tks hI.1 (ix (xs (4 * k + 1))))
      have hmv := hm0 hc0
      have hCv := rc_fr8 hCA hIv.1.W hfr
      exact K _ _ _ hIv hCv hmv
    · exact K m f9 wA hI (rc_fr8 (h1 hc0) hW hfr) (hm1 hc0)
  · exact absurd hcd h740
theorem cs_11 {E : wE} {b L k cells slots : Nat} {xs : Nat → Int32} {m : wM} {f : wF} {w : Int64} (hE : (wl E).stackTraces = false) (hI : Iv m) (hC : Rc m f) (hm : Rm m f) (hL : L ≤ 2048) (hk4 : 4 * k + 4 ≤ L) (hcc : cells + 3 ≤ 662141) (hss : slots + 18 ≤ 7109682) (K : ∀ (m9 : wM) (f9 : wF) (w9 : Int64), Iv m9 → Rc m9 f9 → Rm m9 f9 → Ev E (jL E b L xs) (cells + 3) (slots + 18) 1022 [(4, .int (nI (4 * k))), (3, .ref (wB E + 56)), (2, .ref (wB E + 39)), (1, .ref (wB E + 0)), (0, .ref b)] [] f9 g0 w9 57) : Ev E (jL E b L xs) cells slots 748 [(4, .int (nI (4 * k))), (3, .ref (wB E + 56)), (2, .ref (wB E + 39)), (1, .ref (wB E + 0)), (0, .ref b)] [] f g0 w 57 := by
  have hW := hI.1.W
  have h12 := hW.S
  have h8 := hW.R
  refine e_aload_n (dat dL7 6 rfl) 3 rfl rfl ?_
  refine e_aload_n (dat dL7 7 rfl) 4 rfl rfl ?_
  refine e_iload (dat dL7 8 rfl) 0 rfl ?_
  refine n_iconst (dat dL7 9 rfl) 1 rfl ?_
  refine n_iadd (dat dL7 10 rfl) ?_
  refine e_sld (dat dL7 11 rfl) rfl (by omega) (by omega) ?_
  refine e_aload_n (dat dL7 12 rfl) 1 rfl rfl ?_
  refine s_callL (t_L_off hI hC hE) c_L_off (dat dL7 13 rfl) rfl k_461 rfl (show 0 ≤ 8 by decide) ⟨show 8 ≤ 11 by decide, show 233 ≤ 390 by decide⟩ ⟨show cells + 1 ≤ 662141 by omega, show slots + 6 ≤ 7109682 by omega⟩ (fun fA wA hkA h0 h1 => ?_)
  have hmA := rm_kp hm hkA
  refine e_istore (dat dL7 14 rfl) (show 5 < 7 by decide) (lv2 := [(5, _), (4, _), (3, _), (2, _), (1, _), (0, _)]) rfl ?_
  refine e_aload_n (dat dL7 15 rfl) 3 rfl rfl ?_
  refine e_aload_n (dat dL7 16 rfl) 5 rfl rfl ?_
  refine e_iload (dat dL7 17 rfl) 1 rfl ?_
  refine n_iconst (dat dL7 18 rfl) 1 rfl ?_
  refine n_iadd (dat dL7 19 rfl) ?_
  refine e_sld (dat dL7 20 rfl) rfl (by omega) (by omega) ?_
  refine q_call (t_M_off hW hmA) c_M_off (dat dL7 21 rfl) rfl k_660 rfl rfl (by decide) (by omega) rfl (show 0 ≤ 8 by decide) ⟨show 3 ≤ 11 by decide, show 83 ≤ 390 by decide⟩ ⟨show cells + 1 + 0 ≤ 662141 by omega, show slots + 6 + 0 ≤ 7109682 by omega⟩ (fun v9 f9 h9 => ?_) (fun X9 h9 => h9.elim)
  obtain ⟨hcd, hfr, ⟨t, rfl, hta⟩, hm0, hm1⟩ := h9
  refine e_istore (dat dL7 22 rfl) (show 6 < 7 by decide) (lv2 := [(6, _), (5, _), (4, _), (3, _), (2, _), (1, _), (0, _)]) rfl ?_
  refine e_aload_n (dat dL7 23 rfl) 4 rfl rfl ?_
  refine r_call t_M_thrown c_M_thrown (dat dL7 24 rfl) rfl k_558 rfl rfl (by decide) (by omega) rfl (show 0 ≤ 8 by decide) ⟨show 1 ≤ 11 by decide, show 20 ≤ 390 by decide⟩ ⟨show cells + 1 ≤ 662141 by omega, show slots + 6 ≤ 7109682 by omega⟩ ?_
  refine e_iload (dat dL7 25 rfl) 1 rfl ?_
  refine e_icmp_eq (dat dL7 26 rfl) (tgt := 784) (by decide) (fun h779 => ?_) (fun h779 => ?_)
  · refine e_iload (dat dL7 29 rfl) 1 rfl ?_
    refine e_if_ne (dat dL7 30 rfl) (tgt := 808) (by decide) (fun h786 => ?_) (fun h786 => ?_)
    · have hcn : (kOff (xs (4 * k + 1))) ≠ 0 := fun h => h786 (by rw [h]; rfl)
      refine e_goto (dat dL7 43 rfl) (tgt := 1022) (by decide) ?_
      refine e_wd (show _ ≤ cells + 3 by omega) (show _ ≤ slots + 18 by omega) (e_lv [2, 3, 4, 5, 6] rfl ?_)
      exact K m f9 wA hI (rc_fr8 (h1 hcn) hW hfr) (hm1 hcn)
    · have hc0 : (kOff (xs (4 * k + 1))) = 0 := nI_z (by exact Nat.lt_of_le_of_lt (kOff_3 _) (by decide)) h786
      obtain ⟨hwA, hCA⟩ := h0 hc0
      have htt := hta hc0
      refine e_aload_n (dat dL7 31 rfl) 3 rfl rfl ?_
      refine n_iconst (dat dL7 32 rfl) 0 rfl ?_
      refine e_lald (dat dL7 33 rfl) (by decide) ?_
      refine e_iload (dat dL7 34 rfl) 0 rfl ?_
      refine e_if_eq (dat dL7 35 rfl) (tgt := 801) (by decide) (fun h794 => ?_) (fun h794 => ?_)
      · refine e_lconst (v := 0) (dat dL7 38 rfl) rfl ?_
        refine e_lcmp (dat dL7 39 rfl) ?_
        refine e_if_eq (dat dL7 40 rfl) (tgt := 808) (by decide) (fun h803 => ?_) (fun h803 => ?_)
        · refine e_goto (dat dL7 43 rfl) (tgt := 1022) (by decide) ?_
          refine e_wd (show _ ≤ cells + 3 by omega) (show _ ≤ slots + 18 by omega) (e_lv [2, 3, 4, 5, 6] rfl ?_)
          have hIv := hI
          have hmv := hm0 hc0
          have hCv := rc_fr8 hCA hIv.1.W hfr
          exact K _ _ _ hIv hCv hmv
        · exact absurd (cmp_eq (by
            rw [hwA]
            have e9 := ite_c (a := 0) (b := 1) (d := inferInstance) (e := Classical.propDecidable _) (off_iff (s := ix (xs (4 * k + 1))) hI.1)
            rw [e9]
            first | exact (bl_0 htt (by split <;> decide) h794).symm | exact (bl_1 htt (by split <;> decide) h794).symm)) h803
      · refine e_lconst (v := 1) (dat dL7 36 rfl) rfl ?_
        refine e_goto (dat dL7 37 rfl) (tgt := 802) (by decide) ?_
        refine e_lcmp (dat dL7 39 rfl) ?_
        refine e_if_eq (dat dL7 40 rfl) (tgt := 808) (by decide) (fun h803 => ?_) (fun h803 => ?_)
        · refine e_goto (dat dL7 43 rfl) (tgt := 1022) (by decide) ?_
          refine e_wd (show _ ≤ cells + 3 by omega) (show _ ≤ slots + 18 by omega) (e_lv [2, 3, 4, 5, 6] rfl ?_)
          have hIv := hI
          have hmv := hm0 hc0
          have hCv := rc_fr8 hCA hIv.1.W hfr
          exact K _ _ _ hIv hCv hmv
        · exact absurd (cmp_eq (by
            rw [hwA]
            have e9 := ite_c (a := 0) (b := 1) (d := inferInstance) (e := Classical.propDecidable _) (off_iff (s := ix (xs (4 * k + 1))) hI.1)
            rw [e9]
            first | exact (bl_0 htt (by split <;> decide) h794).symm | exact (bl_1 htt (by split <;> decide) h794).symm)) h803
  · exact absurd hcd h779
theorem cs_12 {E : wE} {b L k cells slots : Nat} {xs : Nat → Int32} {m : wM} {f : wF} {w : Int64} (hE : (wl E).stackTraces = false) (hI : Iv m) (hC : Rc m f) (hm : Rm m f) (hL : L ≤ 2048) (hk4 : 4 * k + 4 ≤ L) (hcc : cells + 3 ≤ 662141) (hss : slots + 18 ≤ 7109682) (K : ∀ (m9 : wM) (f9 : wF) (w9 : Int64), Iv m9 → Rc m9 f9 → Rm m9 f9 → Ev E (jL E b L xs) (cells + 3) (slots + 18) 1022 [(4, .int (nI (4 * k))), (3, .ref (wB E + 56)), (2, .ref (wB E + 39)), (1, .ref (wB E + 0)), (0, .ref b)] [] f9 g0 w9 57) : Ev E (jL E b L xs) cells slots 811 [(4, .int (nI (4 * k))), (3, .ref (wB E + 56)), (2, .ref (wB E + 39)), (1, .ref (wB E + 0)), (0, .ref b)] [] f g0 w 57 := by
  have hW := hI.1.W
  have h12 := hW.S
  have h8 := hW.R
  refine e_aload_n (dat dL7 44 rfl) 3 rfl rfl ?_
  refine e_aload_n (dat dL7 45 rfl) 4 rfl rfl ?_
  refine e_iload (dat dL7 46 rfl) 0 rfl ?_
  refine n_iconst (dat dL7 47 rfl) 1 rfl ?_
  refine n_iadd (dat dL7 48 rfl) ?_
  refine e_sld (dat dL7 49 rfl) rfl (by omega) (by omega) ?_
  refine e_aload_n (dat dL7 50 rfl) 4 rfl rfl ?_
  refine e_iload (dat dL7 51 rfl) 0 rfl ?_
  refine n_iconst (dat dL7 52 rfl) 2 rfl ?_
  refine n_iadd (dat dL7 53 rfl) ?_
  refine e_sld (dat dL7 54 rfl) rfl (by omega) (by omega) ?_
  refine e_aload_n (dat dL7 55 rfl) 1 rfl rfl ?_
  refine s_callL (t_L_clash hI hC hE) c_L_clash (dat dL7 56 rfl) rfl k_469 rfl (show 0 ≤ 8 by decide) ⟨show 9 ≤ 11 by decide, show 264 ≤ 390 by decide⟩ ⟨show cells + 2 ≤ 662141 by omega, show slots + 12 ≤ 7109682 by omega⟩ (fun fA wA hkA h0 h1 => ?_)
  have hmA := rm_kp hm hkA
  refine e_istore (dat dL7 57 rfl) (show 5 < 7 by decide) (lv2 := [(5, _), (4, _), (3, _), (2, _), (1, _), (0, _)]) rfl ?_
  refine e_aload_n (dat dL7 58 rfl) 3 rfl rfl ?_
  refine e_aload_n (dat dL7 59 rfl) 5 rfl rfl ?_
  refine e_iload (dat dL8 0 rfl) 1 rfl ?_
  refine n_iconst (dat dL8 1 rfl) 1 rfl ?_
  refine n_iadd (dat dL8 2 rfl) ?_
  refine e_sld (dat dL8 3 rfl) rfl (by omega) (by omega) ?_
  refine e_aload_n (dat dL8 4 rfl) 5 rfl rfl ?_
  refine e_iload (dat dL8 5 rfl) 1 rfl ?_
  refine n_iconst (dat dL8 6 rfl) 2 rfl ?_
  refine n_iadd (dat dL8 7 rfl) ?_
  refine e_sld (dat dL8 8 rfl) rfl (by omega) (by omega) ?_
  refine q_call (t_M_clash hW hmA) c_M_clash (dat dL8 9 rfl) rfl k_594 rfl rfl (by decide) (by omega) rfl (show 0 ≤ 8 by decide) ⟨show 3 ≤ 11 by decide, show 85 ≤ 390 by decide⟩ ⟨show cells + 2 + 0 ≤ 662141 by omega, show slots + 12 + 0 ≤ 7109682 by omega⟩ (fun v9 f9 h9 => ?_) (fun X9 h9 => h9.elim)
  obtain ⟨hcd, hfr, ⟨t, rfl, hta⟩, hm0, hm1⟩ := h9
  refine e_istore (dat dL8 10 rfl) (show 6 < 7 by decide) (lv2 := [(6, _), (5, _), (4, _), (3, _), (2, _), (1, _), (0, _)]) rfl ?_
  refine e_aload_n (dat dL8 11 rfl) 4 rfl rfl ?_
  refine r_call t_M_thrown c_M_thrown (dat dL8 12 rfl) rfl k_558 rfl rfl (by decide) (by omega) rfl (show 0 ≤ 8 by decide) ⟨show 1 ≤ 11 by decide, show 20 ≤ 390 by decide⟩ ⟨show cells + 2 ≤ 662141 by omega, show slots + 12 ≤ 7109682 by omega⟩ ?_
  refine e_iload (dat dL8 13 rfl) 1 rfl ?_
  refine e_icmp_eq (dat dL8 14 rfl) (tgt := 859) (by decide) (fun h854 => ?_) (fun h854 => ?_)
  · refine e_iload (dat dL8 17 rfl) 1 rfl ?_
    refine e_if_ne (dat dL8 18 rfl) (tgt := 883) (by decide) (fun h861 => ?_) (fun h861 => ?_)
    · have hcn : (kCla m (xs (4 * k + 1)) (xs (4 * k + 2))) ≠ 0 := fun h => h861 (by rw [h]; rfl)
      refine e_goto (dat dL8 31 rfl) (tgt := 1022) (by decide) ?_
      refine e_wd (show _ ≤ cells + 3 by omega) (show _ ≤ slots + 18 by omega) (e_lv [2, 3, 4, 5, 6] rfl ?_)
      exact K m f9 wA hI (rc_fr8 (h1 hcn) hW hfr) (hm1 hcn)
    · have hc0 : (kCla m (xs (4 * k + 1)) (xs (4 * k + 2))) = 0 := nI_z (by exact Nat.lt_of_le_of_lt (kCla_3 _ _ _) (by decide)) h861
      obtain ⟨hwA, hCA⟩ := h0 hc0
      have htt := hta hc0
      refine e_aload_n (dat dL8 19 rfl) 3 rfl rfl ?_
      refine n_iconst (dat dL8 20 rfl) 0 rfl ?_
      refine e_lald (dat dL8 21 rfl) (by decide) ?_
      refine e_iload (dat dL8 22 rfl) 0 rfl ?_
      refine e_if_eq (dat dL8 23 rfl) (tgt := 876) (by decide) (fun h869 => ?_) (fun h869 => ?_)
      · refine e_lconst (v := 0) (dat dL8 26 rfl) rfl ?_
        refine e_lcmp (dat dL8 27 rfl) ?_
        refine e_if_eq (dat dL8 28 rfl) (tgt := 883) (by decide) (fun h878 => ?_) (fun h878 => ?_)
        · refine e_goto (dat dL8 31 rfl) (tgt := 1022) (by decide) ?_
          refine e_wd (show _ ≤ cells + 3 by omega) (show _ ≤ slots + 18 by omega) (e_lv [2, 3, 4, 5, 6] rfl ?_)
          have hIv := hI
          have hmv := hm0 hc0
          have hCv := rc_fr8 hCA hIv.1.W hfr
          exact K _ _ _ hIv hCv hmv
        · exact absurd (cmp_eq (by
            rw [hwA]
            obtain ⟨q1, q2⟩ := kCla_0 hW hc0
            rw [cla_eq hI.1 q1 q2]
            first | exact (bl_0 htt (by unfold claA2; split <;> decide) h869).symm | exact (bl_1 htt (by unfold claA2; split <;> decide) h869).symm)) h878
      · refine e_lconst (v := 1) (dat dL8 24 rfl) rfl ?_
        refine e_goto (dat dL8 25 rfl) (tgt := 877) (by decide) ?_
        refine e_lcmp (dat dL8 27 rfl) ?_
        refine e_if_eq (dat dL8 28 rfl) (tgt := 883) (by decide) (fun h878 => ?_) (fun h878 => ?_)
        · refine e_goto (dat dL8 31 rfl) (tgt := 1022) (by decide) ?_
          refine e_wd (show _ ≤ cells + 3 by omega) (show _ ≤ slots + 18 by omega) (e_lv [2, 3, 4, 5, 6] rfl ?_)
          have hIv := hI
          have hmv := hm0 hc0
          have hCv := rc_fr8 hCA hIv.1.W hfr
          exact K _ _ _ hIv hCv hmv
        · exact absurd (cmp_eq (by
            rw [hwA]
            obtain ⟨q1, q2⟩ := kCla_0 hW hc0
            rw [cla_eq hI.1 q1 q2]
            first | exact (bl_0 htt (by unfold claA2; split <;> decide) h869).symm | exact (bl_1 htt (by unfold claA2; split <;> decide) h869).symm)) h878
  · exact absurd hcd h854
theorem cs_13 {E : wE} {b L k cells slots : Nat} {xs : Nat → Int32} {m : wM} {f : wF} {w : Int64} (hE : (wl E).stackTraces = false) (hI : Iv m) (hC : Rc m f) (hm : Rm m f) (hL : L ≤ 2048) (hk4 : 4 * k + 4 ≤ L) (hcc : cells + 3 ≤ 662141) (hss : slots + 18 ≤ 7109682) (K : ∀ (m9 : wM) (f9 : wF) (w9 : Int64), Iv m9 → Rc m9 f9 → Rm m9 f9 → Ev E (jL E b L xs) (cells + 3) (slots + 18) 1022 [(4, .int (nI (4 * k))), (3, .ref (wB E + 56)), (2, .ref (wB E + 39)), (1, .ref (wB E + 0)), (0, .ref b)] [] f9 g0 w9 57) : Ev E (jL E b L xs) cells slots 886 [(4, .int (nI (4 * k))), (3, .ref (wB E + 56)), (2, .ref (wB E + 39)), (1, .ref (wB E + 0)), (0, .ref b)] [] f g0 w 57 := by
  have hW := hI.1.W
  have h12 := hW.S
  have h8 := hW.R
  refine e_aload_n (dat dL8 32 rfl) 3 rfl rfl ?_
  refine e_aload_n (dat dL8 33 rfl) 4 rfl rfl ?_
  refine e_iload (dat dL8 34 rfl) 0 rfl ?_
  refine n_iconst (dat dL8 35 rfl) 1 rfl ?_
  refine n_iadd (dat dL8 36 rfl) ?_
  refine e_sld (dat dL8 37 rfl) rfl (by omega) (by omega) ?_
  refine e_aload_n (dat dL8 38 rfl) 4 rfl rfl ?_
  refine e_iload (dat dL8 39 rfl) 0 rfl ?_
  refine n_iconst (dat dL8 40 rfl) 2 rfl ?_
  refine n_iadd (dat dL8 41 rfl) ?_
  refine e_sld (dat dL8 42 rfl) rfl (by omega) (by omega) ?_
  refine e_aload_n (dat dL8 43 rfl) 1 rfl rfl ?_
  refine s_callL (t_L_about hI hC hE) c_L_about (dat dL8 44 rfl) rfl k_477 rfl (show 0 ≤ 8 by decide) ⟨show 9 ≤ 11 by decide, show 264 ≤ 390 by decide⟩ ⟨show cells + 2 ≤ 662141 by omega, show slots + 12 ≤ 7109682 by omega⟩ (fun fA wA hkA h0 h1 => ?_)
  have hmA := rm_kp hm hkA
  refine e_istore (dat dL8 45 rfl) (show 5 < 7 by decide) (lv2 := [(5, _), (4, _), (3, _), (2, _), (1, _), (0, _)]) rfl ?_
  refine e_aload_n (dat dL8 46 rfl) 3 rfl rfl ?_
  refine e_aload_n (dat dL8 47 rfl) 5 rfl rfl ?_
  refine e_iload (dat dL8 48 rfl) 1 rfl ?_
  refine n_iconst (dat dL8 49 rfl) 1 rfl ?_
  refine n_iadd (dat dL8 50 rfl) ?_
  refine e_sld (dat dL8 51 rfl) rfl (by omega) (by omega) ?_
  refine e_aload_n (dat dL8 52 rfl) 5 rfl rfl ?_
  refine e_iload (dat dL8 53 rfl) 1 rfl ?_
  refine n_iconst (dat dL8 54 rfl) 2 rfl ?_
  refine n_iadd (dat dL8 55 rfl) ?_
  refine e_sld (dat dL8 56 rfl) rfl (by omega) (by omega) ?_
  refine q_call (t_M_about hW hmA) c_M_about (dat dL8 57 rfl) rfl k_664 rfl rfl (by decide) (by omega) rfl (show 0 ≤ 8 by decide) ⟨show 2 ≤ 11 by decide, show 56 ≤ 390 by decide⟩ ⟨show cells + 2 + 0 ≤ 662141 by omega, show slots + 12 + 0 ≤ 7109682 by omega⟩ (fun v9 f9 h9 => ?_) (fun X9 h9 => h9.elim)
  obtain ⟨hcd, hfr, ⟨t, rfl, hta⟩, hm0, hm1⟩ := h9
  refine e_istore (dat dL8 58 rfl) (show 6 < 7 by decide) (lv2 := [(6, _), (5, _), (4, _), (3, _), (2, _), (1, _), (0, _)]) rfl ?_
  refine e_aload_n (dat dL8 59 rfl) 4 rfl rfl ?_
  refine r_call t_M_thrown c_M_thrown (dat dL9 0 rfl) rfl k_558 rfl rfl (by decide) (by omega) rfl (show 0 ≤ 8 by decide) ⟨show 1 ≤ 11 by decide, show 20 ≤ 390 by decide⟩ ⟨show cells + 2 ≤ 662141 by omega, show slots + 12 ≤ 7109682 by omega⟩ ?_
  refine e_iload (dat dL9 1 rfl) 1 rfl ?_
  refine e_icmp_eq (dat dL9 2 rfl) (tgt := 934) (by decide) (fun h929 => ?_) (fun h929 => ?_)
  · refine e_iload (dat dL9 5 rfl) 1 rfl ?_
    refine e_if_ne (dat dL9 6 rfl) (tgt := 951) (by decide) (fun h936 => ?_) (fun h936 => ?_)
    · have hcn : (kAbt m (xs (4 * k + 1)) (xs (4 * k + 2))) ≠ 0 := fun h => h936 (by rw [h]; rfl)
      refine e_goto (dat dL9 16 rfl) (tgt := 1022) (by decide) ?_
      refine e_wd (show _ ≤ cells + 3 by omega) (show _ ≤ slots + 18 by omega) (e_lv [2, 3, 4, 5, 6] rfl ?_)
      exact K m f9 wA hI (rc_fr8 (h1 hcn) hW hfr) (hm1 hcn)
    · have hc0 : (kAbt m (xs (4 * k + 1)) (xs (4 * k + 2))) = 0 := nI_z (by exact Nat.lt_of_le_of_lt (kAbt_3 _ _ _) (by decide)) h936
      obtain ⟨hwA, hCA⟩ := h0 hc0
      have htt := hta hc0
      refine e_aload_n (dat dL9 7 rfl) 3 rfl rfl ?_
      refine n_iconst (dat dL9 8 rfl) 0 rfl ?_
      refine e_lald (dat dL9 9 rfl) (by decide) ?_
      refine e_iload (dat dL9 10 rfl) 0 rfl ?_
      refine e_i2l (dat dL9 11 rfl) ?_
      refine e_lcmp (dat dL9 12 rfl) ?_
      refine e_if_eq (dat dL9 13 rfl) (tgt := 951) (by decide) (fun h946 => ?_) (fun h946 => ?_)
      · refine e_goto (dat dL9 16 rfl) (tgt := 1022) (by decide) ?_
        refine e_wd (show _ ≤ cells + 3 by omega) (show _ ≤ slots + 18 by omega) (e_lv [2, 3, 4, 5, 6] rfl ?_)
        have hIv := hI
        have hmv := hm0 hc0
        have hCv := rc_fr8 hCA hIv.1.W hfr
        exact K _ _ _ hIv hCv hmv
      · exact absurd (cmp_eq (by
          rw [hwA]
          rw [htt])) h946
  · exact absurd hcd h929
theorem cs_14 {E : wE} {b L k cells slots : Nat} {xs : Nat → Int32} {m : wM} {f : wF} {w : Int64} (hE : (wl E).stackTraces = false) (hI : Iv m) (hC : Rc m f) (hm : Rm m f) (hL : L ≤ 2048) (hk4 : 4 * k + 4 ≤ L) (hcc : cells + 3 ≤ 662141) (hss : slots + 18 ≤ 7109682) (K : ∀ (m9 : wM) (f9 : wF) (w9 : Int64), Iv m9 → Rc m9 f9 → Rm m9 f9 → Ev E (jL E b L xs) (cells + 3) (slots + 18) 1022 [(4, .int (nI (4 * k))), (3, .ref (wB E + 56)), (2, .ref (wB E + 39)), (1, .ref (wB E + 0)), (0, .ref b)] [] f9 g0 w9 57) : Ev E (jL E b L xs) cells slots 954 [(4, .int (nI (4 * k))), (3, .ref (wB E + 56)), (2, .ref (wB E + 39)), (1, .ref (wB E + 0)), (0, .ref b)] [] f g0 w 57 := by
  have hW := hI.1.W
  have h12 := hW.S
  have h8 := hW.R
  refine e_aload_n (dat dL9 17 rfl) 3 rfl rfl ?_
  refine e_aload_n (dat dL9 18 rfl) 4 rfl rfl ?_
  refine e_iload (dat dL9 19 rfl) 0 rfl ?_
  refine n_iconst (dat dL9 20 rfl) 1 rfl ?_
  refine n_iadd (dat dL9 21 rfl) ?_
  refine e_sld (dat dL9 22 rfl) rfl (by omega) (by omega) ?_
  refine e_aload_n (dat dL9 23 rfl) 4 rfl rfl ?_
  refine e_iload (dat dL9 24 rfl) 0 rfl ?_
  refine n_iconst (dat dL9 25 rfl) 2 rfl ?_
  refine n_iadd (dat dL9 26 rfl) ?_
  refine e_sld (dat dL9 27 rfl) rfl (by omega) (by omega) ?_
  refine e_aload_n (dat dL9 28 rfl) 1 rfl rfl ?_
  refine s_callT (t_L_track hI hC hE) c_L_track (dat dL9 29 rfl) rfl k_485 rfl (show 0 ≤ 8 by decide) ⟨show 9 ≤ 11 by decide, show 264 ≤ 390 by decide⟩ ⟨show cells + 2 ≤ 662141 by omega, show slots + 12 ≤ 7109682 by omega⟩ (fun fA wA t9 ht9 hkA h0 h1 => ?_)
  have hmA := rm_kp hm hkA
  refine e_istore (dat dL9 30 rfl) (show 5 < 7 by decide) (lv2 := [(5, _), (4, _), (3, _), (2, _), (1, _), (0, _)]) rfl ?_
  refine e_aload_n (dat dL9 31 rfl) 3 rfl rfl ?_
  refine e_aload_n (dat dL9 32 rfl) 5 rfl rfl ?_
  refine e_iload (dat dL9 33 rfl) 1 rfl ?_
  refine n_iconst (dat dL9 34 rfl) 1 rfl ?_
  refine n_iadd (dat dL9 35 rfl) ?_
  refine e_sld (dat dL9 36 rfl) rfl (by omega) (by omega) ?_
  refine e_aload_n (dat dL9 37 rfl) 5 rfl rfl ?_
  refine e_iload (dat dL9 38 rfl) 1 rfl ?_
  refine n_iconst (dat dL9 39 rfl) 2 rfl ?_
  refine n_iadd (dat dL9 40 rfl) ?_
  refine e_sld (dat dL9 41 rfl) rfl (by omega) (by omega) ?_
  refine q_call (t_M_track hW hmA) c_M_track (dat dL9 42 rfl) rfl k_668 rfl rfl (by decide) (by omega) rfl (show 0 ≤ 8 by decide) ⟨show 2 ≤ 11 by decide, show 56 ≤ 390 by decide⟩ ⟨show cells + 2 + 0 ≤ 662141 by omega, show slots + 12 + 0 ≤ 7109682 by omega⟩ (fun v9 f9 h9 => ?_) (fun X9 h9 => h9.elim)
  obtain ⟨hcd, hfr, ⟨t, rfl, hta⟩, hm0, hm1⟩ := h9
  refine e_istore (dat dL9 43 rfl) (show 6 < 7 by decide) (lv2 := [(6, _), (5, _), (4, _), (3, _), (2, _), (1, _), (0, _)]) rfl ?_
  refine e_aload_n (dat dL9 44 rfl) 4 rfl rfl ?_
  refine r_call t_M_thrown c_M_thrown (dat dL9 45 rfl) rfl k_558 rfl rfl (by decide) (by omega) rfl (show 0 ≤ 8 by decide) ⟨show 1 ≤ 11 by decide, show 20 ≤ 390 by decide⟩ ⟨show cells + 2 ≤ 662141 by omega, show slots + 12 ≤ 7109682 by omega⟩ ?_
  refine e_iload (dat dL9 46 rfl) 1 rfl ?_
  refine e_icmp_eq (dat dL9 47 rfl) (tgt := 1002) (by decide) (fun h997 => ?_) (fun h997 => ?_)
  · refine e_iload (dat dL9 50 rfl) 1 rfl ?_
    refine e_if_ne (dat dL9 51 rfl) (tgt := 1019) (by decide) (fun h1004 => ?_) (fun h1004 => ?_)
    · have hcn : (kTrk m (xs (4 * k + 1)) (xs (4 * k + 2))) ≠ 0 := fun h => h1004 (by rw [h]; rfl)
      refine e_goto (dat dL10 1 rfl) (tgt := 1022) (by decide) ?_
      refine e_wd (show _ ≤ cells + 3 by omega) (show _ ≤ slots + 18 by omega) (e_lv [2, 3, 4, 5, 6] rfl ?_)
      exact K m f9 wA hI (rc_fr8 (h1 hcn) hW hfr) (hm1 hcn)
    · have hc0 : (kTrk m (xs (4 * k + 1)) (xs (4 * k + 2))) = 0 := nI_z (by exact Nat.lt_of_le_of_lt (kTrk_3 _ _ _) (by decide)) h1004
      obtain ⟨hwA, hCA⟩ := h0 hc0
      have htt := hta hc0
      refine e_aload_n (dat dL9 52 rfl) 3 rfl rfl ?_
      refine n_iconst (dat dL9 53 rfl) 0 rfl ?_
      refine e_lald (dat dL9 54 rfl) (by decide) ?_
      refine e_iload (dat dL9 55 rfl) 0 rfl ?_
      refine e_i2l (dat dL9 56 rfl) ?_
      refine e_lcmp (dat dL9 57 rfl) ?_
      refine e_if_eq (dat dL9 58 rfl) (tgt := 1019) (by decide) (fun h1014 => ?_) (fun h1014 => ?_)
      · refine e_goto (dat dL10 1 rfl) (tgt := 1022) (by decide) ?_
        refine e_wd (show _ ≤ cells + 3 by omega) (show _ ≤ slots + 18 by omega) (e_lv [2, 3, 4, 5, 6] rfl ?_)
        have hIv := hI
        have hmv := hm0 hc0
        have hCv := rc_fr8 hCA hIv.1.W hfr
        exact K _ _ _ hIv hCv hmv
      · exact absurd (cmp_eq (by
          rw [hwA]
          obtain ⟨q1, q2⟩ := kTrk_0 hW hc0
          rw [trk_eq hI.1 q1 q2 (ht9 hc0) htt])) h1014
  · exact absurd hcd h997
