theorem t_S_begin {E : wE} {f : wF} {w : Int64} {i : Nat} {x : Int32} (hi : i < 12) (hx : x = 0 ∨ x = 1) : Cr E i_S_begin 0 [.ref (wB E + (2 + i)), .int x] f w none (up2 (up2 (up2 (up2 (up2 (up2 f (2 + i) 0 x) (2 + i) 1 (nI 0)) (2 + i) 2 (nI 0)) (2 + i) 3 (nI 0)) (2 + i) 4 (nI 0)) (2 + i) 5 (nI 0)) := by
  refine cr_of rfl rfl rfl (show 2 ≤ 2 by decide) ?_
  refine e_aload_n (dat d_S_begin 0 rfl) 0 rfl rfl ?_
  refine e_iload_n (dat d_S_begin 1 rfl) 1 rfl rfl ?_
  refine s_pSb (dat d_S_begin 2 rfl) 0 k_26 (by decide) rfl rfl rfl rfl (by omega) hx ?_
  refine e_aload_n (dat d_S_begin 3 rfl) 0 rfl rfl ?_
  refine n_iconst (dat d_S_begin 4 rfl) 0 rfl ?_
  refine s_pSb (dat d_S_begin 5 rfl) 1 k_28 (by decide) rfl rfl rfl rfl (by omega) (z01 (by omega)) ?_
  refine e_aload_n (dat d_S_begin 6 rfl) 0 rfl rfl ?_
  refine n_iconst (dat d_S_begin 7 rfl) 0 rfl ?_
  refine s_pSb (dat d_S_begin 8 rfl) 2 k_30 (by decide) rfl rfl rfl rfl (by omega) (z01 (by omega)) ?_
  refine e_aload_n (dat d_S_begin 9 rfl) 0 rfl rfl ?_
  refine n_iconst (dat d_S_begin 10 rfl) 0 rfl ?_
  refine s_pS (dat d_S_begin 11 rfl) 3 k_32 (by decide) rfl rfl rfl rfl (by omega) ?_
  refine e_aload_n (dat d_S_begin 12 rfl) 0 rfl rfl ?_
  refine n_iconst (dat d_S_begin 13 rfl) 0 rfl ?_
  refine s_pS (dat d_S_begin 14 rfl) 4 k_34 (by decide) rfl rfl rfl rfl (by omega) ?_
  refine e_aload_n (dat d_S_begin 15 rfl) 0 rfl rfl ?_
  refine n_iconst (dat d_S_begin 16 rfl) 0 rfl ?_
  refine s_pS (dat d_S_begin 17 rfl) 5 k_36 (by decide) rfl rfl rfl rfl (by omega) ?_
  exact q_vret (dat d_S_begin 18 rfl) rfl (show 0 ≤ 0 by decide) (show 0 ≤ 0 by decide) ⟨rfl, rfl⟩
theorem t_S_want {E : wE} {f : wF} {w : Int64} {i : Nat} {x : Int32} (hi : i < 12) : Cr E i_S_want 0 [.ref (wB E + (2 + i)), .int x] f w none (if f (2 + i) 4 = x then f else (up2 (up2 (up2 f (2 + i) 4 x) (2 + i) 3 (-1)) (2 + i) 5 (nI 3))) := by
  refine cr_of rfl rfl rfl (show 2 ≤ 2 by decide) ?_
  refine e_aload_n (dat d_S_want 0 rfl) 0 rfl rfl ?_
  refine s_gS (dat d_S_want 1 rfl) 4 k_34 (by decide) rfl rfl (by omega) rfl ?_
  refine e_iload_n (dat d_S_want 2 rfl) 1 rfl rfl ?_
  refine e_icmp_eq (dat d_S_want 3 rfl) (tgt := 23) (by decide) (fun h => ?_) (fun h => ?_)
  · exact q_vret (dat d_S_want 13 rfl) rfl (show 0 ≤ 0 by decide) (show 0 ≤ 0 by decide) ⟨rfl, (if_pos h).symm⟩
  · refine e_aload_n (dat d_S_want 4 rfl) 0 rfl rfl ?_
    refine e_iload_n (dat d_S_want 5 rfl) 1 rfl rfl ?_
    refine s_pS (dat d_S_want 6 rfl) 4 k_34 (by decide) rfl rfl rfl rfl (by omega) ?_
    refine e_aload_n (dat d_S_want 7 rfl) 0 rfl rfl ?_
    refine e_iconst (v := -1) (dat d_S_want 8 rfl) rfl ?_
    refine s_pS (dat d_S_want 9 rfl) 3 k_32 (by decide) rfl rfl rfl rfl (by omega) ?_
    refine e_aload_n (dat d_S_want 10 rfl) 0 rfl rfl ?_
    refine n_iconst (dat d_S_want 11 rfl) 3 rfl ?_
    refine s_pS (dat d_S_want 12 rfl) 5 k_36 (by decide) rfl rfl rfl rfl (by omega) ?_
    exact q_vret (dat d_S_want 13 rfl) rfl (show 0 ≤ 0 by decide) (show 0 ≤ 0 by decide) ⟨rfl, (if_neg h).symm⟩
theorem t_S_moveOneTick {E : wE} {f : wF} {w : Int64} {i t : Nat} (hi : i < 12) (ht : f (2 + i) 5 = nI t) (h64 : t < 64) : Cr E i_S_moveOneTick 0 [.ref (wB E + (2 + i))] f w none (if t = 0 then f else if t = 1 then up2 (up2 f (2 + i) 5 (nI 0)) (2 + i) 3 (f (2 + i) 4) else up2 f (2 + i) 5 (nI (t - 1))) := by
  refine cr_of rfl rfl rfl (show 1 ≤ 1 by decide) ?_
  refine e_aload_n (dat d_S_moveOneTick 0 rfl) 0 rfl rfl ?_
  refine s_gS (dat d_S_moveOneTick 1 rfl) 5 k_36 (by decide) rfl rfl (by omega) ht ?_
  refine n_if_le (dat d_S_moveOneTick 2 rfl) (tgt := 32) (by decide) (by omega) (fun h => ?_) (fun h => ?_)
  · exact q_vret (dat d_S_moveOneTick 16 rfl) rfl (show 0 ≤ 0 by decide) (show 0 ≤ 0 by decide) ⟨rfl, by rw [if_pos h]⟩
  · obtain ⟨t, rfl⟩ : ∃ q, t = q + 1 := ⟨t - 1, by omega⟩
    refine e_aload_n (dat d_S_moveOneTick 3 rfl) 0 rfl rfl ?_
    refine e_dup (dat d_S_moveOneTick 4 rfl) rfl ?_
    refine s_gS (dat d_S_moveOneTick 5 rfl) 5 k_36 (by decide) rfl rfl (by omega) ht ?_
    refine n_iconst (dat d_S_moveOneTick 6 rfl) 1 rfl ?_
    refine n_isub1 (dat d_S_moveOneTick 7 rfl) ?_
    refine s_pS (dat d_S_moveOneTick 8 rfl) 5 k_36 (by decide) rfl rfl rfl rfl (by omega) ?_
    refine e_aload_n (dat d_S_moveOneTick 9 rfl) 0 rfl rfl ?_
    refine s_gS (dat d_S_moveOneTick 10 rfl) 5 k_36 (by decide) rfl rfl (by omega) up2_eq ?_
    refine n_if_ne (dat d_S_moveOneTick 11 rfl) (tgt := 32) (by decide) (by omega) (fun h => ?_) (fun h => ?_)
    · exact q_vret (dat d_S_moveOneTick 16 rfl) rfl (show 0 ≤ 0 by decide) (show 0 ≤ 0 by decide) ⟨rfl, by rw [if_neg (by omega), if_neg (by omega)]; rfl⟩
    · subst h
      refine e_aload_n (dat d_S_moveOneTick 12 rfl) 0 rfl rfl ?_
      refine e_aload_n (dat d_S_moveOneTick 13 rfl) 0 rfl rfl ?_
      refine s_gS (dat d_S_moveOneTick 14 rfl) 4 k_34 (by decide) rfl rfl (by omega) (up2_ne (by intro _; decide)) ?_
      refine s_pS (dat d_S_moveOneTick 15 rfl) 3 k_32 (by decide) rfl rfl rfl rfl (by omega) ?_
      exact q_vret (dat d_S_moveOneTick 16 rfl) rfl (show 0 ≤ 0 by decide) (show 0 ≤ 0 by decide) ⟨rfl, by rw [if_neg (by omega), if_pos rfl]⟩
theorem t_S_isFoundIn {E : wE} {f : wF} {w : Int64} {i : Nat} {x : Int32} (hi : i < 12) : Cr E i_S_isFoundIn 0 [.ref (wB E + (2 + i)), .int x] f w (some (.int (nI (if f (2 + i) 3 = x ∧ f (2 + i) 2 = 0 then 1 else 0)))) f := by
  refine cr_of rfl rfl rfl (show 2 ≤ 2 by decide) ?_
  refine e_aload_n (dat d_S_isFoundIn 0 rfl) 0 rfl rfl ?_
  refine s_gS (dat d_S_isFoundIn 1 rfl) 3 k_32 (by decide) rfl rfl (by omega) rfl ?_
  refine e_iload_n (dat d_S_isFoundIn 2 rfl) 1 rfl rfl ?_
  refine e_icmp_ne (dat d_S_isFoundIn 3 rfl) (tgt := 19) (by decide) (fun h1 => ?_) (fun h1 => ?_)
  · refine n_iconst (dat d_S_isFoundIn 9 rfl) 0 rfl ?_
    exact q_zret (dat d_S_isFoundIn 10 rfl) rfl (z01 (by decide)) (show 0 ≤ 0 by decide) (show 0 ≤ 0 by decide) ⟨by rw [if_neg (fun h => h1 h.1)], rfl⟩
  · refine e_aload_n (dat d_S_isFoundIn 4 rfl) 0 rfl rfl ?_
    refine s_gS (dat d_S_isFoundIn 5 rfl) 2 k_30 (by decide) rfl rfl (by omega) rfl ?_
    refine e_if_ne (dat d_S_isFoundIn 6 rfl) (tgt := 19) (by decide) (fun h2 => ?_) (fun h2 => ?_)
    · refine n_iconst (dat d_S_isFoundIn 9 rfl) 0 rfl ?_
      exact q_zret (dat d_S_isFoundIn 10 rfl) rfl (z01 (by decide)) (show 0 ≤ 0 by decide) (show 0 ≤ 0 by decide) ⟨by rw [if_neg (fun h => h2 h.2)], rfl⟩
    · refine n_iconst (dat d_S_isFoundIn 7 rfl) 1 rfl ?_
      refine e_goto (dat d_S_isFoundIn 8 rfl) (tgt := 20) (by decide) ?_
      exact q_zret (dat d_S_isFoundIn 10 rfl) rfl (z01 (by decide)) (show 0 ≤ 0 by decide) (show 0 ≤ 0 by decide) ⟨by rw [if_pos ⟨h1, h2⟩], rfl⟩
theorem t_R_isPass {E : wE} {m : wM} {f : wF} {w : Int64} {r k : Nat} (hW : Wv m) (hC : Rc m f) (hr : r < m 39 7) (hk : k < m 51 r) : Cr E i_R_isPass 0 [.ref (wB E + (15 + 3 * r)), .int (nI k)] f w (some (.int (nI (if m 53 (6 * r + k) < 3 then 1 else 0)))) f := by
  have h12 := hW.S
  have h8 := hW.R
  have h6 := hW.N hr
  have h4 := hW.h hr hk
  have hw := hW.w hr hk
  refine cr_of rfl rfl rfl (show 2 ≤ 2 by decide) ?_
  refine e_aload_n (dat d_R_isPass 0 rfl) 0 rfl rfl ?_
  refine s_qV (dat d_R_isPass 1 rfl) k_60 (by omega) ?_
  refine e_iload_n (dat d_R_isPass 2 rfl) 1 rfl rfl ?_
  refine s_iV (dat d_R_isPass 3 rfl) (by omega) rfl (by omega) (cV hC (by omega) (by omega)) ?_
  refine n_iconst (dat d_R_isPass 4 rfl) 2 rfl ?_
  refine n_icmp_gt (dat d_R_isPass 5 rfl) (tgt := 14) (by decide) (by omega) (by omega) (fun h => ?_) (fun h => ?_)
  · refine n_iconst (dat d_R_isPass 8 rfl) 0 rfl ?_
    exact q_zret (dat d_R_isPass 9 rfl) rfl (z01 (by decide)) (show 0 ≤ 0 by decide) (show 0 ≤ 0 by decide) ⟨by rw [if_neg (by omega)], rfl⟩
  · refine n_iconst (dat d_R_isPass 6 rfl) 1 rfl ?_
    refine e_goto (dat d_R_isPass 7 rfl) (tgt := 15) (by decide) ?_
    exact q_zret (dat d_R_isPass 9 rfl) rfl (z01 (by decide)) (show 0 ≤ 0 by decide) (show 0 ≤ 0 by decide) ⟨by rw [if_pos (by omega)], rfl⟩
theorem t_R_positionOf {E : wE} {m : wM} {f : wF} {w : Int64} {r k : Nat} (hW : Wv m) (hC : Rc m f) (hr : r < m 39 7) (hk : k < m 51 r) : Cr E i_R_positionOf 0 [.ref (wB E + (15 + 3 * r)), .int (nI k)] f w (some (.int (posI (m 53 (6 * r + k))))) f := by
  have h12 := hW.S
  have h8 := hW.R
  have h6 := hW.N hr
  have h4 := hW.h hr hk
  have hw := hW.w hr hk
  refine cr_of rfl rfl rfl (show 2 ≤ 2 by decide) ?_
  refine e_aload_n (dat d_R_positionOf 0 rfl) 0 rfl rfl ?_
  refine s_qV (dat d_R_positionOf 1 rfl) k_60 (by omega) ?_
  refine e_iload_n (dat d_R_positionOf 2 rfl) 1 rfl rfl ?_
  refine s_iV (dat d_R_positionOf 3 rfl) (by omega) rfl (by omega) (cV hC (by omega) (by omega)) ?_
  refine n_if_ne (dat d_R_positionOf 4 rfl) (tgt := 13) (by decide) (by omega) (fun h0 => ?_) (fun h0 => ?_)
  · refine e_aload_n (dat d_R_positionOf 7 rfl) 0 rfl rfl ?_
    refine s_qV (dat d_R_positionOf 8 rfl) k_60 (by omega) ?_
    refine e_iload_n (dat d_R_positionOf 9 rfl) 1 rfl rfl ?_
    refine s_iV (dat d_R_positionOf 10 rfl) (by omega) rfl (by omega) (cV hC (by omega) (by omega)) ?_
    refine n_iconst (dat d_R_positionOf 11 rfl) 1 rfl ?_
    refine e_isub (dat d_R_positionOf 12 rfl) ?_
    refine n_iconst (dat d_R_positionOf 13 rfl) 1 rfl ?_
    refine e_iand (dat d_R_positionOf 14 rfl) ?_
    exact q_iret (dat d_R_positionOf 15 rfl) rfl (show 0 ≤ 0 by decide) (show 0 ≤ 0 by decide) ⟨by rw [posI, if_neg h0, i_psn _ (by omega) h0], rfl⟩
  · refine e_iconst (v := -1) (dat d_R_positionOf 5 rfl) rfl ?_
    refine e_goto (dat d_R_positionOf 6 rfl) (tgt := 23) (by decide) ?_
    exact q_iret (dat d_R_positionOf 15 rfl) rfl (show 0 ≤ 0 by decide) (show 0 ≤ 0 by decide) ⟨by rw [posI, if_pos h0], rfl⟩
theorem t_R_holds {E : wE} {m : wM} {f : wF} {w : Int64} {r k : Nat} (hW : Wv m) (hC : Rc m f) (hr : r < m 39 7) (hk : k < m 51 r) : Cr E i_R_holds 0 [.ref (wB E + (15 + 3 * r)), .int (nI k)] f w (some (.int (nI (m 54 (6 * r + k))))) f := by
  have h12 := hW.S
  have h8 := hW.R
  have h6 := hW.N hr
  have h4 := hW.h hr hk
  have hw := hW.w hr hk
  refine cr_of rfl rfl rfl (show 2 ≤ 2 by decide) ?_
  have h9 := hW.hk hk
  have h64 := hW.hb hr
  refine e_aload_n (dat d_R_holds 0 rfl) 0 rfl rfl ?_
  refine s_gR (dat d_R_holds 1 rfl) 9 k_74 (by decide) rfl rfl (by omega) (cR9 hC (by omega)) ?_
  refine n_iconst (dat d_R_holds 2 rfl) 1 rfl ?_
  refine e_iload_n (dat d_R_holds 3 rfl) 1 rfl rfl ?_
  refine e_ishl (dat d_R_holds 4 rfl) ?_
  refine e_iand (dat d_R_holds 5 rfl) ?_
  refine e_if_eq (dat d_R_holds 6 rfl) (tgt := 15) (by decide) (fun h0 => ?_) (fun h0 => ?_)
  · have h1 := (i_bit _ h64 _ (by omega)).mp h0
    refine n_iconst (dat d_R_holds 9 rfl) 0 rfl ?_
    exact q_zret (dat d_R_holds 10 rfl) rfl (z01 (by decide)) (show 0 ≤ 0 by decide) (show 0 ≤ 0 by decide) ⟨by rw [show m 54 (6 * r + k) = 0 by omega], rfl⟩
  · have h1 : ¬ _ := fun h => h0 ((i_bit _ h64 _ (by omega)).mpr h)
    have h5 : m 54 (6 * r + k) ≤ 1 := by
      have := (hW.o (6 * r + k)).2.2.2.2.1
      have := (hW.o (6 * r + k)).2.2.2.2.2
      first | assumption | exact m01 (by assumption) (by assumption)
    refine n_iconst (dat d_R_holds 7 rfl) 1 rfl ?_
    refine e_goto (dat d_R_holds 8 rfl) (tgt := 16) (by decide) ?_
    exact q_zret (dat d_R_holds 10 rfl) rfl (z01 (by decide)) (show 0 ≤ 0 by decide) (show 0 ≤ 0 by decide) ⟨by rw [show m 54 (6 * r + k) = 1 by omega], rfl⟩
theorem t_R_isRunOver {E : wE} {m : wM} {f : wF} {w : Int64} {r k : Nat} (hW : Wv m) (hC : Rc m f) (hr : r < m 39 7) (hk : k < m 51 r) : Cr E i_R_isRunOver 0 [.ref (wB E + (15 + 3 * r)), .int (nI k)] f w (some (.int (nI (m 54 (6 * r + k) * m 55 (6 * r + k))))) f := by
  have h12 := hW.S
  have h8 := hW.R
  have h6 := hW.N hr
  have h4 := hW.h hr hk
  have hw := hW.w hr hk
  refine cr_of rfl rfl rfl (show 2 ≤ 2 by decide) ?_
  have h9 := hW.vk hk
  have h64 := hW.vb hr
  refine e_aload_n (dat d_R_isRunOver 0 rfl) 0 rfl rfl ?_
  refine s_gR (dat d_R_isRunOver 1 rfl) 10 k_76 (by decide) rfl rfl (by omega) (cR10 hC (by omega)) ?_
  refine n_iconst (dat d_R_isRunOver 2 rfl) 1 rfl ?_
  refine e_iload_n (dat d_R_isRunOver 3 rfl) 1 rfl rfl ?_
  refine e_ishl (dat d_R_isRunOver 4 rfl) ?_
  refine e_iand (dat d_R_isRunOver 5 rfl) ?_
  refine e_if_eq (dat d_R_isRunOver 6 rfl) (tgt := 15) (by decide) (fun h0 => ?_) (fun h0 => ?_)
  · have h1 := (i_bit _ h64 _ (by omega)).mp h0
    refine n_iconst (dat d_R_isRunOver 9 rfl) 0 rfl ?_
    exact q_zret (dat d_R_isRunOver 10 rfl) rfl (z01 (by decide)) (show 0 ≤ 0 by decide) (show 0 ≤ 0 by decide) ⟨by rw [show m 54 (6 * r + k) * m 55 (6 * r + k) = 0 by omega], rfl⟩
  · have h1 : ¬ _ := fun h => h0 ((i_bit _ h64 _ (by omega)).mpr h)
    have h5 : m 54 (6 * r + k) * m 55 (6 * r + k) ≤ 1 := by
      have := (hW.o (6 * r + k)).2.2.2.2.1
      have := (hW.o (6 * r + k)).2.2.2.2.2
      first | assumption | exact m01 (by assumption) (by assumption)
    refine n_iconst (dat d_R_isRunOver 7 rfl) 1 rfl ?_
    refine e_goto (dat d_R_isRunOver 8 rfl) (tgt := 16) (by decide) ?_
    exact q_zret (dat d_R_isRunOver 10 rfl) rfl (z01 (by decide)) (show 0 ≤ 0 by decide) (show 0 ≤ 0 by decide) ⟨by rw [show m 54 (6 * r + k) * m 55 (6 * r + k) = 1 by omega], rfl⟩
theorem t_R_allUses {E : wE} {f : wF} {w : Int64} {r c : Nat} (hr : r < 8) (hc : f (15 + 3 * r) 2 = nI c) (h6 : c ≤ 6) : Cr E i_R_allUses 0 [.ref (wB E + (15 + 3 * r))] f w (some (.int (nI (bts (fun _ => 1) c)))) f := by
  refine cr_of rfl rfl rfl (show 1 ≤ 1 by decide) ?_
  refine n_iconst (dat d_R_allUses 0 rfl) 1 rfl ?_
  refine e_aload_n (dat d_R_allUses 1 rfl) 0 rfl rfl ?_
  refine s_gR (dat d_R_allUses 2 rfl) 2 k_61 (by decide) rfl rfl (by omega) hc ?_
  refine e_ishl (dat d_R_allUses 3 rfl) ?_
  refine n_iconst (dat d_R_allUses 4 rfl) 1 rfl ?_
  refine e_isub (dat d_R_allUses 5 rfl) ?_
  exact q_iret (dat d_R_allUses 6 rfl) rfl (show 0 ≤ 0 by decide) (show 0 ≤ 0 by decide) ⟨by rw [i_all _ (by omega)], rfl⟩
theorem t_R_becomeFree {E : wE} {f : wF} {w : Int64} {r : Nat} (hr : r < 8) : Cr E i_R_becomeFree 0 [.ref (wB E + (15 + 3 * r))] f w none (up2 (up2 (up2 (up2 (up2 f (15 + 3 * r) 6 (nI 0)) (15 + 3 * r) 7 (nI 0)) (15 + 3 * r) 8 (nI 0)) (15 + 3 * r) 9 (nI 0)) (15 + 3 * r) 10 (nI 0)) := by
  refine cr_of rfl rfl rfl (show 1 ≤ 1 by decide) ?_
  refine e_aload_n (dat d_R_becomeFree 0 rfl) 0 rfl rfl ?_
  refine n_iconst (dat d_R_becomeFree 1 rfl) 0 rfl ?_
  refine s_pR (dat d_R_becomeFree 2 rfl) 6 k_69 (by decide) rfl rfl rfl rfl (by omega) ?_
  refine e_aload_n (dat d_R_becomeFree 3 rfl) 0 rfl rfl ?_
  refine n_iconst (dat d_R_becomeFree 4 rfl) 0 rfl ?_
  refine s_pR (dat d_R_becomeFree 5 rfl) 7 k_70 (by decide) rfl rfl rfl rfl (by omega) ?_
  refine e_aload_n (dat d_R_becomeFree 6 rfl) 0 rfl rfl ?_
  refine n_iconst (dat d_R_becomeFree 7 rfl) 0 rfl ?_
  refine s_pRb (dat d_R_becomeFree 8 rfl) 8 k_73 (by decide) rfl rfl rfl rfl (by omega) (z01 (by decide)) ?_
  refine e_aload_n (dat d_R_becomeFree 9 rfl) 0 rfl rfl ?_
  refine n_iconst (dat d_R_becomeFree 10 rfl) 0 rfl ?_
  refine s_pR (dat d_R_becomeFree 11 rfl) 9 k_74 (by decide) rfl rfl rfl rfl (by omega) ?_
  refine e_aload_n (dat d_R_becomeFree 12 rfl) 0 rfl rfl ?_
  refine n_iconst (dat d_R_becomeFree 13 rfl) 0 rfl ?_
  refine s_pR (dat d_R_becomeFree 14 rfl) 10 k_76 (by decide) rfl rfl rfl rfl (by omega) ?_
  exact q_vret (dat d_R_becomeFree 15 rfl) rfl (show 0 ≤ 0 by decide) (show 0 ≤ 0 by decide) ⟨rfl, rfl⟩
theorem t_R_becomeSet {E : wE} {f : wF} {w : Int64} {r c : Nat} (hr : r < 8) (hc : f (15 + 3 * r) 2 = nI c) (h6 : c ≤ 6) : Cr E i_R_becomeSet 1 [.ref (wB E + (15 + 3 * r))] f w none (up2 (up2 f (15 + 3 * r) 6 (nI 1)) (15 + 3 * r) 9 (nI (bts (fun _ => 1) c))) := by
  refine cr_of rfl rfl rfl (show 1 ≤ 1 by decide) ?_
  refine e_aload_n (dat d_R_becomeSet 0 rfl) 0 rfl rfl ?_
  refine n_iconst (dat d_R_becomeSet 1 rfl) 1 rfl ?_
  refine s_pR (dat d_R_becomeSet 2 rfl) 6 k_69 (by decide) rfl rfl rfl rfl (by omega) ?_
  refine e_aload_n (dat d_R_becomeSet 3 rfl) 0 rfl rfl ?_
  refine e_aload_n (dat d_R_becomeSet 4 rfl) 0 rfl rfl ?_
  refine r_call (t_R_allUses (c := c) hr ((up2_ne (by intro _; decide)).trans hc) h6) c_R_allUses (dat d_R_becomeSet 5 rfl) rfl k_335 rfl (kd_R _ (by omega)) (by decide) (by omega) rfl (show 1 ≤ 8 by decide) ⟨show 1 ≤ 1 by decide, show 20 ≤ 30 by decide⟩ ⟨show 0 ≤ 0 by decide, show 0 ≤ 0 by decide⟩ ?_
  refine s_pR (dat d_R_becomeSet 6 rfl) 9 k_74 (by decide) rfl rfl rfl rfl (by omega) ?_
  exact q_vret (dat d_R_becomeSet 7 rfl) rfl (show 0 ≤ 0 by decide) (show 0 ≤ 0 by decide) ⟨rfl, rfl⟩
theorem t_R_becomeTaken {E : wE} {f : wF} {w : Int64} {r : Nat} {k : Nat} (hr : r < 8) : Cr E i_R_becomeTaken 0 [.ref (wB E + (15 + 3 * r)), .int (nI k)] f w none (up2 (up2 (up2 f (15 + 3 * r) 6 (nI 2)) (15 + 3 * r) 7 (nI 0)) (15 + 3 * r) 10 (f (15 + 3 * r) 10 ||| (nI 1 <<< (nI k &&& 31)))) := by
  refine cr_of rfl rfl rfl (show 2 ≤ 2 by decide) ?_
  refine e_aload_n (dat d_R_becomeTaken 0 rfl) 0 rfl rfl ?_
  refine n_iconst (dat d_R_becomeTaken 1 rfl) 2 rfl ?_
  refine s_pR (dat d_R_becomeTaken 2 rfl) 6 k_69 (by decide) rfl rfl rfl rfl (by omega) ?_
  refine e_aload_n (dat d_R_becomeTaken 3 rfl) 0 rfl rfl ?_
  refine n_iconst (dat d_R_becomeTaken 4 rfl) 0 rfl ?_
  refine s_pR (dat d_R_becomeTaken 5 rfl) 7 k_70 (by decide) rfl rfl rfl rfl (by omega) ?_
  refine e_aload_n (dat d_R_becomeTaken 6 rfl) 0 rfl rfl ?_
  refine e_dup (dat d_R_becomeTaken 7 rfl) rfl ?_
  refine s_gR (dat d_R_becomeTaken 8 rfl) 10 k_76 (by decide) rfl rfl (by omega) ((up2_ne (by intro _; decide)).trans (up2_ne (by intro _; decide))) ?_
  refine n_iconst (dat d_R_becomeTaken 9 rfl) 1 rfl ?_
  refine e_iload_n (dat d_R_becomeTaken 10 rfl) 1 rfl rfl ?_
  refine e_ishl (dat d_R_becomeTaken 11 rfl) ?_
  refine e_ior (dat d_R_becomeTaken 12 rfl) ?_
  refine s_pR (dat d_R_becomeTaken 13 rfl) 10 k_76 (by decide) rfl rfl rfl rfl (by omega) ?_
  exact q_vret (dat d_R_becomeTaken 14 rfl) rfl (show 0 ≤ 0 by decide) (show 0 ≤ 0 by decide) ⟨rfl, rfl⟩
theorem t_R_becomeTimed {E : wE} {f : wF} {w : Int64} {r : Nat} (hr : r < 8) : Cr E i_R_becomeTimed 0 [.ref (wB E + (15 + 3 * r))] f w none (up2 (up2 f (15 + 3 * r) 6 (nI 3)) (15 + 3 * r) 7 (f (15 + 3 * r) 5)) := by
  refine cr_of rfl rfl rfl (show 1 ≤ 1 by decide) ?_
  refine e_aload_n (dat d_R_becomeTimed 0 rfl) 0 rfl rfl ?_
  refine n_iconst (dat d_R_becomeTimed 1 rfl) 3 rfl ?_
  refine s_pR (dat d_R_becomeTimed 2 rfl) 6 k_69 (by decide) rfl rfl rfl rfl (by omega) ?_
  refine e_aload_n (dat d_R_becomeTimed 3 rfl) 0 rfl rfl ?_
  refine e_aload_n (dat d_R_becomeTimed 4 rfl) 0 rfl rfl ?_
  refine s_gR (dat d_R_becomeTimed 5 rfl) 5 k_67 (by decide) rfl rfl (by omega) (up2_ne (by intro _; decide)) ?_
  refine s_pR (dat d_R_becomeTimed 6 rfl) 7 k_70 (by decide) rfl rfl rfl rfl (by omega) ?_
  exact q_vret (dat d_R_becomeTimed 7 rfl) rfl (show 0 ≤ 0 by decide) (show 0 ≤ 0 by decide) ⟨rfl, rfl⟩
theorem t_R_letGoOf {E : wE} {f : wF} {w : Int64} {r : Nat} {k : Nat} (hr : r < 8) : Cr E i_R_letGoOf 0 [.ref (wB E + (15 + 3 * r)), .int (nI k)] f w none (up2 (up2 f (15 + 3 * r) 9 (f (15 + 3 * r) 9 &&& ((nI 1 <<< (nI k &&& 31)) ^^^ (-1)))) (15 + 3 * r) 10 (f (15 + 3 * r) 10 &&& ((nI 1 <<< (nI k &&& 31)) ^^^ (-1)))) := by
  refine cr_of rfl rfl rfl (show 2 ≤ 2 by decide) ?_
  refine e_aload_n (dat d_R_letGoOf 0 rfl) 0 rfl rfl ?_
  refine e_dup (dat d_R_letGoOf 1 rfl) rfl ?_
  refine s_gR (dat d_R_letGoOf 2 rfl) 9 k_74 (by decide) rfl rfl (by omega) rfl ?_
  refine n_iconst (dat d_R_letGoOf 3 rfl) 1 rfl ?_
  refine e_iload_n (dat d_R_letGoOf 4 rfl) 1 rfl rfl ?_
  refine e_ishl (dat d_R_letGoOf 5 rfl) ?_
  refine e_iconst (v := -1) (dat d_R_letGoOf 6 rfl) rfl ?_
  refine e_ixor (dat d_R_letGoOf 7 rfl) ?_
  refine e_iand (dat d_R_letGoOf 8 rfl) ?_
  refine s_pR (dat d_R_letGoOf 9 rfl) 9 k_74 (by decide) rfl rfl rfl rfl (by omega) ?_
  refine e_aload_n (dat d_R_letGoOf 10 rfl) 0 rfl rfl ?_
  refine e_dup (dat d_R_letGoOf 11 rfl) rfl ?_
  refine s_gR (dat d_R_letGoOf 12 rfl) 10 k_76 (by decide) rfl rfl (by omega) (up2_ne (by intro _; decide)) ?_
  refine n_iconst (dat d_R_letGoOf 13 rfl) 1 rfl ?_
  refine e_iload_n (dat d_R_letGoOf 14 rfl) 1 rfl rfl ?_
  refine e_ishl (dat d_R_letGoOf 15 rfl) ?_
  refine e_iconst (v := -1) (dat d_R_letGoOf 16 rfl) rfl ?_
  refine e_ixor (dat d_R_letGoOf 17 rfl) ?_
  refine e_iand (dat d_R_letGoOf 18 rfl) ?_
  refine s_pR (dat d_R_letGoOf 19 rfl) 10 k_76 (by decide) rfl rfl rfl rfl (by omega) ?_
  exact q_vret (dat d_R_letGoOf 20 rfl) rfl (show 0 ≤ 0 by decide) (show 0 ≤ 0 by decide) ⟨rfl, rfl⟩
theorem t_R_countDown {E : wE} {f : wF} {w : Int64} {r s t : Nat} (hr : r < 8) (hs : f (15 + 3 * r) 6 = nI s) (ht : f (15 + 3 * r) 7 = nI t) (h3 : s < 64) (h4 : t < 64) (h0 : s = 3 → 1 ≤ t) : Cr E i_R_countDown 1 [.ref (wB E + (15 + 3 * r))] f w none (if s = 3 then (if t = 1 then (up2 (up2 (up2 (up2 (up2 (up2 f (15 + 3 * r) 7 (nI 0)) (15 + 3 * r) 6 (nI 0)) (15 + 3 * r) 7 (nI 0)) (15 + 3 * r) 8 (nI 0)) (15 + 3 * r) 9 (nI 0)) (15 + 3 * r) 10 (nI 0)) else (up2 f (15 + 3 * r) 7 (nI (t - 1)))) else f) := by
  refine cr_of rfl rfl rfl (show 1 ≤ 1 by decide) ?_
  refine e_aload_n (dat d_R_countDown 0 rfl) 0 rfl rfl ?_
  refine s_gR (dat d_R_countDown 1 rfl) 6 k_69 (by decide) rfl rfl (by omega) hs ?_
  refine n_iconst (dat d_R_countDown 2 rfl) 3 rfl ?_
  refine n_icmp_ne (dat d_R_countDown 3 rfl) (tgt := 29) (by decide) (by omega) (by omega) (fun h1 => ?_) (fun h1 => ?_)
  · exact q_vret (dat d_R_countDown 15 rfl) rfl (show 0 ≤ 0 by decide) (show 0 ≤ 0 by decide) ⟨rfl, by rw [if_neg h1]⟩
  · obtain ⟨t, rfl⟩ : ∃ q, t = q + 1 := ⟨t - 1, by have := h0 h1; omega⟩
    refine e_aload_n (dat d_R_countDown 4 rfl) 0 rfl rfl ?_
    refine e_dup (dat d_R_countDown 5 rfl) rfl ?_
    refine s_gR (dat d_R_countDown 6 rfl) 7 k_70 (by decide) rfl rfl (by omega) ht ?_
    refine n_iconst (dat d_R_countDown 7 rfl) 1 rfl ?_
    refine n_isub1 (dat d_R_countDown 8 rfl) ?_
    refine s_pR (dat d_R_countDown 9 rfl) 7 k_70 (by decide) rfl rfl rfl rfl (by omega) ?_
    refine e_aload_n (dat d_R_countDown 10 rfl) 0 rfl rfl ?_
    refine s_gR (dat d_R_countDown 11 rfl) 7 k_70 (by decide) rfl rfl (by omega) up2_eq ?_
    refine n_if_gt (dat d_R_countDown 12 rfl) (tgt := 29) (by decide) (by omega) (fun h2 => ?_) (fun h2 => ?_)
    · exact q_vret (dat d_R_countDown 15 rfl) rfl (show 0 ≤ 0 by decide) (show 0 ≤ 0 by decide) ⟨rfl, by rw [if_pos h1, if_neg (by omega)]; rfl⟩
    · refine e_aload_n (dat d_R_countDown 13 rfl) 0 rfl rfl ?_
      refine r_call (t_R_becomeFree hr) c_R_becomeFree (dat d_R_countDown 14 rfl) rfl k_252 rfl (kd_R _ (by omega)) (by decide) (by omega) rfl (show 0 ≤ 8 by decide) ⟨show 1 ≤ 1 by decide, show 20 ≤ 30 by decide⟩ ⟨show 0 ≤ 0 by decide, show 0 ≤ 0 by decide⟩ ?_
      exact q_vret (dat d_R_countDown 15 rfl) rfl (show 0 ≤ 0 by decide) (show 0 ≤ 0 by decide) ⟨rfl, by subst h2; rw [if_pos h1, if_pos rfl]⟩
theorem t_R_begin {E : wE} {f : wF} {w : Int64} {r : Nat} {x y z : Int32} (hr : r < 8) : Cr E i_R_begin 1 [.ref (wB E + (15 + 3 * r)), .int x, .int y, .int z] f w none (up2 (up2 (up2 (up2 (up2 (up2 (up2 (up2 (up2 f (15 + 3 * r) 2 (nI 0)) (15 + 3 * r) 3 x) (15 + 3 * r) 4 y) (15 + 3 * r) 5 z) (15 + 3 * r) 6 (nI 0)) (15 + 3 * r) 7 (nI 0)) (15 + 3 * r) 8 (nI 0)) (15 + 3 * r) 9 (nI 0)) (15 + 3 * r) 10 (nI 0)) := by
  refine cr_of rfl rfl rfl (show 4 ≤ 4 by decide) ?_
  refine e_aload_n (dat d_R_begin 0 rfl) 0 rfl rfl ?_
  refine n_iconst (dat d_R_begin 1 rfl) 0 rfl ?_
  refine s_pR (dat d_R_begin 2 rfl) 2 k_61 (by decide) rfl rfl rfl rfl (by omega) ?_
  refine e_aload_n (dat d_R_begin 3 rfl) 0 rfl rfl ?_
  refine e_iload_n (dat d_R_begin 4 rfl) 1 rfl rfl ?_
  refine s_pR (dat d_R_begin 5 rfl) 3 k_63 (by decide) rfl rfl rfl rfl (by omega) ?_
  refine e_aload_n (dat d_R_begin 6 rfl) 0 rfl rfl ?_
  refine e_iload_n (dat d_R_begin 7 rfl) 2 rfl rfl ?_
  refine s_pR (dat d_R_begin 8 rfl) 4 k_65 (by decide) rfl rfl rfl rfl (by omega) ?_
  refine e_aload_n (dat d_R_begin 9 rfl) 0 rfl rfl ?_
  refine e_iload_n (dat d_R_begin 10 rfl) 3 rfl rfl ?_
  refine s_pR (dat d_R_begin 11 rfl) 5 k_67 (by decide) rfl rfl rfl rfl (by omega) ?_
  refine e_aload_n (dat d_R_begin 12 rfl) 0 rfl rfl ?_
  refine r_call (t_R_becomeFree hr) c_R_becomeFree (dat d_R_begin 13 rfl) rfl k_252 rfl (kd_R _ (by omega)) (by decide) (by omega) rfl (show 0 ≤ 8 by decide) ⟨show 1 ≤ 1 by decide, show 20 ≤ 30 by decide⟩ ⟨show 0 ≤ 0 by decide, show 0 ≤ 0 by decide⟩ ?_
  exact q_vret (dat d_R_begin 14 rfl) rfl (show 0 ≤ 0 by decide) (show 0 ≤ 0 by decide) ⟨rfl, rfl⟩
theorem t_R_addUse {E : wE} {f : wF} {w : Int64} {r c : Nat} {x y : Int32} (hr : r < 8) (hc : f (15 + 3 * r) 2 = nI c) (h6 : c < 6) : Cr E i_R_addUse 0 [.ref (wB E + (15 + 3 * r)), .int x, .int y] f w none (up2 (up2 (up2 f (16 + 3 * r) c x) (17 + 3 * r) c y) (15 + 3 * r) 2 (nI (c + 1))) := by
  refine cr_of rfl rfl rfl (show 3 ≤ 3 by decide) ?_
  refine e_aload_n (dat d_R_addUse 0 rfl) 0 rfl rfl ?_
  refine s_gR (dat d_R_addUse 1 rfl) 2 k_61 (by decide) rfl rfl (by omega) hc ?_
  refine n_bipush (dat d_R_addUse 2 rfl) 6 rfl ?_
  refine n_icmp_ge (dat d_R_addUse 3 rfl) (tgt := 39) (by decide) (by omega) (by omega) (fun h => ?_) (fun h => ?_)
  · omega
  · refine e_aload_n (dat d_R_addUse 4 rfl) 0 rfl rfl ?_
    refine s_qU (dat d_R_addUse 5 rfl) k_58 (by omega) ?_
    refine e_aload_n (dat d_R_addUse 6 rfl) 0 rfl rfl ?_
    refine s_gR (dat d_R_addUse 7 rfl) 2 k_61 (by decide) rfl rfl (by omega) hc ?_
    refine e_iload_n (dat d_R_addUse 8 rfl) 1 rfl rfl ?_
    refine s_sU (dat d_R_addUse 9 rfl) (by omega) rfl (by omega) ?_
    refine e_aload_n (dat d_R_addUse 10 rfl) 0 rfl rfl ?_
    refine s_qV (dat d_R_addUse 11 rfl) k_60 (by omega) ?_
    refine e_aload_n (dat d_R_addUse 12 rfl) 0 rfl rfl ?_
    refine s_gR (dat d_R_addUse 13 rfl) 2 k_61 (by decide) rfl rfl (by omega) ((up2_ne (by omega)).trans hc) ?_
    refine e_iload_n (dat d_R_addUse 14 rfl) 2 rfl rfl ?_
    refine s_sV (dat d_R_addUse 15 rfl) (by omega) rfl (by omega) ?_
    refine e_aload_n (dat d_R_addUse 16 rfl) 0 rfl rfl ?_
    refine e_dup (dat d_R_addUse 17 rfl) rfl ?_
    refine s_gR (dat d_R_addUse 18 rfl) 2 k_61 (by decide) rfl rfl (by omega) (((up2_ne (by omega)).trans (up2_ne (by omega))).trans hc) ?_
    refine n_iconst (dat d_R_addUse 19 rfl) 1 rfl ?_
    refine n_iadd (dat d_R_addUse 20 rfl) ?_
    refine s_pR (dat d_R_addUse 21 rfl) 2 k_61 (by decide) rfl rfl rfl rfl (by omega) ?_
    exact q_vret (dat d_R_addUse 22 rfl) rfl (show 0 ≤ 0 by decide) (show 0 ≤ 0 by decide) ⟨rfl, rfl⟩
theorem t_R_useOf {E : wE} {m : wM} {f : wF} {w : Int64} {r s : Nat} (hW : Wv m) (hC : Rc m f) (hr : r < m 39 7) (hs : s < 64) : Cq E i_R_useOf 0 0 0 [.ref (wB E + (15 + 3 * r)), .int (nI s)] f w (fun v9 f9 => f9 = f ∧ ((∃ k, k < m 51 r ∧ m 52 (6 * r + k) = s ∧ v9 = some (.int (nI k))) ∨ ((∀ k, k < m 51 r → m 52 (6 * r + k) ≠ s) ∧ v9 = some (.int (-1))))) (fun _ => False) := by
  have h12 := hW.S
  have h8 := hW.R
  have h6 := hW.N hr
  refine cq_of rfl rfl rfl (show 2 ≤ 3 by decide) ?_
  have L : ∀ k, k ≤ m 51 r → (∀ j, j < k → m 52 (6 * r + j) ≠ s) → Ev E (jq E i_R_useOf 0 0 0 f w (fun v9 f9 => f9 = f ∧ ((∃ k, k < m 51 r ∧ m 52 (6 * r + k) = s ∧ v9 = some (.int (nI k))) ∨ ((∀ k, k < m 51 r → m 52 (6 * r + k) ≠ s) ∧ v9 = some (.int (-1))))) (fun _ => False)) 0 0 2 [(2, .int (nI k)), (0, .ref (wB E + (15 + 3 * r))), (1, .int (nI s))] [] f g0 w 57 := by
    apply lp_ind
    intro k hk ih hI
    refine e_iload_n (dat d_R_useOf 2 rfl) 0 rfl rfl ?_
    refine e_aload_n (dat d_R_useOf 3 rfl) 1 rfl rfl ?_
    refine s_gR (dat d_R_useOf 4 rfl) 2 k_61 (by decide) rfl rfl (by omega) (cR2 hC (by omega)) ?_
    refine n_icmp_ge (dat d_R_useOf 5 rfl) (tgt := 28) (by decide) (by omega) (by omega) (fun h => ?_) (fun h => ?_)
    · refine e_iconst (v := -1) (dat d_R_useOf 16 rfl) rfl ?_
      exact q_iret (dat d_R_useOf 17 rfl) rfl (show 0 ≤ 0 by decide) (show 0 ≤ 0 by decide) ⟨rfl, Or.inr ⟨fun j hj => hI j (by omega), rfl⟩⟩
    · have hw := hW.w hr h
      have h64 := hW.b 52 (6 * r + k)
      refine e_aload_n (dat d_R_useOf 6 rfl) 1 rfl rfl ?_
      refine s_qU (dat d_R_useOf 7 rfl) k_58 (by omega) ?_
      refine e_iload_n (dat d_R_useOf 8 rfl) 0 rfl rfl ?_
      refine s_iU (dat d_R_useOf 9 rfl) (by omega) rfl (by omega) (cU hC (by omega) (by omega)) ?_
      refine e_iload_n (dat d_R_useOf 10 rfl) 2 rfl rfl ?_
      refine n_icmp_ne (dat d_R_useOf 11 rfl) (tgt := 22) (by decide) (by omega) (by omega) (fun h1 => ?_) (fun h1 => ?_)
      · refine n_iinc (q := 0) (dat d_R_useOf 14 rfl) rfl (show 2 < 3 by decide) (lv2 := [(2, _), (0, _), (1, _)]) rfl ?_
        refine e_goto (dat d_R_useOf 15 rfl) (tgt := 2) (by decide) ?_
        refine ih h (fun j hj => ?_)
        by_cases e : j = k
        · rw [e]
          exact h1
        · exact hI j (by omega)
      · refine e_iload_n (dat d_R_useOf 12 rfl) 0 rfl rfl ?_
        exact q_iret (dat d_R_useOf 13 rfl) rfl (show 0 ≤ 0 by decide) (show 0 ≤ 0 by decide) ⟨rfl, Or.inl ⟨k, h, h1, rfl⟩⟩
  refine n_iconst (dat d_R_useOf 0 rfl) 0 rfl ?_
  refine e_istore_n (dat d_R_useOf 1 rfl) rfl (show 2 < 3 by decide) (lv2 := [(2, _), (0, _), (1, _)]) rfl ?_
  exact L 0 (Nat.zero_le _) (fun j hj => absurd hj (Nat.not_lt_zero _))
theorem t_R_hasPass {E : wE} {m : wM} {f : wF} {w : Int64} {r : Nat} (hW : Wv m) (hC : Rc m f) (hr : r < m 39 7) : Cr E i_R_hasPass 1 [.ref (wB E + (15 + 3 * r))] f w (some (.int (nI (if ∀ k, k < m 51 r → ¬ m 53 (6 * r + k) < 3 then 0 else 1)))) f := by
  have h12 := hW.S
  have h8 := hW.R
  have h6 := hW.N hr
  refine cr_of rfl rfl rfl (show 1 ≤ 2 by decide) ?_
  have L : ∀ k, k ≤ m 51 r → (∀ j, j < k → ¬ m 53 (6 * r + j) < 3) → Ev E (jr E i_R_hasPass 1 f w (some (.int (nI (if ∀ k, k < m 51 r → ¬ m 53 (6 * r + k) < 3 then 0 else 1)))) f) 0 0 2 [(1, .int (nI k)), (0, .ref (wB E + (15 + 3 * r)))] [] f g0 w 57 := by
    apply lp_ind
    intro k hk ih hI
    refine e_iload_n (dat d_R_hasPass 2 rfl) 0 rfl rfl ?_
    refine e_aload_n (dat d_R_hasPass 3 rfl) 1 rfl rfl ?_
    refine s_gR (dat d_R_hasPass 4 rfl) 2 k_61 (by decide) rfl rfl (by omega) (cR2 hC (by omega)) ?_
    refine n_icmp_ge (dat d_R_hasPass 5 rfl) (tgt := 26) (by decide) (by omega) (by omega) (fun h => ?_) (fun h => ?_)
    · refine n_iconst (dat d_R_hasPass 14 rfl) 0 rfl ?_
      exact q_zret (dat d_R_hasPass 15 rfl) rfl (z01 (by decide)) (show 0 ≤ 0 by decide) (show 0 ≤ 0 by decide) ⟨by rw [if_pos (fun j hj => hI j (by omega))], rfl⟩
    · refine e_aload_n (dat d_R_hasPass 6 rfl) 1 rfl rfl ?_
      refine e_iload_n (dat d_R_hasPass 7 rfl) 0 rfl rfl ?_
      refine r_call (t_R_isPass hW hC hr h) c_R_isPass (dat d_R_hasPass 8 rfl) rfl k_304 rfl (kd_R _ (by omega)) (by decide) (by omega) rfl (show 0 ≤ 8 by decide) ⟨show 1 ≤ 1 by decide, show 21 ≤ 30 by decide⟩ ⟨show 0 ≤ 0 by decide, show 0 ≤ 0 by decide⟩ ?_
      refine n_if_eq (dat d_R_hasPass 9 rfl) (tgt := 20) (by decide) (by split <;> decide) (fun h1 => ?_) (fun h1 => ?_)
      · refine n_iinc (q := 0) (dat d_R_hasPass 12 rfl) rfl (show 1 < 2 by decide) (lv2 := [(1, _), (0, _)]) rfl ?_
        refine e_goto (dat d_R_hasPass 13 rfl) (tgt := 2) (by decide) ?_
        refine ih h (fun j hj => ?_)
        by_cases e : j = k
        · rw [e]
          intro h2
          rw [if_pos h2] at h1
          exact absurd h1 (by decide)
        · exact hI j (by omega)
      · refine n_iconst (dat d_R_hasPass 10 rfl) 1 rfl ?_
        exact q_zret (dat d_R_hasPass 11 rfl) rfl (z01 (by decide)) (show 0 ≤ 0 by decide) (show 0 ≤ 0 by decide) ⟨by rw [if_neg (fun h2 => h1 (if_neg (h2 k h)))], rfl⟩
  refine n_iconst (dat d_R_hasPass 0 rfl) 0 rfl ?_
  refine e_istore_n (dat d_R_hasPass 1 rfl) rfl (show 1 < 2 by decide) (lv2 := [(1, _), (0, _)]) rfl ?_
  exact L 0 (Nat.zero_le _) (fun j hj => absurd hj (Nat.not_lt_zero _))
