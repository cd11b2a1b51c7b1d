theorem t_S_init {E : wE} {a n : Nat} {g : wG} : Cc E i_S_init 1 0 0 [.ref a] g n g n := by
  refine ct_of rfl rfl rfl (show 1 ≤ 1 by decide) ?_
  refine e_aload_n (dat d_S_init 0 rfl) 0 rfl rfl ?_
  refine e_objI (dat d_S_init 1 rfl) k_25 (show 1 ≤ 1 by decide) (show 12 ≤ 30 by decide) ?_
  exact e_vret (dat d_S_init 2 rfl) rfl (Nat.le_refl _) (Nat.le_refl _) ⟨rfl, rfl⟩
theorem t_R_init {E : wE} {r : Nat} (hr : r < 8) : Cc E i_R_init 1 2 12 [.ref (wB E + (15 + 3 * r))] (gq 1 12 1 r (2 * r) 0) (15 + 3 * r + 1) (gq 1 12 1 r (2 * r + 2) 0) (15 + 3 * r + 3) := by
  have e0 : upg (gq 1 12 1 r (2 * r) 0) (15 + 3 * r) 0 (some (15 + 3 * r + 1)) = gq 1 12 1 r (2 * r + 1) 0 := gq_U hr (by decide)
  have e1 : upg (gq 1 12 1 r (2 * r + 1) 0) (15 + 3 * r) 1 (some (15 + 3 * r + 1 + 1)) = gq 1 12 1 r (2 * r + 2) 0 := gq_U hr (by decide)
  have x1 : 15 + 3 * r + 1 = 16 + 3 * r := by omega
  have x2 : 15 + 3 * r + 1 + 1 = 17 + 3 * r := by omega
  refine ct_of rfl rfl rfl (show 1 ≤ 1 by decide) ?_
  refine e_aload_n (dat d_R_init 0 rfl) 0 rfl rfl ?_
  refine e_objI (dat d_R_init 1 rfl) k_57 (show 1 ≤ 1 by decide) (show 12 ≤ 30 by decide) ?_
  refine e_aload_n (dat d_R_init 2 rfl) 0 rfl rfl ?_
  refine e_bipush (v := nI 6) (dat d_R_init 3 rfl) rfl ?_
  refine e_newi (N := 6) (dat d_R_init 4 rfl) k_101 (by rw [x1]; exact kd_U r hr) (by rw [x1]; exact ln_U r hr) (fun _ => rfl) (show 0 + 1 ≤ 2 by decide) (show 0 + 6 ≤ 12 by decide) (fun s9 a9 h9 => by
    have h8 : s9.heap.size = wB E + (15 + 3 * r + 1) := h9 (by omega)
    omega) ?_
  refine e_pq (j := 0) (ty1 := .int) (dat d_R_init 5 rfl) (ci := 2) (CN := "RouteFrame$Route") (T := TR) (N := 11) (ty := tyR) rfl uwR tyR_ok nmR k_58 (by decide) rfl rfl rfl rfl rfl rfl rfl (kd_R r hr) (by decide) (by omega) ?_
  rw [e0]
  refine e_aload_n (dat d_R_init 6 rfl) 0 rfl rfl ?_
  refine e_bipush (v := nI 6) (dat d_R_init 7 rfl) rfl ?_
  refine e_newi (N := 6) (dat d_R_init 8 rfl) k_101 (by rw [x2]; exact kd_V r hr) (by rw [x2]; exact ln_V r hr) (fun _ => rfl) (show 0 + 1 + 1 ≤ 2 by decide) (show 0 + 6 + 6 ≤ 12 by decide) (fun s9 a9 h9 => by
    have h8 : s9.heap.size = wB E + (15 + 3 * r + 1) := h9 (by omega)
    omega) ?_
  refine e_pq (j := 1) (ty1 := .int) (dat d_R_init 9 rfl) (ci := 2) (CN := "RouteFrame$Route") (T := TR) (N := 11) (ty := tyR) rfl uwR tyR_ok nmR k_60 (by decide) rfl rfl rfl rfl rfl rfl rfl (kd_R r hr) (by decide) (by omega) ?_
  rw [e1]
  exact e_vret (dat d_R_init 10 rfl) rfl (show 2 ≤ 2 by decide) (show 12 ≤ 12 by decide) ⟨rfl, rfl⟩
theorem t_F_init {E : wE} : Cc E i_F_init 2 38 276 [.ref (wB E + 0)] (gq 0 0 0 0 0 0) 1 (gq 1 12 1 8 16 0) 39 := by
  refine ct_of rfl rfl rfl (show 1 ≤ 2 by decide) ?_
  have L2 : ∀ r, r ≤ 8 → Ev E (jc E i_F_init 2 38 276 1 (gq 1 12 1 8 16 0) 39) (14 + 3 * r) (92 + 23 * r) 51 [(1, .int (nI r)), (0, .ref (wB E + 0))] [] fz (gq 1 12 1 r (2 * r) 0) 0 (15 + 3 * r) := by
    apply lp_ind
    intro r hr ih
    refine e_iload_n (dat d_F_init 26 rfl) 0 rfl rfl ?_
    refine e_bipush (v := nI 8) (dat d_F_init 27 rfl) rfl ?_
    refine n_icmp_ge (dat d_F_init 28 rfl) (tgt := 76) (by decide) (by omega) (by decide) (fun h => ?_) (fun h => ?_)
    · have hr8 : r = 8 := by omega
      subst hr8
      refine e_aload_n (dat d_F_init 38 rfl) 1 rfl rfl ?_
      refine e_iconst (v := nI 0) (dat d_F_init 39 rfl) rfl ?_
      refine e_pF (k := 0) (dat d_F_init 40 rfl) 2 k_104 (by decide) rfl rfl rfl (by decide) rfl rfl ?_
      rw [up_fz]
      refine e_aload_n (dat d_F_init 41 rfl) 1 rfl rfl ?_
      refine e_iconst (v := nI 0) (dat d_F_init 42 rfl) rfl ?_
      refine e_pF (k := 0) (dat d_F_init 43 rfl) 3 k_105 (by decide) rfl rfl rfl (by decide) rfl rfl ?_
      rw [up_fz]
      exact e_vret (dat d_F_init 44 rfl) rfl (show 38 ≤ 38 by decide) (show 276 ≤ 276 by decide) ⟨rfl, rfl⟩
    · refine e_aload_n (dat d_F_init 29 rfl) 1 rfl rfl ?_
      refine e_qF (k := 0) (t := 14) (dat d_F_init 30 rfl) 1 k_103 (by decide) rfl rfl rfl (by omega) rfl ?_
      refine e_iload_n (dat d_F_init 31 rfl) 0 rfl rfl ?_
      refine e_new (ci := 2) (N := 11) (T := TR) (CN := "RouteFrame$Route") (dat d_F_init 32 rfl) rfl uwR tyR tyR_ok k_51 k_53 k_3 (kd_R r h) (by decide) rfl (fun _ => rfl) (gq_n (by omega) (by omega) (by omega) (by omega) (by omega)) (by decide) (show 14 + 3 * r + 1 ≤ 38 by omega) (show 92 + 23 * r + 11 ≤ 276 by omega) (fun s9 a9 h9 => by
    have h8 : s9.heap.size = wB E + (1) := h9 (by decide)
    omega) ?_
      refine e_dup (dat d_F_init 33 rfl) rfl ?_
      refine c_callN (t_R_init h) ci_R (dat d_F_init 34 rfl) (by decide +kernel) rfl (show 3 ≤ 8 by decide) ⟨show 2 ≤ 2 by decide, show 50 ≤ 60 by decide⟩ ⟨show 14 + 3 * r + 1 + 2 ≤ 38 by omega, show 92 + 23 * r + 11 + 12 ≤ 276 by omega⟩ (fun s9 a9 h9 => by
    have h8 : s9.heap.size = wB E + (1) := h9 (by decide)
    omega) ?_
      refine e_aast (k := 14) (t := 15 + 3 * r) (i := r) (ci := 2) (dat d_F_init 35 rfl) (Or.inr ⟨rfl, rfl⟩) (by omega) (kd_R r h) (by omega) rfl (by show r < 8; omega) ?_
      rw [gq_R]
      refine n_iinc (q := 0) (dat d_F_init 36 rfl) rfl (show 1 < 2 by decide) (lv2 := [(1, _), (0, _)]) rfl ?_
      refine e_goto (dat d_F_init 37 rfl) (tgt := 51) (by decide) ?_
      exact e_wd (by omega) (by omega) (ih h)
  have L1 : ∀ i, i ≤ 12 → Ev E (jc E i_F_init 2 38 276 1 (gq 1 12 1 8 16 0) 39) (1 + i) (12 + 6 * i) 15 [(1, .int (nI i)), (0, .ref (wB E + 0))] [] fz (gq 1 i 0 0 0 0) 0 (2 + i) := by
    apply lp_ind
    intro i hi ih
    refine e_iload_n (dat d_F_init 8 rfl) 0 rfl rfl ?_
    refine e_bipush (v := nI 12) (dat d_F_init 9 rfl) rfl ?_
    refine n_icmp_ge (dat d_F_init 10 rfl) (tgt := 40) (by decide) (by omega) (by decide) (fun h => ?_) (fun h => ?_)
    · have hi12 : i = 12 := by omega
      subst hi12
      refine e_aload_n (dat d_F_init 20 rfl) 1 rfl rfl ?_
      refine e_bipush (v := nI 8) (dat d_F_init 21 rfl) rfl ?_
      refine e_anew (N := 8) (t0 := 4) (CN := "RouteFrame$Route") (dat d_F_init 22 rfl) k_51 (Or.inr ⟨rfl, rfl, rfl⟩) rfl (fun _ => rfl) (show 14 ≤ 38 by decide) (show 92 ≤ 276 by decide) (fun s9 a9 h9 => by
    have h8 : s9.heap.size = wB E + (1) := h9 (by decide)
    omega) ?_
      refine e_pq (j := 1) (k := 0) (t := 14) (ty1 := .object "RouteFrame$Route") (dat d_F_init 23 rfl) (ci := 0) (CN := "RouteFrame") (T := TF) (N := 4) (ty := tyF) rfl uwF tyF_ok nmF k_103 (by decide) rfl rfl rfl rfl rfl rfl rfl rfl (by decide) (by decide) ?_
      rw [gq_F1]
      refine e_iconst (v := nI 0) (dat d_F_init 24 rfl) rfl ?_
      refine e_istore_n (dat d_F_init 25 rfl) rfl (show 1 < 2 by decide) (lv2 := [(1, _), (0, _)]) rfl ?_
      exact L2 0 (Nat.zero_le _)
    · refine e_aload_n (dat d_F_init 11 rfl) 1 rfl rfl ?_
      refine e_qF (k := 0) (t := 1) (dat d_F_init 12 rfl) 0 k_102 (by decide) rfl rfl rfl (by omega) rfl ?_
      refine e_iload_n (dat d_F_init 13 rfl) 0 rfl rfl ?_
      refine e_new (ci := 1) (N := 6) (T := TS) (CN := "RouteFrame$Section") (dat d_F_init 14 rfl) rfl uwS tyS tyS_ok k_19 k_21 k_2 (kd_S i h) (by decide) rfl (fun _ => rfl) (gq_n (by omega) (by omega) (by omega) (by omega) (by omega)) (by decide) (show 1 + i + 1 ≤ 38 by omega) (show 12 + 6 * i + 6 ≤ 276 by omega) (fun s9 a9 h9 => by
    have h8 : s9.heap.size = wB E + (1) := h9 (by decide)
    omega) ?_
      refine e_dup (dat d_F_init 15 rfl) rfl ?_
      refine c_callN t_S_init ci_S (dat d_F_init 16 rfl) (by decide +kernel) rfl (show 3 ≤ 8 by decide) ⟨show 2 ≤ 2 by decide, show 50 ≤ 60 by decide⟩ ⟨show 1 + i + 1 + 0 ≤ 38 by omega, show 12 + 6 * i + 6 + 0 ≤ 276 by omega⟩ (fun s9 a9 h9 => by
    have h8 : s9.heap.size = wB E + (1) := h9 (by decide)
    omega) ?_
      refine e_aast (k := 1) (t := 2 + i) (i := i) (ci := 1) (dat d_F_init 17 rfl) (Or.inl ⟨rfl, rfl⟩) (by omega) (kd_S i h) (by omega) rfl (by show i < 12; omega) ?_
      rw [gq_S]
      refine n_iinc (q := 0) (dat d_F_init 18 rfl) rfl (show 1 < 2 by decide) (lv2 := [(1, _), (0, _)]) rfl ?_
      refine e_goto (dat d_F_init 19 rfl) (tgt := 15) (by decide) ?_
      exact e_wd (by omega) (by omega) (ih h)
  refine e_aload_n (dat d_F_init 0 rfl) 0 rfl rfl ?_
  refine e_objI (dat d_F_init 1 rfl) k_16 (show 1 ≤ 2 by decide) (show 12 ≤ 60 by decide) ?_
  refine e_aload_n (dat d_F_init 2 rfl) 0 rfl rfl ?_
  refine e_bipush (v := nI 12) (dat d_F_init 3 rfl) rfl ?_
  refine e_anew (N := 12) (t0 := 3) (CN := "RouteFrame$Section") (dat d_F_init 4 rfl) k_19 (Or.inl ⟨rfl, rfl, rfl⟩) rfl (fun _ => rfl) (show 1 ≤ 38 by decide) (show 12 ≤ 276 by decide) (fun s9 a9 h9 => by
    have h8 : s9.heap.size = wB E + (1) := h9 (by decide)
    omega) ?_
  refine e_pq (j := 0) (k := 0) (t := 1) (ty1 := .object "RouteFrame$Section") (dat d_F_init 5 rfl) (ci := 0) (CN := "RouteFrame") (T := TF) (N := 4) (ty := tyF) rfl uwF tyF_ok nmF k_102 (by decide) rfl rfl rfl rfl rfl rfl rfl rfl (by decide) (by decide) ?_
  rw [gq_F0]
  refine e_iconst (v := nI 0) (dat d_F_init 6 rfl) rfl ?_
  refine e_istore_n (dat d_F_init 7 rfl) rfl (show 1 < 2 by decide) (lv2 := [(1, _), (0, _)]) rfl ?_
  exact L1 0 (Nat.zero_le _)
theorem t_M_init {E : wE} : Cc E i_M_init 1 16 308 [.ref (wB E + 39)] (gq 1 12 1 8 16 0) 40 (gq 1 12 1 8 16 19) 56 := by
  refine ct_of rfl rfl rfl (show 1 ≤ 1 by decide) ?_
  refine e_aload_n (dat d_M_init 0 rfl) 0 rfl rfl ?_
  refine e_objI (dat d_M_init 1 rfl) k_498 (show 1 ≤ 1 by decide) (show 12 ≤ 30 by decide) ?_
  refine e_aload_n (dat d_M_init 2 rfl) 0 rfl rfl ?_
  refine e_bipush (v := nI 12) (dat d_M_init 3 rfl) rfl ?_
  refine e_newz (N := 12) (dat d_M_init 4 rfl) k_557 (by decide) (by decide) (fun _ => rfl) (show 0 + 1 ≤ 16 by decide) (show 0 + 12 ≤ 308 by decide) (fun s9 a9 h9 => by
    have h8 : s9.heap.size = wB E + (40) := h9 (by decide)
    omega) ?_
  refine e_pq (j := 2) (k := 39) (t := mfc 2) (ty1 := .boolean) (dat d_M_init 5 rfl) (ci := 3) (CN := "RouteFrameModel") (T := TM) (N := 19) (ty := tyM) rfl uwM tyM_ok nmM k_501 (by decide) rfl rfl rfl rfl rfl rfl rfl rfl (by decide) (by decide) ?_
  rw [gq_M (t := 0) (j := 2) (fun q h1 h2 => (show ∀ q, q < 2 → 0 ≤ q → rfld 3 q = false by decide) q h2 h1) (by decide) rfl]
  refine e_aload_n (dat d_M_init 6 rfl) 0 rfl rfl ?_
  refine e_bipush (v := nI 12) (dat d_M_init 7 rfl) rfl ?_
  refine e_newz (N := 12) (dat d_M_init 8 rfl) k_557 (by decide) (by decide) (fun _ => rfl) (show 0 + 1 + 1 ≤ 16 by decide) (show 0 + 12 + 12 ≤ 308 by decide) (fun s9 a9 h9 => by
    have h8 : s9.heap.size = wB E + (40) := h9 (by decide)
    omega) ?_
  refine e_pq (j := 3) (k := 39) (t := mfc 3) (ty1 := .boolean) (dat d_M_init 9 rfl) (ci := 3) (CN := "RouteFrameModel") (T := TM) (N := 19) (ty := tyM) rfl uwM tyM_ok nmM k_502 (by decide) rfl rfl rfl rfl rfl rfl rfl rfl (by decide) (by decide) ?_
  rw [gq_M (t := 3) (j := 3) (fun q h1 h2 => (show ∀ q, q < 3 → 3 ≤ q → rfld 3 q = false by decide) q h2 h1) (by decide) rfl]
  refine e_aload_n (dat d_M_init 10 rfl) 0 rfl rfl ?_
  refine e_bipush (v := nI 12) (dat d_M_init 11 rfl) rfl ?_
  refine e_newi (N := 12) (dat d_M_init 12 rfl) k_101 (by decide) (by decide) (fun _ => rfl) (show 0 + 1 + 1 + 1 ≤ 16 by decide) (show 0 + 12 + 12 + 12 ≤ 308 by decide) (fun s9 a9 h9 => by
    have h8 : s9.heap.size = wB E + (40) := h9 (by decide)
    omega) ?_
  refine e_pq (j := 4) (k := 39) (t := mfc 4) (ty1 := .int) (dat d_M_init 13 rfl) (ci := 3) (CN := "RouteFrameModel") (T := TM) (N := 19) (ty := tyM) rfl uwM tyM_ok nmM k_503 (by decide) rfl rfl rfl rfl rfl rfl rfl rfl (by decide) (by decide) ?_
  rw [gq_M (t := 4) (j := 4) (fun q h1 h2 => (show ∀ q, q < 4 → 4 ≤ q → rfld 3 q = false by decide) q h2 h1) (by decide) rfl]
  refine e_aload_n (dat d_M_init 14 rfl) 0 rfl rfl ?_
  refine e_bipush (v := nI 12) (dat d_M_init 15 rfl) rfl ?_
  refine e_newi (N := 12) (dat d_M_init 16 rfl) k_101 (by decide) (by decide) (fun _ => rfl) (show 0 + 1 + 1 + 1 + 1 ≤ 16 by decide) (show 0 + 12 + 12 + 12 + 12 ≤ 308 by decide) (fun s9 a9 h9 => by
    have h8 : s9.heap.size = wB E + (40) := h9 (by decide)
    omega) ?_
  refine e_pq (j := 5) (k := 39) (t := mfc 5) (ty1 := .int) (dat d_M_init 17 rfl) (ci := 3) (CN := "RouteFrameModel") (T := TM) (N := 19) (ty := tyM) rfl uwM tyM_ok nmM k_504 (by decide) rfl rfl rfl rfl rfl rfl rfl rfl (by decide) (by decide) ?_
  rw [gq_M (t := 5) (j := 5) (fun q h1 h2 => (show ∀ q, q < 5 → 5 ≤ q → rfld 3 q = false by decide) q h2 h1) (by decide) rfl]
  refine e_aload_n (dat d_M_init 18 rfl) 0 rfl rfl ?_
  refine e_bipush (v := nI 12) (dat d_M_init 19 rfl) rfl ?_
  refine e_newz (N := 12) (dat d_M_init 20 rfl) k_557 (by decide) (by decide) (fun _ => rfl) (show 0 + 1 + 1 + 1 + 1 + 1 ≤ 16 by decide) (show 0 + 12 + 12 + 12 + 12 + 12 ≤ 308 by decide) (fun s9 a9 h9 => by
    have h8 : s9.heap.size = wB E + (40) := h9 (by decide)
    omega) ?_
  refine e_pq (j := 6) (k := 39) (t := mfc 6) (ty1 := .boolean) (dat d_M_init 21 rfl) (ci := 3) (CN := "RouteFrameModel") (T := TM) (N := 19) (ty := tyM) rfl uwM tyM_ok nmM k_505 (by decide) rfl rfl rfl rfl rfl rfl rfl rfl (by decide) (by decide) ?_
  rw [gq_M (t := 6) (j := 6) (fun q h1 h2 => (show ∀ q, q < 6 → 6 ≤ q → rfld 3 q = false by decide) q h2 h1) (by decide) rfl]
  refine e_aload_n (dat d_M_init 22 rfl) 0 rfl rfl ?_
  refine e_bipush (v := nI 8) (dat d_M_init 23 rfl) rfl ?_
  refine e_newi (N := 8) (dat d_M_init 24 rfl) k_101 (by decide) (by decide) (fun _ => rfl) (show 0 + 1 + 1 + 1 + 1 + 1 + 1 ≤ 16 by decide) (show 0 + 12 + 12 + 12 + 12 + 12 + 8 ≤ 308 by decide) (fun s9 a9 h9 => by
    have h8 : s9.heap.size = wB E + (40) := h9 (by decide)
    omega) ?_
  refine e_pq (j := 8) (k := 39) (t := mfc 8) (ty1 := .int) (dat d_M_init 25 rfl) (ci := 3) (CN := "RouteFrameModel") (T := TM) (N := 19) (ty := tyM) rfl uwM tyM_ok nmM k_507 (by decide) rfl rfl rfl rfl rfl rfl rfl rfl (by decide) (by decide) ?_
  rw [gq_M (t := 7) (j := 8) (fun q h1 h2 => (show ∀ q, q < 8 → 7 ≤ q → rfld 3 q = false by decide) q h2 h1) (by decide) rfl]
  refine e_aload_n (dat d_M_init 26 rfl) 0 rfl rfl ?_
  refine e_bipush (v := nI 8) (dat d_M_init 27 rfl) rfl ?_
  refine e_newi (N := 8) (dat d_M_init 28 rfl) k_101 (by decide) (by decide) (fun _ => rfl) (show 0 + 1 + 1 + 1 + 1 + 1 + 1 + 1 ≤ 16 by decide) (show 0 + 12 + 12 + 12 + 12 + 12 + 8 + 8 ≤ 308 by decide) (fun s9 a9 h9 => by
    have h8 : s9.heap.size = wB E + (40) := h9 (by decide)
    omega) ?_
  refine e_pq (j := 9) (k := 39) (t := mfc 9) (ty1 := .int) (dat d_M_init 29 rfl) (ci := 3) (CN := "RouteFrameModel") (T := TM) (N := 19) (ty := tyM) rfl uwM tyM_ok nmM k_508 (by decide) rfl rfl rfl rfl rfl rfl rfl rfl (by decide) (by decide) ?_
  rw [gq_M (t := 9) (j := 9) (fun q h1 h2 => (show ∀ q, q < 9 → 9 ≤ q → rfld 3 q = false by decide) q h2 h1) (by decide) rfl]
  refine e_aload_n (dat d_M_init 30 rfl) 0 rfl rfl ?_
  refine e_bipush (v := nI 8) (dat d_M_init 31 rfl) rfl ?_
  refine e_newi (N := 8) (dat d_M_init 32 rfl) k_101 (by decide) (by decide) (fun _ => rfl) (show 0 + 1 + 1 + 1 + 1 + 1 + 1 + 1 + 1 ≤ 16 by decide) (show 0 + 12 + 12 + 12 + 12 + 12 + 8 + 8 + 8 ≤ 308 by decide) (fun s9 a9 h9 => by
    have h8 : s9.heap.size = wB E + (40) := h9 (by decide)
    omega) ?_
  refine e_pq (j := 10) (k := 39) (t := mfc 10) (ty1 := .int) (dat d_M_init 33 rfl) (ci := 3) (CN := "RouteFrameModel") (T := TM) (N := 19) (ty := tyM) rfl uwM tyM_ok nmM k_509 (by decide) rfl rfl rfl rfl rfl rfl rfl rfl (by decide) (by decide) ?_
  rw [gq_M (t := 10) (j := 10) (fun q h1 h2 => (show ∀ q, q < 10 → 10 ≤ q → rfld 3 q = false by decide) q h2 h1) (by decide) rfl]
  refine e_aload_n (dat d_M_init 34 rfl) 0 rfl rfl ?_
  refine e_bipush (v := nI 8) (dat d_M_init 35 rfl) rfl ?_
  refine e_newi (N := 8) (dat d_M_init 36 rfl) k_101 (by decide) (by decide) (fun _ => rfl) (show 0 + 1 + 1 + 1 + 1 + 1 + 1 + 1 + 1 + 1 ≤ 16 by decide) (show 0 + 12 + 12 + 12 + 12 + 12 + 8 + 8 + 8 + 8 ≤ 308 by decide) (fun s9 a9 h9 => by
    have h8 : s9.heap.size = wB E + (40) := h9 (by decide)
    omega) ?_
  refine e_pq (j := 11) (k := 39) (t := mfc 11) (ty1 := .int) (dat d_M_init 37 rfl) (ci := 3) (CN := "RouteFrameModel") (T := TM) (N := 19) (ty := tyM) rfl uwM tyM_ok nmM k_510 (by decide) rfl rfl rfl rfl rfl rfl rfl rfl (by decide) (by decide) ?_
  rw [gq_M (t := 11) (j := 11) (fun q h1 h2 => (show ∀ q, q < 11 → 11 ≤ q → rfld 3 q = false by decide) q h2 h1) (by decide) rfl]
  refine e_aload_n (dat d_M_init 38 rfl) 0 rfl rfl ?_
  refine e_bipush (v := nI 8) (dat d_M_init 39 rfl) rfl ?_
  refine e_newi (N := 8) (dat d_M_init 40 rfl) k_101 (by decide) (by decide) (fun _ => rfl) (show 0 + 1 + 1 + 1 + 1 + 1 + 1 + 1 + 1 + 1 + 1 ≤ 16 by decide) (show 0 + 12 + 12 + 12 + 12 + 12 + 8 + 8 + 8 + 8 + 8 ≤ 308 by decide) (fun s9 a9 h9 => by
    have h8 : s9.heap.size = wB E + (40) := h9 (by decide)
    omega) ?_
  refine e_pq (j := 12) (k := 39) (t := mfc 12) (ty1 := .int) (dat d_M_init 41 rfl) (ci := 3) (CN := "RouteFrameModel") (T := TM) (N := 19) (ty := tyM) rfl uwM tyM_ok nmM k_511 (by decide) rfl rfl rfl rfl rfl rfl rfl rfl (by decide) (by decide) ?_
  rw [gq_M (t := 12) (j := 12) (fun q h1 h2 => (show ∀ q, q < 12 → 12 ≤ q → rfld 3 q = false by decide) q h2 h1) (by decide) rfl]
  refine e_aload_n (dat d_M_init 42 rfl) 0 rfl rfl ?_
  refine e_bipush (v := nI 8) (dat d_M_init 43 rfl) rfl ?_
  refine e_newz (N := 8) (dat d_M_init 44 rfl) k_557 (by decide) (by decide) (fun _ => rfl) (show 0 + 1 + 1 + 1 + 1 + 1 + 1 + 1 + 1 + 1 + 1 + 1 ≤ 16 by decide) (show 0 + 12 + 12 + 12 + 12 + 12 + 8 + 8 + 8 + 8 + 8 + 8 ≤ 308 by decide) (fun s9 a9 h9 => by
    have h8 : s9.heap.size = wB E + (40) := h9 (by decide)
    omega) ?_
  refine e_pq (j := 13) (k := 39) (t := mfc 13) (ty1 := .boolean) (dat d_M_init 45 rfl) (ci := 3) (CN := "RouteFrameModel") (T := TM) (N := 19) (ty := tyM) rfl uwM tyM_ok nmM k_512 (by decide) rfl rfl rfl rfl rfl rfl rfl rfl (by decide) (by decide) ?_
  rw [gq_M (t := 13) (j := 13) (fun q h1 h2 => (show ∀ q, q < 13 → 13 ≤ q → rfld 3 q = false by decide) q h2 h1) (by decide) rfl]
  refine e_aload_n (dat d_M_init 46 rfl) 0 rfl rfl ?_
  refine e_bipush (v := nI 8) (dat d_M_init 47 rfl) rfl ?_
  refine e_newi (N := 8) (dat d_M_init 48 rfl) k_101 (by decide) (by decide) (fun _ => rfl) (show 0 + 1 + 1 + 1 + 1 + 1 + 1 + 1 + 1 + 1 + 1 + 1 + 1 ≤ 16 by decide) (show 0 + 12 + 12 + 12 + 12 + 12 + 8 + 8 + 8 + 8 + 8 + 8 + 8 ≤ 308 by decide) (fun s9 a9 h9 => by
    have h8 : s9.heap.size = wB E + (40) := h9 (by decide)
    omega) ?_
  refine e_pq (j := 14) (k := 39) (t := mfc 14) (ty1 := .int) (dat d_M_init 49 rfl) (ci := 3) (CN := "RouteFrameModel") (T := TM) (N := 19) (ty := tyM) rfl uwM tyM_ok nmM k_513 (by decide) rfl rfl rfl rfl rfl rfl rfl rfl (by decide) (by decide) ?_
  rw [gq_M (t := 14) (j := 14) (fun q h1 h2 => (show ∀ q, q < 14 → 14 ≤ q → rfld 3 q = false by decide) q h2 h1) (by decide) rfl]
  refine e_aload_n (dat d_M_init 50 rfl) 0 rfl rfl ?_
  refine e_bipush (v := nI 48) (dat d_M_init 51 rfl) rfl ?_
  refine e_newi (N := 48) (dat d_M_init 52 rfl) k_101 (by decide) (by decide) (fun _ => rfl) (show 0 + 1 + 1 + 1 + 1 + 1 + 1 + 1 + 1 + 1 + 1 + 1 + 1 + 1 ≤ 16 by decide) (show 0 + 12 + 12 + 12 + 12 + 12 + 8 + 8 + 8 + 8 + 8 + 8 + 8 + 48 ≤ 308 by decide) (fun s9 a9 h9 => by
    have h8 : s9.heap.size = wB E + (40) := h9 (by decide)
    omega) ?_
  refine e_pq (j := 15) (k := 39) (t := mfc 15) (ty1 := .int) (dat d_M_init 53 rfl) (ci := 3) (CN := "RouteFrameModel") (T := TM) (N := 19) (ty := tyM) rfl uwM tyM_ok nmM k_514 (by decide) rfl rfl rfl rfl rfl rfl rfl rfl (by decide) (by decide) ?_
  rw [gq_M (t := 15) (j := 15) (fun q h1 h2 => (show ∀ q, q < 15 → 15 ≤ q → rfld 3 q = false by decide) q h2 h1) (by decide) rfl]
  refine e_aload_n (dat d_M_init 54 rfl) 0 rfl rfl ?_
  refine e_bipush (v := nI 48) (dat d_M_init 55 rfl) rfl ?_
  refine e_newi (N := 48) (dat d_M_init 56 rfl) k_101 (by decide) (by decide) (fun _ => rfl) (show 0 + 1 + 1 + 1 + 1 + 1 + 1 + 1 + 1 + 1 + 1 + 1 + 1 + 1 + 1 ≤ 16 by decide) (show 0 + 12 + 12 + 12 + 12 + 12 + 8 + 8 + 8 + 8 + 8 + 8 + 8 + 48 + 48 ≤ 308 by decide) (fun s9 a9 h9 => by
    have h8 : s9.heap.size = wB E + (40) := h9 (by decide)
    omega) ?_
  refine e_pq (j := 16) (k := 39) (t := mfc 16) (ty1 := .int) (dat d_M_init 57 rfl) (ci := 3) (CN := "RouteFrameModel") (T := TM) (N := 19) (ty := tyM) rfl uwM tyM_ok nmM k_515 (by decide) rfl rfl rfl rfl rfl rfl rfl rfl (by decide) (by decide) ?_
  rw [gq_M (t := 16) (j := 16) (fun q h1 h2 => (show ∀ q, q < 16 → 16 ≤ q → rfld 3 q = false by decide) q h2 h1) (by decide) rfl]
  refine e_aload_n (dat d_M_init 58 rfl) 0 rfl rfl ?_
  refine e_bipush (v := nI 48) (dat d_M_init 59 rfl) rfl ?_
  refine e_newz (N := 48) (dat d_M_init 60 rfl) k_557 (by decide) (by decide) (fun _ => rfl) (show 0 + 1 + 1 + 1 + 1 + 1 + 1 + 1 + 1 + 1 + 1 + 1 + 1 + 1 + 1 + 1 ≤ 16 by decide) (show 0 + 12 + 12 + 12 + 12 + 12 + 8 + 8 + 8 + 8 + 8 + 8 + 8 + 48 + 48 + 48 ≤ 308 by decide) (fun s9 a9 h9 => by
    have h8 : s9.heap.size = wB E + (40) := h9 (by decide)
    omega) ?_
  refine e_pq (j := 17) (k := 39) (t := mfc 17) (ty1 := .boolean) (dat d_M_init 61 rfl) (ci := 3) (CN := "RouteFrameModel") (T := TM) (N := 19) (ty := tyM) rfl uwM tyM_ok nmM k_516 (by decide) rfl rfl rfl rfl rfl rfl rfl rfl (by decide) (by decide) ?_
  rw [gq_M (t := 17) (j := 17) (fun q h1 h2 => (show ∀ q, q < 17 → 17 ≤ q → rfld 3 q = false by decide) q h2 h1) (by decide) rfl]
  refine e_aload_n (dat d_M_init 62 rfl) 0 rfl rfl ?_
  refine e_bipush (v := nI 48) (dat d_M_init 63 rfl) rfl ?_
  refine e_newz (N := 48) (dat d_M_init 64 rfl) k_557 (by decide) (by decide) (fun _ => rfl) (show 0 + 1 + 1 + 1 + 1 + 1 + 1 + 1 + 1 + 1 + 1 + 1 + 1 + 1 + 1 + 1 + 1 ≤ 16 by decide) (show 0 + 12 + 12 + 12 + 12 + 12 + 8 + 8 + 8 + 8 + 8 + 8 + 8 + 48 + 48 + 48 + 48 ≤ 308 by decide) (fun s9 a9 h9 => by
    have h8 : s9.heap.size = wB E + (40) := h9 (by decide)
    omega) ?_
  refine e_pq (j := 18) (k := 39) (t := mfc 18) (ty1 := .boolean) (dat d_M_init 65 rfl) (ci := 3) (CN := "RouteFrameModel") (T := TM) (N := 19) (ty := tyM) rfl uwM tyM_ok nmM k_517 (by decide) rfl rfl rfl rfl rfl rfl rfl rfl (by decide) (by decide) ?_
  rw [gq_M (t := 18) (j := 18) (fun q h1 h2 => (show ∀ q, q < 18 → 18 ≤ q → rfld 3 q = false by decide) q h2 h1) (by decide) rfl]
  exact e_vret (dat d_M_init 66 rfl) rfl (show 16 ≤ 16 by decide) (show 308 ≤ 308 by decide) ⟨rfl, rfl⟩
