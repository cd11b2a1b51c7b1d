theorem lw_loop {E : wE} {b L : Nat} {xs : Nat → Int32} (hE : (wl E).stackTraces = false) (hL : L ≤ 2048) : ∀ (m : wM) (f : wF) (w : Int64), Iv m → Rc m f → Rm m f → Ev E (jL E b L xs) 57 700 23 [(4, .int (nI (4 * 0))), (3, .ref (wB E + 56)), (2, .ref (wB E + 39)), (1, .ref (wB E + 0)), (0, .ref b)] [] f g0 w 57 := by
  have key : ∀ k, k ≤ 513 → ∀ (m : wM) (f : wF) (w : Int64), Iv m → Rc m f → Rm m f → Ev E (jL E b L xs) (57 + 3 * k) (700 + 18 * k) 23 [(4, .int (nI (4 * k))), (3, .ref (wB E + 56)), (2, .ref (wB E + 39)), (1, .ref (wB E + 0)), (0, .ref b)] [] f g0 w 57 := by
    apply lp_ind
    intro k hk ih m f w hI hC hm
    refine e_iload (dat dL0 13 rfl) 0 rfl ?_
    refine e_aload_n (dat dL0 14 rfl) 4 rfl rfl ?_
    refine e_slen (dat dL0 15 rfl) ?_
    refine n_iconst (dat dL0 16 rfl) 4 rfl ?_
    refine e_isub (dat dL0 17 rfl) ?_
    refine e_icmp_gt (dat dL0 18 rfl) (tgt := 1028) (by decide) (fun h29 => ?_) (fun h29 => ?_)
    · replace h29 : L < 4 * k + 4 := (len4 hL hk).mp h29
      refine n_iconst (dat dL10 4 rfl) 1 rfl ?_
      exact l_end (dat dL10 5 rfl) (by omega) (by omega)
    · replace h29 : ¬ L < 4 * k + 4 := fun h => h29 ((len4 hL hk).mpr h)
      have K : ∀ (m9 : wM) (f9 : wF) (w9 : Int64), Iv m9 → Rc m9 f9 → Rm m9 f9 → Ev E (jL E b L xs) (57 + 3 * k + 3) (700 + 18 * k + 18) 1022 [(4, .int (nI (4 * k))), (3, .ref (wB E + 56)), (2, .ref (wB E + 39)), (1, .ref (wB E + 0)), (0, .ref b)] [] f9 g0 w9 57 := by
        intro m9 f9 w9 a1 a2 a3
        refine e_iinc (q := 0) (dat dL10 2 rfl) rfl (show nI (4 * k) + Int32.ofInt 4 = nI (4 * (k + 1)) from nI_add (4 * k) 4) (show 4 < 7 by decide) (lv2 := [(4, _), (3, _), (2, _), (1, _), (0, _)]) rfl ?_
        refine e_goto (dat dL10 3 rfl) (tgt := 23) (by decide) ?_
        exact ih (by omega) m9 f9 w9 a1 a2 a3
      refine e_aload_n (dat dL0 19 rfl) 4 rfl rfl ?_
      refine e_iload (dat dL0 20 rfl) 0 rfl ?_
      refine e_sld (dat dL0 21 rfl) rfl (by omega) (by omega) ?_
      refine n_bipush (dat dL0 22 rfl) 15 rfl ?_
      refine e_iand (dat dL0 23 rfl) ?_
      obtain ⟨c, hc, hcv⟩ := and15 (xs (4 * k))
      rw [hcv]
      have hcc : c = 0 ∨ c = 1 ∨ c = 2 ∨ c = 3 ∨ c = 4 ∨ c = 5 ∨ c = 6 ∨ c = 7 ∨ c = 8 ∨ c = 9 ∨ c = 10 ∨ c = 11 ∨ c = 12 ∨ c = 13 ∨ c = 14 ∨ c = 15 := by omega
      rcases hcc with rfl | rfl | rfl | rfl | rfl | rfl | rfl | rfl | rfl | rfl | rfl | rfl | rfl | rfl | rfl | rfl
      · refine e_tabIn (dat dL0 24 rfl) (off := 73) (tgt := 112) (by decide +kernel) (by decide +kernel) (by decide +kernel) (by decide) ?_
        exact cs_0 hE hI hC hm hL (by omega) (by omega) (by omega) K
      · refine e_tabIn (dat dL0 24 rfl) (off := 84) (tgt := 123) (by decide +kernel) (by decide +kernel) (by decide +kernel) (by decide) ?_
        exact cs_1 hE hI hC hm hL (by omega) (by omega) (by omega) K
      · refine e_tabIn (dat dL0 24 rfl) (off := 156) (tgt := 195) (by decide +kernel) (by decide +kernel) (by decide +kernel) (by decide) ?_
        exact cs_2 hE hI hC hm hL (by omega) (by omega) (by omega) K
      · refine e_tabIn (dat dL0 24 rfl) (off := 236) (tgt := 275) (by decide +kernel) (by decide +kernel) (by decide +kernel) (by decide) ?_
        exact cs_3 hE hI hC hm hL (by omega) (by omega) (by omega) K
      · refine e_tabIn (dat dL0 24 rfl) (off := 296) (tgt := 335) (by decide +kernel) (by decide +kernel) (by decide +kernel) (by decide) ?_
        exact cs_4 hE hI hC hm hL (by omega) (by omega) (by omega) K
      · refine e_tabIn (dat dL0 24 rfl) (off := 352) (tgt := 391) (by decide +kernel) (by decide +kernel) (by decide +kernel) (by decide) ?_
        exact cs_5 hE hI hC hm hL (by omega) (by omega) (by omega) K
      · refine e_tabIn (dat dL0 24 rfl) (off := 408) (tgt := 447) (by decide +kernel) (by decide +kernel) (by decide +kernel) (by decide) ?_
        exact cs_6 hE hI hC hm hL (by omega) (by omega) (by omega) K
      · refine e_tabIn (dat dL0 24 rfl) (off := 471) (tgt := 510) (by decide +kernel) (by decide +kernel) (by decide +kernel) (by decide) ?_
        exact cs_7 hE hI hC hm hL (by omega) (by omega) (by omega) K
      · refine e_tabIn (dat dL0 24 rfl) (off := 534) (tgt := 573) (by decide +kernel) (by decide +kernel) (by decide +kernel) (by decide) ?_
        exact cs_8 hE hI hC hm hL (by omega) (by omega) (by omega) K
      · refine e_tabIn (dat dL0 24 rfl) (off := 609) (tgt := 648) (by decide +kernel) (by decide +kernel) (by decide +kernel) (by decide) ?_
        exact cs_9 hE hI hC hm hL (by omega) (by omega) (by omega) K
      · refine e_tabIn (dat dL0 24 rfl) (off := 673) (tgt := 712) (by decide +kernel) (by decide +kernel) (by decide +kernel) (by decide) ?_
        exact cs_10 hE hI hC hm hL (by omega) (by omega) (by omega) K
      · refine e_tabIn (dat dL0 24 rfl) (off := 709) (tgt := 748) (by decide +kernel) (by decide +kernel) (by decide +kernel) (by decide) ?_
        exact cs_11 hE hI hC hm hL (by omega) (by omega) (by omega) K
      · refine e_tabIn (dat dL0 24 rfl) (off := 772) (tgt := 811) (by decide +kernel) (by decide +kernel) (by decide +kernel) (by decide) ?_
        exact cs_12 hE hI hC hm hL (by omega) (by omega) (by omega) K
      · refine e_tabIn (dat dL0 24 rfl) (off := 847) (tgt := 886) (by decide +kernel) (by decide +kernel) (by decide +kernel) (by decide) ?_
        exact cs_13 hE hI hC hm hL (by omega) (by omega) (by omega) K
      · refine e_tabIn (dat dL0 24 rfl) (off := 915) (tgt := 954) (by decide +kernel) (by decide +kernel) (by decide +kernel) (by decide) ?_
        exact cs_14 hE hI hC hm hL (by omega) (by omega) (by omega) K
      · refine e_tabOut (dat dL0 24 rfl) (by decide +kernel) (tgt := 1022) (by decide) ?_
        exact e_wd (by omega) (by omega) (K m f w hI hC hm)
  exact key 0 (by decide)
