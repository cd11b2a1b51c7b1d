theorem tx_30 : ∀ w ∈ (vx_atS "RouteFrame" 34 "java/lang/IllegalStateException" nmX).filter goodWord, w ∈ lw_tbl := by decide +kernel
theorem th_30 : Thr "java/lang/IllegalStateException" 30 34 := ⟨by decide +kernel, k_127, k_8, fun w hw => ws_mem (tx_30 w hw) (List.mem_filter.mp hw).2, by decide +kernel, by decide +kernel, by decide +kernel⟩
theorem tx_45 : ∀ w ∈ (vx_atS "RouteFrame" 49 "java/lang/IndexOutOfBoundsException" nmX).filter goodWord, w ∈ lw_tbl := by decide +kernel
theorem th_45 : Thr "java/lang/IndexOutOfBoundsException" 45 49 := ⟨by decide +kernel, k_212, k_9, fun w hw => ws_mem (tx_45 w hw) (List.mem_filter.mp hw).2, by decide +kernel, by decide +kernel, by decide +kernel⟩
theorem tx_53 : ∀ w ∈ (vx_atS "RouteFrame" 57 "java/lang/IllegalArgumentException" nmX).filter goodWord, w ∈ lw_tbl := by decide +kernel
theorem th_53 : Thr "java/lang/IllegalArgumentException" 53 57 := ⟨by decide +kernel, k_231, k_10, fun w hw => ws_mem (tx_53 w hw) (List.mem_filter.mp hw).2, by decide +kernel, by decide +kernel, by decide +kernel⟩
