/-! rules of the law's own methods: out's cell, catching, methods with handlers -/
theorem arr1 {cA : ClassId} {f f' : Nat → Value} (h : f 0 = f' 0) : arrV cA 1 f = arrV cA 1 f' := by
  unfold arrV
  congr 1
  congr 1
  funext j
  have e : j.val = 0 := by omega
  rw [e]
  exact h
theorem kd_7 : ∀ k, kd k = 7 → k = 56 := by
  intro k
  by_cases h : k < 57
  · revert k
    decide
  · intro h2
    unfold kd at h2
    rw [List.getD_eq_getElem?_getD, List.getElem?_eq_none (by show 57 ≤ k; omega)] at h2
    exact absurd h2 (by decide)
section LR9
variable {E : wE} {J : jI} {cells slots pc : Nat} {lv : List (Nat × Value)} {st : List Value} {f : wF} {g : wG} {w : Int64} {n : Nat}
theorem e_lald (hd : decode (mb J.1) pc = .ok (.laload, 1)) (hn : 56 < n) (kk : Ev E J cells slots (pc + 1) lv (.long w :: st) f g w n) : Ev E J cells slots pc lv (.int (nI 0) :: .ref (wB E + 56) :: st) f g w n := by
  intro p e s m args below meth c H locs ls C hS hV hl
  exact va_lald C.1 C.2.1 C.2.2.2.2.2.2.2.2.1.1 hS 56 2 (by rw [mkW_at hn, wce_l rfl]) rfl (vp_in_nI (N := ln 56) (by decide) (by decide)) hd (kk p e s m args below meth c H locs ls C hS hV hl)
theorem e_last {x : Int64} (hd : decode (mb J.1) pc = .ok (.lastore, 1)) (hn : 56 < n) (kk : Ev E J cells slots (pc + 1) lv st f g x n) : Ev E J cells slots pc lv (.long x :: .int (nI 0) :: .ref (wB E + 56) :: st) f g w n := by
  intro p e s m args below meth c H locs ls C hS hV hl
  refine va_last C.1 C.2.1 C.2.2.2.2.2.2.2.2.1.1 hS mkW_D hV 56 2 (by rw [mkW_at hn, wce_l rfl]) rfl (vp_in_nI (N := ln 56) (by decide) (by decide)) hd (fun H1 locs1 hP1 _ hS1 => ?_)
  refine kk p e s m args below meth c H1 locs1 ls C ?_ hS1 hl
  intro k q hk
  obtain ⟨hkn, rfl⟩ := mkW_in hk
  by_cases e9 : k = 56
  · subst e9
    have h1 := hP1 56 _ (List.getElem?_set_self (by rw [mkW_len]; exact hn))
    have h2 : H1[wB E + 56]? = some (vp_cell (wc E 2) (ln 56, .inr (.inl (vp_updL (fun _ => w) (nI 0).toNatClampNeg x)))) := h1
    rw [wce_l rfl]
    show H1[wB E + 56]? = some (vp_cell (wc E 2) (ln 56, .inr (.inl (fun _ => x))))
    rw [h2]
    congr 1
  · have h1 := hP1 k (wB E + k, wce E f g w k) (by rw [List.getElem?_set_ne (Ne.symm e9), mkW_at hkn])
    have e8 : wce E f g x k = wce E f g w k := by
      unfold wce
      split
      · rfl
      · rfl
      · rfl
      · rename_i h7
        exfalso
        exact e9 (kd_7 k h7)
      · rfl
    rw [e8]
    exact h1
/-- caught here: by the row behind pre, whose own kinds are others -/
theorem x_catch {X : String} (hX : X ∈ excL) (pre suf : List (Nat × Nat × Nat × Nat)) (a b hp ct : Nat) (hh : mh J.1 = pre ++ (a, b, hp, ct) :: suf) (hpre : ∀ z ∈ pre, z.2.2.2 ≠ 0 ∧ ∃ Y, Y ∈ excL ∧ X ≠ Y ∧ Cond.classLink (mo J.1) z.2.2.2 Y ∈ WS) (hcov : covers ⟨a, b, hp, ct⟩ pc = true) (h0 : ct ≠ 0) (hlk : Cond.classLink (mo J.1) ct X ∈ WS)
    (kk : ∀ q : Nat, Ev E J cells slots hp lv [.ref q] f g w n) : Ex E J cells slots pc lv st X f g w n := by
  intro p e s m args below meth c H locs ls q ce C hS hV hl h1 h2 h3
  have hts := C.2.2.2.2.1
  have hK := C.2.2.2.2.2.2.2.2.1
  have ht : c.exceptionTable.toList = tableOf (mh J.1) := C.2.2.2.2.2.2.2.1
  refine vx_catch (own := mo J.1) (name := X) C.2.2.2.1 (tableOf pre) ⟨a, b, hp, ct⟩ (tableOf suf) (by rw [ht, hh]; simp [tableOf]) (fun z hz => ?_) hcov h0 (hts _ hlk) (va_Nw.use rfl (hK.2.2.2.2.1 X hX)) h1 h2 h3 (kk q p e s m args below meth c H locs ls C hS hV hl)
  obtain ⟨z0, hz0, rfl⟩ := List.mem_map.mp hz
  obtain ⟨h4, Y, h5, h6, h7⟩ := hpre z0 hz0
  exact Or.inr ⟨h4, Y, hts _ h7, hK.2.2.2.2.2.2.2.1 X hX Y h5 h6⟩
/-- a static call of a method with handlers -/
theorem e_callSH {I2 : mI} {d mc ms idx np : Nat} {As rest st0 : List Value} {post : Option Value → wS → Prop} {px : String → wS → Prop} (hM : CtH E I2 d mc ms As f g w n post px)
    (hd : decode (mb J.1) pc = .ok (.invokestatic idx, 3)) (hst : st0 = As.reverse ++ rest) (k1 : Cond.methodLink (mo J.1) idx (my I2) ∈ WS) (k2 : Cond.static (my I2) ∈ WS) (k4 : Cond.initialized (my I2).cls ∈ WS) (k5 : cdH I2 ∈ WS)
    (hy : (my I2).cls ≠ "java/lang/invoke/MethodHandle" ∧ (my I2).cls ≠ "java/lang/invoke/VarHandle" ∧ (parseMethodDescriptor (my I2).desc).map (fun d => d.parameters.length) = some np) (hnp : As.length = np)
    (hr : (rest.map fun v => v.category).sum ≤ 8) (hR : d + 1 ≤ J.2.1.frames ∧ 8 + (mn I2 + 11) + 30 * d ≤ J.2.1.locals) (hf : cells + mc ≤ J.2.1.cells ∧ slots + ms ≤ J.2.1.slots) (hz : n < 57 → ∀ (s : State) (args : Array Value), J.2.2.2 args s → s.heap.size + cells = wB E + n)
    (kk : ∀ (v : Option Value) (u : wS), post v u → Ev E J (cells + mc) (slots + ms) (pc + 3) lv (v.toList ++ rest) u.1 u.2.1 u.2.2.1 u.2.2.2)
    (kx : ∀ (X : String) (u : wS), px X u → Ex E J (cells + mc) (slots + ms) pc lv rest X u.1 u.2.1 u.2.2.1 u.2.2.2) : Ev E J cells slots pc lv st0 f g w n := by
  intro p e s m args below meth c H locs ls C hS hV hl T hT X
  have hts := C.2.2.2.2.1
  have hB0 := C.2.2.2.2.2.2.2.2.2.1
  have hsz : n < 57 → H.size = wB E + n := fun h9 => by
    have h1 := X.heapSize
    rw [hT] at h1
    have h2 := hz h9 s args C.2.2.2.2.2.2.2.2.2.2.2
    have h3 := hS.size (Nat.le_trans hB0 hV.1)
    omega
  have hlen : ∀ sig, parseMethodDescriptor (my I2).desc = some sig → np = sig.parameters.length := fun sig h => by
    have h2 := hy.2.2
    rw [h] at h2
    exact (Option.some.inj h2).symm
  have hrun := vx_runSX (p := p) (e := e) (below := below) (meth := meth) (locs := locs) (cells := cells) (slots := slots) (R := J.2.1) (n := np) (bytes := mb I2) (maxL := mn I2) (ret := mr I2) (hh := mh I2) (rest := rest) (g := F0 m pc ls st0) (index := idx)
    ⟨C.1, C.2.1, C.2.2.1, C.2.2.2.1, hts⟩ hM ⟨⟨rfl, rfl, hR.1, hR.2, ws_pay hts k5, List.mem_cons_self⟩, hts _ k5, hts _ k4, ⟨hy.1, hy.2.1⟩, hlen, hts _ k1, hts _ k2⟩
    ⟨pw_blind, fun U hU hW => pw_at C hS hV hsz hU hW⟩ rfl hnp (hl.1) hst (lv_room hr) hd hf
  rcases hrun T hT X with ⟨v, st₀, t, T', L, h0, X', hL, e1, e2, ⟨v2, u, hv, hp, hS2, hF⟩, stp⟩ | ⟨q, st₀, t, T', L, X9, ce, h0, X', hL, e1, e2, ⟨u, hp, hS2, hF⟩, hce, hcv, hcl, stp⟩
  · cases hv
    obtain ⟨-, -, hV2⟩ := vx_keep h0 e1 hV (fun _ _ h => h) (fun _ h => h) hL hF
    obtain ⟨t2, a1, b1⟩ := kk v u hp p e s m args below meth c T'.heap (locs ++ L) ls C (by rw [e1]; exact hS2) hV2 hl T' rfl X'
    exact ⟨t2, stp t2 a1, b1⟩
  · obtain ⟨-, -, hV2⟩ := vx_keep h0 e1 hV (fun _ _ h => h) (fun _ h => h) hL hF
    obtain ⟨t2, a1, b1⟩ := kx X9 u hp p e s m args below meth c T'.heap (locs ++ L) ls q ce C (by rw [e1]; exact hS2) hV2 hl (by rw [e1]; exact hce) hcv hcl T' rfl X'
    exact ⟨t2, stp.trans a1, b1⟩
end LR9
theorem ct_ofH {E : wE} {I : mI} {d mc ms : Nat} {As : List Value} {f : wF} {g : wG} {w : Int64} {n : Nat} {post : Option Value → wS → Prop} {px : String → wS → Prop} (hy : plainName (my I).cls = true) (ho : mo I = (my I).cls) (hlen : (lg_sl As).length ≤ mn I)
    (hb : Ev E (jm E I d mc ms n post px) 0 0 0 (lv_args 0 As) [] f g w n) : CtH E I d mc ms As f g w n post px := by
  refine vx_ofWH (cc := mb I) (maxL := mn I) (ret := mr I) (hh := mh I) hy rfl ?_
  intro p e s m args below meth c s₁ B hml hP
  obtain ⟨rfl, hS, hK, hBs, hz⟩ := hP
  have C : Cx E (jm E I d mc ms n post px) p s m As.toArray meth c := by
    refine ⟨B.exec, B.bytes, hml, ?_, fun w hw => atoms_spec (ws := cdH I :: WS) B.pre w (List.mem_cons_of_mem _ hw), B.returns, B.notSynchronized, ?_, hK, hBs, (name_of_methodNamed B.named B.method).1, hz⟩
    · show s.vm.findClass (mo I) = some m.cls
      rw [ho]
      exact findClass_of_methodNamed B.named
    · exact vx_table (x := my I) B (atoms_spec (ws := cdH I :: WS) B.pre _ List.mem_cons_self)
  have hl := lv_entry As (n := mn I) hlen
  rw [lg_entry_eq]
  exact hb p e s m _ below meth c s.heap [] _ C hS va_S.rf hl
/-- what a helper of the law leaves: the code, out's number, the program's cells -/
def LHp (f : wF) (w : Int64) (c : Nat) (m m' : wM) (a : Int64) (v : Option Value) (u : wS) : Prop := ∃ f9 w9, u = (f9, g0, w9, 57) ∧ v = some (.int (nI c)) ∧ kp f f9 ∧ (c = 0 → w9 = a ∧ Rc m' f9) ∧ (c ≠ 0 → Rc m f9)
def NXw (_ : String) (_ : wS) : Prop := False
def CalH (I : mI) (np : Nat) : Prop := Cond.static (my I) ∈ WS ∧ Cond.initialized (my I).cls ∈ WS ∧ cdH I ∈ WS ∧ (my I).cls ≠ "java/lang/invoke/MethodHandle" ∧ (my I).cls ≠ "java/lang/invoke/VarHandle" ∧ (parseMethodDescriptor (my I).desc).map (fun d => d.parameters.length) = some np
def ixa (y : Int32) : Nat := if y = -1 then 0 else ix y + 1
theorem ixa_ap {a : Nat} (h : a < 64) : ixa (apI a) = a := by
  unfold ixa apI
  by_cases e : a = 0
  · rw [if_pos e, if_pos rfl, e]
  · rw [if_neg e, if_neg (nI_m1 (by omega)), ix_nI (by omega)]
    omega
theorem l01 {b : Nat} (h : b ≤ 1) : (b = 0 → (0 : Int64) = (nI b).toInt64) ∧ (¬ b = 0 → (1 : Int64) = (nI b).toInt64) := by
  have h2 : b = 0 ∨ b = 1 := by omega
  rcases h2 with rfl | rfl
  · exact ⟨fun _ => by decide, fun h => absurd rfl h⟩
  · exact ⟨fun h => absurd h (by decide), fun _ => by decide⟩
theorem lh_0 {f f9 : wF} {w w9 : Int64} {c : Nat} {m m' : wM} {a : Int64} (hc : c = 0) (hk : kp f f9) (hw : w9 = a) (hC : Rc m' f9) : LHp f w c m m' a (some (.int (nI 0))) (f9, g0, w9, 57) := by
  subst hc
  exact ⟨f9, w9, rfl, rfl, hk, fun _ => ⟨hw, hC⟩, fun h => absurd rfl h⟩
theorem lh_x {f : wF} {w : Int64} {c d : Nat} {m m' : wM} {a : Int64} (hc : c = d) (h0 : d ≠ 0) (hC : Rc m f) : LHp f w c m m' a (some (.int (nI d))) (f, g0, w, 57) := by
  subst hc
  exact ⟨f, w, rfl, rfl, kp.rf, fun h => absurd h h0, fun _ => hC⟩
