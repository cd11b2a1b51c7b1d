/-! making: new objects and arrays, references stored, constructors called -/
theorem met_of {E : wE} {I : mI} {d mc ms : Nat} {As : List Value} {f : wF} {g : wG} {w : Int64} {n : Nat} {post : Option Value → wS → Prop} (h : Ct E I d mc ms As f g w n post NXw) : Met (wl E) (my I) (cdW I :: WS) (rmD d mc ms) (Pw E As f g w n) (Qw E post) mc ms (wA E) := by
  intro p e ha hc hk s m args below hf happ hP ht
  obtain ⟨k, o, h1, h2, h3, hq⟩ := h p e ha hc hk s m args below hf happ hP ht
  refine ⟨k, o, h1, h2, h3, ?_⟩
  rcases hq with hq | ⟨q, rfl, E9, ce, L, ⟨u, hu, -⟩, -⟩
  · exact hq
  · exact hu.elim
section CR9
variable {E : wE} {J : jI} {cells slots pc : Nat} {lv : List (Nat × Value)} {st : List Value} {f : wF} {g : wG} {w : Int64} {n : Nat}
theorem sz_of {p : Program} {e : Env} {s T : State} {m : MethodId} {args : Array Value} {below : List Frame} {meth : Method} {c : Code} {H : Heap} {locs : List Loc} (C : Cx E J p s m args meth c) (hS : Sm E f g w n H) (hV : va_S (wA E) s.heap H locs) (hT : T.heap = H) (X : Stand p (wl E) e J.2.1 s m args below meth c T locs cells slots) (hz : ∀ (s : State) (args : Array Value), J.2.2.2 args s → s.heap.size + cells = wB E + n) : H.size = wB E + n := by
  have h1 := X.heapSize
  rw [hT] at h1
  have h2 := hz s args C.2.2.2.2.2.2.2.2.2.2.2
  have h3 := hS.size (Nat.le_trans C.2.2.2.2.2.2.2.2.2.1 hV.1)
  omega
theorem sm_push {H H1 : Heap} (hS : Sm E f g w n H) (hsz : H.size = wB E + n) (o1 : ∀ q, q < wB E + n → H1[q]? = H[q]?) (he : va_at (wD E) wcl (wB E + n, wce E f g w n) H1) : Sm E f g w (n + 1) H1 := by
  intro k q hk
  obtain ⟨hkn, rfl⟩ := mkW_in hk
  by_cases e9 : k = n
  · subst e9
    exact he
  · have h1 := hS k _ (mkW_at (show k < n by omega))
    exact h1.kept (o1 _ (by show wB E + k < wB E + n; omega))
theorem vs_push {s : State} {H H1 : Heap} {locs : List Loc} (hV : va_S (wA E) s.heap H locs) (hsz : H.size = wB E + n) (z1 : H1.size = wB E + n + 1) (o1 : ∀ q, q < wB E + n → H1[q]? = H[q]?) : va_S (wA E) s.heap H1 locs := by
  have h0 := hV.1
  exact ⟨by omega, fun q h1 h2 => (o1 q (by omega)).trans (hV.2.1 q h1 h2), hV.2.2⟩
theorem e_new {idx ci N : Nat} {CN : String} {T : u_T} (hd : decode (mb J.1) pc = .ok (.new idx, 3)) (hci : wcl[ci]? = some (CN, T, N)) (hin : ∀ w ∈ u_ws CN T N, w ∈ WS) (ty : Nat → FieldType) (hty : ∀ k, k < N → parseFieldDescriptor (T k).2.2.1 = some (ty k)) (k1 : Cond.classLink (mo J.1) idx CN ∈ WS) (k2 : Cond.instantiable CN N ∈ WS) (k3 : Cond.initialized CN ∈ WS)
    (hkd : kd n = ci) (hc4 : ci < 4) (hN : nf ci = N) (hf0 : ∀ j, f n j = 0) (hg0 : ∀ j, g n j = none) (hdv : ∀ j, j < N → defaultValue (ty j) = if rfld ci j = true then Value.null else .int 0) (hrc : cells + 1 ≤ J.2.1.cells) (hrs : slots + N ≤ J.2.1.slots) (hz : ∀ (s : State) (args : Array Value), J.2.2.2 args s → s.heap.size + cells = wB E + n)
    (kk : Ev E J (cells + 1) (slots + N) (pc + 3) lv (.ref (wB E + n) :: st) f g w (n + 1)) : Ev E J cells slots pc lv st f g w n := by
  intro p e s m args below meth c H locs ls C hS hV hl T9 hT X
  have hts := C.2.2.2.2.1
  have hsz := sz_of C hS hV hT X hz
  have hKn := C.2.2.2.2.2.2.2.2.1.1.1 ci _ hci
  have key : W p (wl E) e J.2.1 s m args below meth c H locs cells slots (J.2.2.1 args below s) (F0 m pc ls st) := by
    refine W.newcK (g := F0 m pc ls st) (h := wB E + n) C.1 C.2.1 C.2.2.2.1 (hts _ k1) (hts _ k2) (hts _ k3) rfl hd hrc hrs hKn.2.1 hsz (fun H1 kC hkC e1 z1 o1 => ?_)
    refine kk p e s m args below meth c H1 locs ls C (sm_push hS hsz o1 ?_) (vs_push hV hsz z1 o1) hl
    rw [wce_o hkd hc4]
    refine ⟨_, hci, (u_born ty hts hin hKn hkC e1 hty).to (fun j hj => ?_)⟩
    rw [hdv j hj]
    have h9 := wfs_at (E := E) (c := ci) (f := f) (g := g) (k := n) (j := j) (by rw [hN]; exact hj)
    rw [hf0, hg0] at h9
    unfold vp_V
    simp [List.getD_eq_getElem?_getD, h9, wv]
  exact key T9 hT X
theorem e_newi {N : Nat} (hd : decode (mb J.1) pc = .ok (.newarray .int, 2)) (k1 : Cond.arrayClass .int ∈ WS) (hkd : kd n = 5) (hN : ln n = N) (hf0 : ∀ j, f n j = 0) (hrc : cells + 1 ≤ J.2.1.cells) (hrs : slots + N ≤ J.2.1.slots) (hz : ∀ (s : State) (args : Array Value), J.2.2.2 args s → s.heap.size + cells = wB E + n)
    (kk : Ev E J (cells + 1) (slots + N) (pc + 2) lv (.ref (wB E + n) :: st) f g w (n + 1)) : Ev E J cells slots pc lv (.int (nI N) :: st) f g w n := by
  intro p e s m args below meth c H locs ls C hS hV hl T9 hT X
  have hts := C.2.2.2.2.1
  have hsz := sz_of C hS hV hT X hz
  have h48 := ln_le n
  have hR := (C.2.2.2.2.2.2.2.2.1.1.2 0 _ (show (wty E)[0]? = some (wc E 0, .int) from rfl)).2
  have key : W p (wl E) e J.2.1 s m args below meth c H locs cells slots (J.2.2.1 args below s) (F0 m pc ls (.int (nI N) :: st)) := by
    refine va_newaK (g := F0 m pc ls (.int (nI N) :: st)) (h := wB E + n) (N := N) C.1 C.2.1 (atype := .int) (hts _ k1) rfl hd rfl (nI_pos (by omega)) (nI_clamp (by omega)) (by show N * 4 ≤ 536870912; omega) hrc hrs hsz (fun H1 cA e1 z1 o1 hAr hNm => ?_)
    have hcA : cA = wc E 0 := Option.some.inj (hNm.symm.trans hR)
    subst hcA
    refine kk p e s m args below meth c H1 locs ls C (sm_push hS hsz o1 ?_) (vs_push hV hsz z1 o1) hl
    rw [wce_i hkd, hN]
    show H1[wB E + n]? = some (arrV (wc E 0) N (fun j => .int (f n j)))
    rw [e1]
    congr 2
    funext j
    rw [hf0]
    rfl
  exact key T9 hT X
theorem e_newz {N : Nat} (hd : decode (mb J.1) pc = .ok (.newarray .boolean, 2)) (k1 : Cond.arrayClass .boolean ∈ WS) (hkd : kd n = 6) (hN : ln n = N) (hf0 : ∀ j, f n j = 0) (hrc : cells + 1 ≤ J.2.1.cells) (hrs : slots + N ≤ J.2.1.slots) (hz : ∀ (s : State) (args : Array Value), J.2.2.2 args s → s.heap.size + cells = wB E + n)
    (kk : Ev E J (cells + 1) (slots + N) (pc + 2) lv (.ref (wB E + n) :: st) f g w (n + 1)) : Ev E J cells slots pc lv (.int (nI N) :: st) f g w n := by
  intro p e s m args below meth c H locs ls C hS hV hl T9 hT X
  have hts := C.2.2.2.2.1
  have hsz := sz_of C hS hV hT X hz
  have h48 := ln_le n
  have hR := (C.2.2.2.2.2.2.2.2.1.1.2 1 _ (show (wty E)[1]? = some (wc E 1, .boolean) from rfl)).2
  have key : W p (wl E) e J.2.1 s m args below meth c H locs cells slots (J.2.2.1 args below s) (F0 m pc ls (.int (nI N) :: st)) := by
    refine va_newaK (g := F0 m pc ls (.int (nI N) :: st)) (h := wB E + n) (N := N) C.1 C.2.1 (atype := .boolean) (hts _ k1) rfl hd rfl (nI_pos (by omega)) (nI_clamp (by omega)) (by show N * 1 ≤ 536870912; omega) hrc hrs hsz (fun H1 cA e1 z1 o1 hAr hNm => ?_)
    have hcA : cA = wc E 1 := Option.some.inj (hNm.symm.trans hR)
    subst hcA
    refine kk p e s m args below meth c H1 locs ls C (sm_push hS hsz o1 ?_) (vs_push hV hsz z1 o1) hl
    rw [wce_z hkd, hN]
    show H1[wB E + n]? = some (arrV (wc E 1) N (fun j => .int (f n j)))
    rw [e1]
    congr 2
    funext j
    rw [hf0]
    rfl
  exact key T9 hT X
theorem e_newl (hd : decode (mb J.1) pc = .ok (.newarray .long, 2)) (k1 : Cond.arrayClass .long ∈ WS) (hkd : kd n = 7) (hN : ln n = 1) (hw0 : w = 0) (hrc : cells + 1 ≤ J.2.1.cells) (hrs : slots + 1 ≤ J.2.1.slots) (hz : ∀ (s : State) (args : Array Value), J.2.2.2 args s → s.heap.size + cells = wB E + n)
    (kk : Ev E J (cells + 1) (slots + 1) (pc + 2) lv (.ref (wB E + n) :: st) f g w (n + 1)) : Ev E J cells slots pc lv (.int (nI 1) :: st) f g w n := by
  intro p e s m args below meth c H locs ls C hS hV hl T9 hT X
  have hts := C.2.2.2.2.1
  have hsz := sz_of C hS hV hT X hz
  have hR := (C.2.2.2.2.2.2.2.2.1.1.2 2 _ (show (wty E)[2]? = some (wc E 2, .long) from rfl)).2
  have key : W p (wl E) e J.2.1 s m args below meth c H locs cells slots (J.2.2.1 args below s) (F0 m pc ls (.int (nI 1) :: st)) := by
    refine va_newaK (g := F0 m pc ls (.int (nI 1) :: st)) (h := wB E + n) (N := 1) C.1 C.2.1 (atype := .long) (hts _ k1) rfl hd rfl (nI_pos (by decide)) (nI_clamp (by decide)) (by decide) hrc hrs hsz (fun H1 cA e1 z1 o1 hAr hNm => ?_)
    have hcA : cA = wc E 2 := Option.some.inj (hNm.symm.trans hR)
    subst hcA
    refine kk p e s m args below meth c H1 locs ls C (sm_push hS hsz o1 ?_) (vs_push hV hsz z1 o1) hl
    rw [wce_l hkd, hN]
    show H1[wB E + n]? = some (arrV (wc E 2) 1 (fun j => .long w))
    rw [e1, hw0]
    rfl
  exact key T9 hT X
/-- an array of references -/
theorem e_anew {idx N t0 : Nat} {CN : String} (hd : decode (mb J.1) pc = .ok (.anewarray idx, 3)) (k1 : Cond.classLink (mo J.1) idx CN ∈ WS) (ht0 : (CN = "RouteFrame$Section" ∧ t0 = 3 ∧ n = 1) ∨ (CN = "RouteFrame$Route" ∧ t0 = 4 ∧ n = 14)) (hN : ln n = N) (hg0 : ∀ j, g n j = none) (hrc : cells + 1 ≤ J.2.1.cells) (hrs : slots + N ≤ J.2.1.slots) (hz : ∀ (s : State) (args : Array Value), J.2.2.2 args s → s.heap.size + cells = wB E + n)
    (kk : Ev E J (cells + 1) (slots + N) (pc + 3) lv (.ref (wB E + n) :: st) f g w (n + 1)) : Ev E J cells slots pc lv (.int (nI N) :: st) f g w n := by
  intro p e s m args below meth c H locs ls C hS hV hl T9 hT X
  have hts := C.2.2.2.2.1
  have hK := C.2.2.2.2.2.2.2.2.1
  have hsz := sz_of C hS hV hT X hz
  have h48 := ln_le n
  have hover : va_AO CN s := by
    rcases ht0 with ⟨rfl, -, -⟩ | ⟨rfl, -, -⟩
    · exact hK.2.2.2.2.2.2.2.2.1
    · exact hK.2.2.2.2.2.2.2.2.2
  have hty : (wty E)[t0]? = some (wc E t0, .object CN) := by
    rcases ht0 with ⟨rfl, rfl, -⟩ | ⟨rfl, rfl, -⟩ <;> rfl
  obtain ⟨kA9, comp9, -, -, -, hR⟩ := (hK.1.2 t0 _ hty).2
  have key : W p (wl E) e J.2.1 s m args below meth c H locs cells slots (J.2.2.1 args below s) (F0 m pc ls (.int (nI N) :: st)) := by
    refine W.anew (g := F0 m pc ls (.int (nI N) :: st)) C.1 C.2.1 C.2.2.2.1 (hts _ k1) (va_AO.use hover) rfl hd rfl (nI_pos (by omega)) (by rw [nI_clamp (by omega)]; omega) hrc (by rw [nI_clamp (by omega)]; exact hrs) (fun cA kA comp f1 f2 f3 f4 => ?_)
    rw [nI_clamp (show N < 2 ^ 31 by omega)]
    have hcA : cA = wc E t0 := Option.some.inj (f1.symm.trans hR)
    subst hcA
    generalize hH1 : H.push ({ cls := wc E t0, slots := Array.replicate N .null, vm := .none } : Cell) = H1
    have z1 : H1.size = wB E + n + 1 := by rw [← hH1, Array.size_push, hsz]
    have e1 : H1[wB E + n]? = some (arrV (wc E t0) N (fun _ => .null)) := by rw [← hH1, ← hsz, Array.getElem?_push_size, ← arrV_new]
    have o1 : ∀ q : Nat, q < wB E + n → H1[q]? = H[q]? := fun q hq => by rw [← hH1, Array.getElem?_push, if_neg (by omega)]
    rw [hsz]
    refine kk p e s m args below meth c H1 locs ls C (sm_push hS hsz o1 ?_) (vs_push hV hsz z1 o1) hl
    have hkd : kd n = 4 := by rcases ht0 with ⟨-, -, rfl⟩ | ⟨-, -, rfl⟩ <;> rfl
    have hif : (if n = 1 then 3 else 4) = t0 := by rcases ht0 with ⟨-, rfl, rfl⟩ | ⟨-, rfl, rfl⟩ <;> rfl
    rw [wce_q hkd, hif, hN]
    show H1[wB E + n]? = some (arrV (wc E t0) N (fun j => va_rf ((g n j).map (wB E + ·))))
    rw [e1]
    congr 2
    funext j
    rw [hg0]
    rfl
  exact key T9 hT X
theorem e_aast {k t i ci : Nat} {x : Int32} (hd : decode (mb J.1) pc = .ok (.aastore, 1)) (hk : (k = 1 ∧ ci = 1) ∨ (k = 14 ∧ ci = 2)) (hkn : k < n) (ht : kd t = ci) (htn : t < n) (hx : x = nI i) (hi : i < ln k) (kk : Ev E J cells slots (pc + 1) lv st f (upg g k i (some t)) w n) : Ev E J cells slots pc lv (.ref (wB E + t) :: .int x :: .ref (wB E + k) :: st) f g w n := by
  intro p e s m args below meth c H locs ls C hS hV hl
  subst hx
  have h48 := ln_le k
  have hkd : kd k = 4 := by rcases hk with ⟨rfl, -⟩ | ⟨rfl, -⟩ <;> rfl
  have hc4 : ci < 4 := by rcases hk with ⟨-, rfl⟩ | ⟨-, rfl⟩ <;> decide
  obtain ⟨r, hr, hty⟩ : ∃ r, wcl[ci]? = some r ∧ (wty E)[if k = 1 then 3 else 4]? = some (wc E (if k = 1 then 3 else 4), .object r.1) := by
    rcases hk with ⟨rfl, rfl⟩ | ⟨rfl, rfl⟩
    · exact ⟨_, rfl, rfl⟩
    · exact ⟨_, rfl, rfl⟩
  refine va_astq C.1 C.2.1 C.2.2.2.2.2.2.2.2.1.1 hS mkW_D hV k (if k = 1 then 3 else 4) t ci (by rw [mkW_at hkn, wce_q hkd]) hty (by rw [mkW_at htn, wce_o ht hc4]) hr (vp_in_nI hi (by omega)) hd (fun H1 locs1 hP1 _ hS1 => ?_)
  rw [nI_clamp (by omega), mkW_set (f' := f) (g' := upg g k i (some t)) (w' := w) ?_ (fun a ha => wce_g (upg_n ha))] at hP1
  · exact kk p e s m args below meth c H1 locs1 ls C hP1 hS1 hl
  · have e9 : va_up (fun i => Option.map (fun x => wB E + x) (g k i)) i (some (wB E + t)) = fun j => Option.map (fun x => wB E + x) (va_up (g k) i (some t) j) := by
      funext j
      unfold va_up
      split <;> rfl
    rw [wce_q hkd, upg_s, e9]
/-- a constructor's call -/
theorem e_callI {I2 : mI} {d mc ms idx np a : Nat} {As rest st0 : List Value} {post : Option Value → wS → Prop} (hM : Ct E I2 d mc ms (.ref a :: As) f g w n post NXw)
    (hd : decode (mb J.1) pc = .ok (.invokespecial idx, 3)) (hst : st0 = As.reverse ++ .ref a :: rest) (k1 : Cond.methodLink (mo J.1) idx (my I2) ∈ WS) (k2 : Cond.instanceMethod (my I2) ∈ WS) (k4 : Cond.initialized (my I2).cls ∈ WS) (k5 : cdW I2 ∈ WS) (hi9 : (my I2).name = "<init>") (hrn : mr I2 = none)
    (hy : (my I2).cls ≠ "java/lang/invoke/MethodHandle" ∧ (my I2).cls ≠ "java/lang/invoke/VarHandle" ∧ (parseMethodDescriptor (my I2).desc).map (fun d => d.parameters.length) = some np) (hnp : As.length = np)
    (hr : (rest.map fun v => v.category).sum ≤ 8) (hR : d + 1 ≤ J.2.1.frames ∧ 8 + (mn I2 + 11) + 30 * d ≤ J.2.1.locals) (hf : cells + mc ≤ J.2.1.cells ∧ slots + ms ≤ J.2.1.slots) (hz : n < 57 → ∀ (s : State) (args : Array Value), J.2.2.2 args s → s.heap.size + cells = wB E + n)
    (kk : ∀ (v : Option Value) (u : wS), post v u → Ev E J (cells + mc) (slots + ms) (pc + 3) lv (v.toList ++ rest) u.1 u.2.1 u.2.2.1 u.2.2.2) : Ev E J cells slots pc lv st0 f g w n := by
  intro p e s m args below meth c H locs ls C hS hV hl T hT X
  have hts := C.2.2.2.2.1
  have hsz : n < 57 → H.size = wB E + n := fun h9 => sz_of C hS hV hT X (hz h9)
  have hlen : ∀ sig, parseMethodDescriptor (my I2).desc = some sig → np = sig.parameters.length := fun sig h => by
    have h2 := hy.2.2
    rw [h] at h2
    exact (Option.some.inj h2).symm
  have hrun := va_runI (p := p) (e := e) (below := below) (meth := meth) (locs := locs) (cells := cells) (slots := slots) (R := J.2.1) (n := np) (bytes := mb I2) (maxL := mn I2) (rest := rest) (g := F0 m pc ls st0) (index := idx)
    ⟨C.1, C.2.1, C.2.2.1, C.2.2.2.1, hts⟩ (met_of hM) ⟨⟨rfl, rfl, hR.1, hR.2, ws_pay hts k5, by rw [← hrn]; exact List.mem_cons_self, by rw [← hrn]; exact hts _ k5, hts _ k4, ⟨hy.1, hy.2.1⟩, hlen, hts _ k1⟩, hi9, hts _ k2⟩
    ⟨pw_blind, fun U hU hW => pw_at C hS hV hsz hU hW⟩ rfl hnp (hl.1) hst (lv_room hr) hd hf
  obtain ⟨v, st₀, t, T', L, h0, X', hL, e1, e2, ⟨v2, u, hv, hp, hS2, hF⟩, stp⟩ := hrun T hT X
  cases hv
  obtain ⟨-, -, hV2⟩ := vx_keep h0 e1 hV (fun _ _ h => h) (fun _ h => h) hL hF
  obtain ⟨t2, a1, b1⟩ := kk v u hp p e s m args below meth c T'.heap (locs ++ L) ls C (by rw [e1]; exact hS2) hV2 hl T' rfl X'
  exact ⟨t2, stp t2 a1, b1⟩
theorem e_callIN {I2 : mI} {d mc ms idx np a : Nat} {As rest st0 : List Value} {post : Option Value → wS → Prop} (hM : Ct E I2 d mc ms (.ref a :: As) f g w n post NXw)
    (hd : decode (mb J.1) pc = .ok (.invokespecial idx, 3)) (hst : st0 = As.reverse ++ .ref a :: rest) (k1 : (idx, my I2) ∈ nstL) (ho : mo J.1 = "RouteFrame") (k2 : Cond.instanceMethod (my I2) ∈ WS) (k4 : Cond.initialized (my I2).cls ∈ WS) (k5 : cdW I2 ∈ WS) (hi9 : (my I2).name = "<init>") (hrn : mr I2 = none)
    (hy : (my I2).cls ≠ "java/lang/invoke/MethodHandle" ∧ (my I2).cls ≠ "java/lang/invoke/VarHandle" ∧ (parseMethodDescriptor (my I2).desc).map (fun d => d.parameters.length) = some np) (hnp : As.length = np)
    (hr : (rest.map fun v => v.category).sum ≤ 8) (hR : d + 1 ≤ J.2.1.frames ∧ 8 + (mn I2 + 11) + 30 * d ≤ J.2.1.locals) (hf : cells + mc ≤ J.2.1.cells ∧ slots + ms ≤ J.2.1.slots) (hz : n < 57 → ∀ (s : State) (args : Array Value), J.2.2.2 args s → s.heap.size + cells = wB E + n)
    (kk : ∀ (v : Option Value) (u : wS), post v u → Ev E J (cells + mc) (slots + ms) (pc + 3) lv (v.toList ++ rest) u.1 u.2.1 u.2.2.1 u.2.2.2) : Ev E J cells slots pc lv st0 f g w n := by
  intro p e s m args below meth c H locs ls C hS hV hl T hT X
  have hts := C.2.2.2.2.1
  have hK := C.2.2.2.2.2.2.2.2.1
  have hsz : n < 57 → H.size = wB E + n := fun h9 => sz_of C hS hV hT X (hz h9)
  have hlen : ∀ sig, parseMethodDescriptor (my I2).desc = some sig → np = sig.parameters.length := fun sig h => by
    have h2 := hy.2.2
    rw [h] at h2
    exact (Option.some.inj h2).symm
  have hrun := va_runIN (p := p) (e := e) (below := below) (meth := meth) (locs := locs) (cells := cells) (slots := slots) (R := J.2.1) (n := np) (bytes := mb I2) (maxL := mn I2) (rest := rest) (g := F0 m pc ls st0) (index := idx) (host := "RouteFrame") (own := mo J.1)
    ⟨C.1, C.2.1, C.2.2.1, C.2.2.2.1, hts⟩ (met_of hM) ⟨⟨⟨rfl, rfl, hR.1, hR.2, ws_pay hts k5, by rw [← hrn]; exact List.mem_cons_self⟩, by rw [← hrn]; exact hts _ k5, hts _ k4, ⟨hy.1, hy.2.1⟩, hlen, by rw [ho]; exact va_Nw.use rfl (hK.2.2.2.2.2.2.1 _ k1)⟩, hi9, hts _ k2⟩
    ⟨pw_blind, fun U hU hW => pw_at C hS hV hsz hU hW⟩ rfl hnp (hl.1) hst (lv_room hr) hd hf
  obtain ⟨v, st₀, t, T', L, h0, X', hL, e1, e2, ⟨v2, u, hv, hp, hS2, hF⟩, stp⟩ := hrun T hT X
  cases hv
  obtain ⟨-, -, hV2⟩ := vx_keep h0 e1 hV (fun _ _ h => h) (fun _ h => h) hL hF
  obtain ⟨t2, a1, b1⟩ := kk v u hp p e s m args below meth c T'.heap (locs ++ L) ls C (by rw [e1]; exact hS2) hV2 hl T' rfl X'
  exact ⟨t2, stp t2 a1, b1⟩
/-- a final field of references, in its own constructor -/
theorem e_pq {idx k j t ci N : Nat} {CN : String} {T : u_T} {ty : Nat → FieldType} {ty1 : FieldType} (hd : decode (mb J.1) pc = .ok (.putfield idx, 3)) (hci : wcl[ci]? = some (CN, T, N)) (hin : ∀ w ∈ u_ws CN T N, w ∈ WS) (hty : ∀ k, k < N → parseFieldDescriptor (T k).2.2.1 = some (ty k)) (hnm : ∀ a, a < N → ∀ b, b < N → a ≠ b → (T a).2.1 ≠ (T b).2.1) (hlk : Cond.fieldLink (mo J.1) idx CN (T j).2.1 (T j).2.2.1 ∈ WS) (hj : j < N) (hN : nf ci = N) (ho : (T j).1 = CN) (ho2 : mo J.1 = CN) (hini : (my J.1).name = "<init>") (hr : rfld ci j = true) (hfin : (T j).2.2.2 = true) (hty1 : ty j = .array ty1) (hk : kd k = ci) (hc4 : ci < 4) (hn : k < n)
    (kk : Ev E J cells slots (pc + 3) lv st f (upg g k j (some t)) w n) : Ev E J cells slots pc lv (.ref (wB E + t) :: .ref (wB E + k) :: st) f g w n := by
  intro p e s m args below meth c H locs ls C hS hV hl
  have hts := C.2.2.2.2.1
  refine va_putF (C := CN) (T := T) (N := N) (ref := CN) (ci := ci) (ty := .array ty1) C.1 C.2.1 hts hin ty hty hnm C.2.2.2.1 C.2.2.2.2.2.2.2.2.1.1 hS mkW_D hV k (by rw [mkW_at hn, wce_o hk hc4]) hci j hj (hts _ hlk) (fun x9 h9 => by rw [ho] at h9; exact h9) hfin (C.2.2.2.2.2.2.2.2.2.2.1.trans hini) (ho.trans ho2.symm) (by rw [hty j hj, hty1]) rfl rfl (by rw [wfs_len, hN]; exact hj) hd (fun H1 locs1 hP1 _ hS1 => ?_)
  rw [wfs_setg (c := ci) hr, mkW_set (f' := f) (g' := upg g k j (some t)) (w' := w) (by rw [wce_o hk hc4]) (fun a ha => wce_g (upg_n ha))] at hP1
  exact kk p e s m args below meth c H1 locs1 ls C hP1 hS1 hl
end CR9
