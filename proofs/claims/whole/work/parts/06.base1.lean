/-! the base: one world for all methods, a packed judgement over it -/
abbrev mI : Type := String × MethodName × ByteArray × Nat × Option FieldType × List (Nat × Nat × Nat × Nat)
abbrev mo (I : mI) : String := I.1
abbrev my (I : mI) : MethodName := I.2.1
abbrev mb (I : mI) : ByteArray := I.2.2.1
abbrev mn (I : mI) : Nat := I.2.2.2.1
abbrev mr (I : mI) : Option FieldType := I.2.2.2.2.1
abbrev mh (I : mI) : List (Nat × Nat × Nat × Nat) := I.2.2.2.2.2
abbrev Dc (b : ByteArray) (t : List (Nat × Instr × Nat)) : Prop := ∀ q ∈ t, decode b q.1 = .ok (q.2.1, q.2.2)
theorem dat {b : ByteArray} {t : List (Nat × Instr × Nat)} (h : Dc b t) (i : Nat) {pc : Nat} {ins : Instr} {len : Nat} (e : t[i]? = some (pc, ins, len)) : decode b pc = .ok (ins, len) := h (pc, ins, len) (List.mem_of_getElem? e)
-- the launch, the classes' numbers and slots, the array classes, the first address of the world
abbrev wE : Type := Launch × va_G × (Nat → ClassId) × Nat
abbrev wl (E : wE) : Launch := E.1
abbrev wD (E : wE) : va_G := E.2.1
abbrev wc (E : wE) : Nat → ClassId := E.2.2.1
abbrev wB (E : wE) : Nat := E.2.2.2
abbrev wA (E : wE) : Nat → Prop := fun q => wB E ≤ q
def wcl : List vw_C := [("RouteFrame", TF, 4), ("RouteFrame$Section", TS, 6), ("RouteFrame$Route", TR, 11), ("RouteFrameModel", TM, 19)]
def wty (E : wE) : List (ClassId × FieldType) := [(wc E 0, .int), (wc E 1, .boolean), (wc E 2, .long), (wc E 3, .object "RouteFrame$Section"), (wc E 4, .object "RouteFrame$Route")]
-- the cells in the order in which they are made: 0..3 an object of that kind, 4 an array of references, 5 of ints, 6 of booleans, 7 of longs
def kdL : List Nat := [0, 4, 1, 1, 1, 1, 1, 1, 1, 1, 1, 1, 1, 1, 4, 2, 5, 5, 2, 5, 5, 2, 5, 5, 2, 5, 5, 2, 5, 5, 2, 5, 5, 2, 5, 5, 2, 5, 5, 3, 6, 6, 5, 5, 6, 5, 5, 5, 5, 5, 6, 5, 5, 5, 6, 6, 7]
def lnL : List Nat := [0, 12, 0, 0, 0, 0, 0, 0, 0, 0, 0, 0, 0, 0, 8, 0, 6, 6, 0, 6, 6, 0, 6, 6, 0, 6, 6, 0, 6, 6, 0, 6, 6, 0, 6, 6, 0, 6, 6, 0, 12, 12, 12, 12, 12, 8, 8, 8, 8, 8, 8, 8, 48, 48, 48, 48, 1]
def kd (k : Nat) : Nat := kdL.getD k 9
def ln (k : Nat) : Nat := lnL.getD k 0
def nf (c : Nat) : Nat := match c with
  | 0 => 4
  | 1 => 6
  | 2 => 11
  | _ => 19
def rfld (c j : Nat) : Bool := match c with
  | 0 => decide (j < 2)
  | 1 => false
  | 2 => decide (j < 2)
  | _ => !(j == 0 || j == 1 || j == 7)
theorem ln_le : ∀ k, ln k ≤ 48 := by
  intro k
  by_cases h : k < 57
  · revert k
    decide
  · unfold ln
    rw [List.getD_eq_getElem?_getD, List.getElem?_eq_none (by show 57 ≤ k; omega)]
    decide
theorem kd_S : ∀ i, i < 12 → kd (2 + i) = 1 := by decide
theorem kd_R : ∀ r, r < 8 → kd (15 + 3 * r) = 2 := by decide
theorem kd_U : ∀ r, r < 8 → kd (16 + 3 * r) = 5 := by decide
theorem kd_V : ∀ r, r < 8 → kd (17 + 3 * r) = 5 := by decide
theorem ln_U : ∀ r, r < 8 → ln (16 + 3 * r) = 6 := by decide
theorem ln_V : ∀ r, r < 8 → ln (17 + 3 * r) = 6 := by decide
-- ints by cell and place, references by cell and place (as cells' numbers), out's long
abbrev wF : Type := Nat → Nat → Int32
abbrev wG : Type := Nat → Nat → Option Nat
abbrev wS : Type := wF × wG × Int64 × Nat
def wv (E : wE) (o : Option Nat) : Value := match o with
  | none => .null
  | some t => .ref (wB E + t)
def wfs (E : wE) (c : Nat) (f : wF) (g : wG) (k : Nat) : List Value := (List.range (nf c)).map (fun j => if rfld c j = true then wv E (g k j) else .int (f k j))
def wce (E : wE) (f : wF) (g : wG) (w : Int64) (k : Nat) : va_E := match kd k with
  | 4 => .inl (wc E (if k = 1 then 3 else 4), ln k, .inr (.inr (.inr (.inr (fun i => (g k i).map (wB E + ·))))))
  | 5 => .inl (wc E 0, ln k, .inl (f k))
  | 6 => .inl (wc E 1, ln k, .inl (f k))
  | 7 => .inl (wc E 2, ln k, .inr (.inl (fun _ => w)))
  | c => .inr (c, wfs E c f g k)
theorem wce_o {E : wE} {f : wF} {g : wG} {w : Int64} {k c : Nat} (h : kd k = c) (hc : c < 4) : wce E f g w k = .inr (c, wfs E c f g k) := by
  unfold wce
  rw [h]
  match c, hc with
  | 0, _ => rfl
  | 1, _ => rfl
  | 2, _ => rfl
  | 3, _ => rfl
theorem wce_q {E : wE} {f : wF} {g : wG} {w : Int64} {k : Nat} (h : kd k = 4) : wce E f g w k = .inl (wc E (if k = 1 then 3 else 4), ln k, .inr (.inr (.inr (.inr (fun i => (g k i).map (wB E + ·)))))) := by
  unfold wce
  rw [h]
  rfl
theorem wce_i {E : wE} {f : wF} {g : wG} {w : Int64} {k : Nat} (h : kd k = 5) : wce E f g w k = .inl (wc E 0, ln k, .inl (f k)) := by
  unfold wce
  rw [h]
  rfl
theorem wce_z {E : wE} {f : wF} {g : wG} {w : Int64} {k : Nat} (h : kd k = 6) : wce E f g w k = .inl (wc E 1, ln k, .inl (f k)) := by
  unfold wce
  rw [h]
  rfl
theorem wce_l {E : wE} {f : wF} {g : wG} {w : Int64} {k : Nat} (h : kd k = 7) : wce E f g w k = .inl (wc E 2, ln k, .inr (.inl (fun _ => w))) := by
  unfold wce
  rw [h]
  rfl
theorem wfs_at {E : wE} {c : Nat} {f : wF} {g : wG} {k j : Nat} (h : j < nf c) : (wfs E c f g k)[j]? = some (if rfld c j = true then wv E (g k j) else .int (f k j)) := by
  unfold wfs
  rw [List.getElem?_map, List.getElem?_range h]
  rfl
theorem wfs_len {E : wE} {c : Nat} {f : wF} {g : wG} {k : Nat} : (wfs E c f g k).length = nf c := by
  unfold wfs
  rw [List.length_map, List.length_range]
-- writing
def up2 (f : wF) (k i : Nat) (v : Int32) : wF := fun a => if a = k then upd (f k) i v else f a
def upg (g : wG) (k i : Nat) (v : Option Nat) : wG := fun a => if a = k then va_up (g k) i v else g a
theorem up2_s {f : wF} {k i : Nat} {v : Int32} : up2 f k i v k = upd (f k) i v := if_pos rfl
theorem up2_n {f : wF} {k i a : Nat} {v : Int32} (h : a ≠ k) : up2 f k i v a = f a := if_neg h
theorem upg_s {g : wG} {k i : Nat} {v : Option Nat} : upg g k i v k = va_up (g k) i v := if_pos rfl
theorem upg_n {g : wG} {k i a : Nat} {v : Option Nat} (h : a ≠ k) : upg g k i v a = g a := if_neg h
theorem up2_at {f : wF} {k i a b : Nat} {v : Int32} : up2 f k i v a b = if a = k ∧ b = i then v else f a b := by
  unfold up2 upd
  by_cases h : a = k
  · subst h
    by_cases h2 : b = i <;> simp [h2]
  · simp [h]
theorem wce_f {E : wE} {f f' : wF} {g : wG} {w : Int64} {k : Nat} (h : f' k = f k) : wce E f' g w k = wce E f g w k := by
  unfold wce wfs
  rw [h]
theorem wce_g {E : wE} {f : wF} {g g' : wG} {w : Int64} {k : Nat} (h : g' k = g k) : wce E f g' w k = wce E f g w k := by
  unfold wce wfs
  rw [h]
theorem wfs_set {E : wE} {c : Nat} {f : wF} {g : wG} {k j : Nat} {v : Int32} (hr : rfld c j = false) : (wfs E c f g k).set j (.int v) = wfs E c (up2 f k j v) g k := by
  apply List.ext_getElem?
  intro i
  by_cases hi : i < nf c
  · by_cases hij : j = i
    · subst hij
      rw [List.getElem?_set_self (by rw [wfs_len]; exact hi), wfs_at hi, hr, up2_s]
      simp [upd]
    · rw [List.getElem?_set_ne hij, wfs_at hi, wfs_at hi, up2_s]
      simp [upd, Ne.symm hij]
  · rw [List.getElem?_eq_none (by rw [List.length_set, wfs_len]; omega), List.getElem?_eq_none (by rw [wfs_len]; omega)]
theorem wfs_setg {E : wE} {c : Nat} {f : wF} {g : wG} {k j t : Nat} (hr : rfld c j = true) : (wfs E c f g k).set j (.ref (wB E + t)) = wfs E c f (upg g k j (some t)) k := by
  apply List.ext_getElem?
  intro i
  by_cases hi : i < nf c
  · by_cases hij : j = i
    · subst hij
      rw [List.getElem?_set_self (by rw [wfs_len]; exact hi), wfs_at hi, hr, upg_s]
      simp [va_up, wv]
    · rw [List.getElem?_set_ne hij, wfs_at hi, wfs_at hi, upg_s]
      simp [va_up, Ne.symm hij]
  · rw [List.getElem?_eq_none (by rw [List.length_set, wfs_len]; omega), List.getElem?_eq_none (by rw [wfs_len]; omega)]
-- the world's list
def mkW (E : wE) (f : wF) (g : wG) (w : Int64) (n : Nat) : va_W := (List.range n).map (fun k => (wB E + k, wce E f g w k))
theorem mkW_at {E : wE} {f : wF} {g : wG} {w : Int64} {n k : Nat} (h : k < n) : (mkW E f g w n)[k]? = some (wB E + k, wce E f g w k) := by
  unfold mkW
  rw [List.getElem?_map, List.getElem?_range h]
  rfl
theorem mkW_len {E : wE} {f : wF} {g : wG} {w : Int64} {n : Nat} : (mkW E f g w n).length = n := by
  unfold mkW
  rw [List.length_map, List.length_range]
theorem mkW_in {E : wE} {f : wF} {g : wG} {w : Int64} {n k : Nat} {q : Nat × va_E} (h : (mkW E f g w n)[k]? = some q) : k < n ∧ q = (wB E + k, wce E f g w k) := by
  have hk : k < n := by
    have := (List.getElem?_eq_some_iff.mp h).1
    rw [mkW_len] at this
    exact this
  rw [mkW_at hk] at h
  exact ⟨hk, (Option.some.inj h).symm⟩
theorem mkW_D {E : wE} {f : wF} {g : wG} {w : Int64} {n : Nat} : va_D (wA E) (mkW E f g w n) := by
  refine ⟨fun i j p q hi hj hpq => ?_, fun k q hk => ?_⟩
  · obtain ⟨-, rfl⟩ := mkW_in hi
    obtain ⟨-, rfl⟩ := mkW_in hj
    have h : wB E + i = wB E + j := hpq
    omega
  · obtain ⟨-, rfl⟩ := mkW_in hk
    exact Nat.le_add_right _ _
theorem mkW_set {E : wE} {f f' : wF} {g g' : wG} {w w' : Int64} {n k : Nat} {e : va_E} (he : e = wce E f' g' w' k) (ho : ∀ a, a ≠ k → wce E f' g' w' a = wce E f g w a) : (mkW E f g w n).set k (wB E + k, e) = mkW E f' g' w' n := by
  apply List.ext_getElem?
  intro i
  by_cases hi : i < n
  · by_cases hij : k = i
    · subst hij
      rw [List.getElem?_set_self (by rw [mkW_len]; exact hi), mkW_at hi, he]
    · rw [List.getElem?_set_ne hij, mkW_at hi, mkW_at hi, ho i (Ne.symm hij)]
  · rw [List.getElem?_eq_none (by rw [List.length_set, mkW_len]; omega), List.getElem?_eq_none (by rw [mkW_len]; omega)]
theorem mkW_push {E : wE} {f f' : wF} {g g' : wG} {w : Int64} {n : Nat} {e : va_E} (he : e = wce E f' g' w n) (ho : ∀ a, a < n → wce E f' g' w a = wce E f g w a) : mkW E f g w n ++ [(wB E + n, e)] = mkW E f' g' w (n + 1) := by
  unfold mkW
  rw [List.range_succ, List.map_append, he]
  congr 1
  apply List.map_congr_left
  intro a ha
  rw [ho a (List.mem_range.mp ha)]
/-- the world lies in the heap -/
def Sm (E : wE) (f : wF) (g : wG) (w : Int64) (n : Nat) (H : Heap) : Prop := va_P (wD E) wcl (mkW E f g w n) H
theorem Sm.size {E : wE} {f : wF} {g : wG} {w : Int64} {n : Nat} {H : Heap} (h : Sm E f g w n H) (h0 : wB E ≤ H.size) : wB E + n ≤ H.size := by
  cases n with
  | zero => exact h0
  | succ n => exact (h n _ (mkW_at (Nat.lt_succ_self n))).lt
-- what else of the state a method needs: the classes, Throwable's two statics, the texts, words that are not good ones
def strL : List (Nat × String) := [(32, "there are 12 sections"), (47, "no such section"), (55, "signal is not 0 .. 5 or delay not 1 .. 9"), (58, "there are 8 routes"), (195, "no such route"), (79, "how does not fit, or the route uses the section already"), (88, "the route has 6 uses, or a route is not free"), (134, "no points, or position is not 0 or 1"), (142, "no points"), (147, "n is not 1 .. 20"), (152, "signal is not 0 .. 5"), (176, "what is not 0 .. 4"), (193, "what is not 0 .. 6")]
def excL : List String := ["java/lang/IllegalStateException", "java/lang/IndexOutOfBoundsException", "java/lang/IllegalArgumentException"]
def dclL : List MethodName := [⟨"java/lang/RuntimeException", "<init>", "()V"⟩, ⟨"java/lang/RuntimeException", "<init>", "(Ljava/lang/String;)V"⟩, ⟨"java/lang/Exception", "<init>", "()V"⟩, ⟨"java/lang/Exception", "<init>", "(Ljava/lang/String;)V"⟩, ⟨"java/lang/Throwable", "<init>", "()V"⟩, ⟨"java/lang/Throwable", "<init>", "(Ljava/lang/String;)V"⟩]
def nstL : List (Nat × MethodName) := [(15, ⟨"RouteFrame$Section", "<init>", "()V"⟩), (22, ⟨"RouteFrame$Route", "<init>", "()V"⟩)]
def Kx (E : wE) (U : State) (H : Heap) : Prop :=
  va_K (wD E) wcl (wty E) U ∧ vx_Zq Bundle.tN "UNASSIGNED_STACK" Bundle.steD (wA E) U H ∧ vx_Zq Bundle.tN "SUPPRESSED_SENTINEL" Bundle.listD (wA E) U H ∧
  (∀ q ∈ strL, ∃ sa, vk_R "RouteFrame" q.1 q.2 sa U) ∧ (∀ X ∈ excL, va_Nw (.castable X X) U) ∧ (∀ y ∈ dclL, va_Nw (.declares y) U) ∧ (∀ q ∈ nstL, va_Nw (.methodLinkNest "RouteFrame" q.1 q.2 "RouteFrame") U) ∧
  (∀ X ∈ excL, ∀ Y ∈ excL, X ≠ Y → va_Nc X Y U) ∧ va_AO "RouteFrame$Section" U ∧ va_AO "RouteFrame$Route" U
theorem Kx.to {E : wE} {s U : State} {H H1 : Heap} (h : Kx E s H) (hW : s.WarmedH U.vm) (hq : ∀ a : Nat, a < H.size → ¬ wA E a → H1[a]? = H[a]?) : Kx E U H1 := by
  obtain ⟨h1, h2, h3, h4, h5, h6, h7, h8, h9, h10⟩ := h
  refine ⟨va_K.moved hW.alike h1, vx_Zq.moved hW.alike (h2.kept hq), vx_Zq.moved hW.alike (h3.kept hq), fun q hq2 => ?_, fun X hX => va_Nw.warmC hW (h5 X hX), fun y hy => va_Nw.warmD hW (h6 y hy), fun q hq2 => va_Nw.warmM hW (h7 q hq2), fun X hX Y hY hne => va_Nc.moved hW.alike (h8 X hX Y hY hne), ?_, ?_⟩
  · obtain ⟨sa, h⟩ := h4 q hq2
    exact ⟨sa, vk_R.warm hW h⟩
  · exact va_AO.moved hW.alike h9
  · exact va_AO.moved hW.alike h10
theorem ws_good {w : Cond} (h : w ∈ WS) : goodWord w = true := (List.mem_filter.mp h).2
-- the judgement: J gives the method, the room, what is to be reached, what else is known of the start
abbrev jI : Type := mI × Room × (Array Value → List Frame → State → State → Prop) × (Array Value → State → Prop)
def Cx (E : wE) (J : jI) (p : Program) (s : State) (m : MethodId) (args : Array Value) (meth : Method) (c : Code) : Prop :=
  p.tables.exec = Jvm.exec ∧ c.code = mb J.1 ∧ c.maxLocals = mn J.1 ∧ s.vm.findClass (mo J.1) = some m.cls ∧ (∀ w ∈ WS, w.before args s = true) ∧ meth.sig.returnType = mr J.1 ∧ meth.locks = false ∧ c.exceptionTable.toList = tableOf (mh J.1) ∧
  Kx E s s.heap ∧ wB E ≤ s.heap.size ∧ meth.name = (my J.1).name ∧ J.2.2.2 args s
def Ev (E : wE) (J : jI) (cells slots pc : Nat) (lv : List (Nat × Value)) (st : List Value) (f : wF) (g : wG) (w : Int64) (n : Nat) : Prop :=
  ∀ (p : Program) (e : Env) (s : State) (m : MethodId) (args : Array Value) (below : List Frame) (meth : Method) (c : Code) (H : Heap) (locs : List Loc) (ls : Array Slot),
    Cx E J p s m args meth c → Sm E f g w n H → va_S (wA E) s.heap H locs → lv_has ls (mn J.1) lv →
    W p (wl E) e J.2.1 s m args below meth c H locs cells slots (J.2.2.1 args below s) (F0 m pc ls st)
/-- the same with an object of the kind X thrown at pc -/
def Ex (E : wE) (J : jI) (cells slots pc : Nat) (lv : List (Nat × Value)) (st : List Value) (X : String) (f : wF) (g : wG) (w : Int64) (n : Nat) : Prop :=
  ∀ (p : Program) (e : Env) (s : State) (m : MethodId) (args : Array Value) (below : List Frame) (meth : Method) (c : Code) (H : Heap) (locs : List Loc) (ls : Array Slot) (q : Addr) (ce : Cell),
    Cx E J p s m args meth c → Sm E f g w n H → va_S (wA E) s.heap H locs → lv_has ls (mn J.1) lv → H[q]? = some ce → ce.vm = .none → s.vm.findClass X = some ce.cls →
    vx_W p (wl E) e J.2.1 s m args below meth c H locs cells slots (J.2.2.1 args below s) (F0 m pc ls st) q
-- contracts
def rmD (d mc ms : Nat) : Room := { frames := d, cells := mc, slots := ms, locals := 30 * d }
def Pw (E : wE) (As : List Value) (f : wF) (g : wG) (w : Int64) (n : Nat) : Array Value → State → Prop := fun a U => a = As.toArray ∧ Sm E f g w n U.heap ∧ Kx E U U.heap ∧ wB E ≤ U.heap.size ∧ (n < 57 → U.heap.size = wB E + n)
def Qw (E : wE) (post : Option Value → wS → Prop) : Array Value → State → Outcome → State → Prop := fun _ st o t => ∃ (v : Option Value) (u : wS), o = .returned v ∧ post v u ∧ Sm E u.1 u.2.1 u.2.2.1 u.2.2.2 t.heap ∧ va_F (wA E) st t
def Xw (E : wE) (px : String → wS → Prop) : String → State → State → Prop := fun X st t => ∃ u : wS, px X u ∧ Sm E u.1 u.2.1 u.2.2.1 u.2.2.2 t.heap ∧ va_F (wA E) st t
def cdW (I : mI) : Cond := Cond.code (my I) (mb I) (mn I) (mr I)
def cdH (I : mI) : Cond := Cond.codeWith (my I) (mb I) (mn I) (mr I) (mh I)
def Ct (E : wE) (I : mI) (d mc ms : Nat) (As : List Value) (f : wF) (g : wG) (w : Int64) (n : Nat) (post : Option Value → wS → Prop) (px : String → wS → Prop) : Prop :=
  vx_Met (wl E) (my I) (cdW I :: WS) (rmD d mc ms) (Pw E As f g w n) (Qw E post) (Xw E px) mc ms (wA E)
def CtH (E : wE) (I : mI) (d mc ms : Nat) (As : List Value) (f : wF) (g : wG) (w : Int64) (n : Nat) (post : Option Value → wS → Prop) (px : String → wS → Prop) : Prop :=
  vx_Met (wl E) (my I) (cdH I :: WS) (rmD d mc ms) (Pw E As f g w n) (Qw E post) (Xw E px) mc ms (wA E)
/-- the judgement's data in the body of a method with that contract; n0 cells were made when it began -/
def jm (E : wE) (I : mI) (d mc ms n0 : Nat) (post : Option Value → wS → Prop) (px : String → wS → Prop) : jI :=
  (I, rmD d mc ms, fun args below s => vx_MQ below (Qw E post) (Xw E px) args s mc ms (wA E), fun _ s => n0 < 57 → s.heap.size = wB E + n0)
theorem ct_of {E : wE} {I : mI} {d mc ms : Nat} {As : List Value} {f : wF} {g : wG} {w : Int64} {n : Nat} {post : Option Value → wS → Prop} {px : String → wS → Prop} (hy : plainName (my I).cls = true) (ho : mo I = (my I).cls) (hh : mh I = []) (hlen : (lg_sl As).length ≤ mn I)
    (hb : Ev E (jm E I d mc ms n post px) 0 0 0 (lv_args 0 As) [] f g w n) : Ct E I d mc ms As f g w n post px := by
  refine vx_ofW (cc := mb I) (maxL := mn I) (ret := mr I) hy rfl ?_
  intro p e s m args below meth c s₁ B hml hno hP
  obtain ⟨rfl, hS, hK, hBs, hz⟩ := hP
  have C : Cx E (jm E I d mc ms n post px) p s m As.toArray meth c := by
    refine ⟨B.exec, B.bytes, hml, ?_, fun w hw => atoms_spec (ws := cdW I :: WS) B.pre w (List.mem_cons_of_mem _ hw), B.returns, B.notSynchronized, ?_, hK, hBs, (name_of_methodNamed B.named B.method).1, hz⟩
    · show s.vm.findClass (mo I) = some m.cls
      rw [ho]
      exact findClass_of_methodNamed B.named
    · show c.exceptionTable.toList = tableOf (mh I)
      rw [hh]
      exact List.eq_nil_iff_forall_not_mem.mpr (fun x hx => hno x hx)
  have hl := lv_entry As (n := mn I) hlen
  rw [lg_entry_eq]
  exact hb p e s m _ below meth c s.heap [] _ C hS va_S.rf hl
