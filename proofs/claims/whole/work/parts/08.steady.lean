-- the steady state: all references stand, 57 cells
def mfc (j : Nat) : Nat := if j < 7 then 38 + j else 37 + j
def g0 : wG := fun k j => if k = 0 then some (if j = 0 then 1 else 14) else if k = 1 then some (2 + j) else if k = 14 then some (15 + 3 * j) else if k = 39 then some (mfc j) else some (k + 1 + j)
theorem g0_1 (i : Nat) : g0 1 i = some (2 + i) := rfl
theorem g0_14 (i : Nat) : g0 14 i = some (15 + 3 * i) := rfl
theorem g0_U {r : Nat} (hr : r < 8) : g0 (15 + 3 * r) 0 = some (16 + 3 * r) := by
  unfold g0
  rw [if_neg (by omega), if_neg (by omega), if_neg (by omega), if_neg (by omega)]
  congr 1
  omega
theorem g0_V {r : Nat} (hr : r < 8) : g0 (15 + 3 * r) 1 = some (17 + 3 * r) := by
  unfold g0
  rw [if_neg (by omega), if_neg (by omega), if_neg (by omega), if_neg (by omega)]
  congr 1
  omega
section Steady9
variable {E : wE} {J : jI} {cells slots pc : Nat} {lv : List (Nat × Value)} {st : List Value} {f : wF} {w : Int64}
theorem s_gF {idx : Nat} {v : Int32} (hd : decode (mb J.1) pc = .ok (.getfield idx, 3)) (j : Nat) (hlk : Cond.fieldLink (mo J.1) idx "RouteFrame" (TF j).2.1 (TF j).2.2.1 ∈ WS) (hj : j < 4) (ho : (TF j).1 = "RouteFrame") (hr : rfld 0 j = false) (hv : f 0 j = v) (kk : Ev E J cells slots (pc + 3) lv (.int v :: st) f g0 w 57) : Ev E J cells slots pc lv (.ref (wB E + 0) :: st) f g0 w 57 := by
  subst hv
  exact e_gF hd j hlk hj ho hr rfl (by decide) kk
theorem s_gS {idx i : Nat} {v : Int32} (hd : decode (mb J.1) pc = .ok (.getfield idx, 3)) (j : Nat) (hlk : Cond.fieldLink (mo J.1) idx "RouteFrame$Section" (TS j).2.1 (TS j).2.2.1 ∈ WS) (hj : j < 6) (ho : (TS j).1 = "RouteFrame$Section") (hr : rfld 1 j = false) (hi : i < 12) (hv : f (2 + i) j = v) (kk : Ev E J cells slots (pc + 3) lv (.int v :: st) f g0 w 57) : Ev E J cells slots pc lv (.ref (wB E + (2 + i)) :: st) f g0 w 57 := by
  subst hv
  exact e_gS hd j hlk hj ho hr (kd_S i hi) (by omega) kk
theorem s_gR {idx r : Nat} {v : Int32} (hd : decode (mb J.1) pc = .ok (.getfield idx, 3)) (j : Nat) (hlk : Cond.fieldLink (mo J.1) idx "RouteFrame$Route" (TR j).2.1 (TR j).2.2.1 ∈ WS) (hj : j < 11) (ho : (TR j).1 = "RouteFrame$Route") (hr : rfld 2 j = false) (hi : r < 8) (hv : f (15 + 3 * r) j = v) (kk : Ev E J cells slots (pc + 3) lv (.int v :: st) f g0 w 57) : Ev E J cells slots pc lv (.ref (wB E + (15 + 3 * r)) :: st) f g0 w 57 := by
  subst hv
  exact e_gR hd j hlk hj ho hr (kd_R r hi) (by omega) kk
theorem s_gM {idx : Nat} {v : Int32} (hd : decode (mb J.1) pc = .ok (.getfield idx, 3)) (j : Nat) (hlk : Cond.fieldLink (mo J.1) idx "RouteFrameModel" (TM j).2.1 (TM j).2.2.1 ∈ WS) (hj : j < 19) (ho : (TM j).1 = "RouteFrameModel") (hr : rfld 3 j = false) (hv : f 39 j = v) (kk : Ev E J cells slots (pc + 3) lv (.int v :: st) f g0 w 57) : Ev E J cells slots pc lv (.ref (wB E + 39) :: st) f g0 w 57 := by
  subst hv
  exact e_gM hd j hlk hj ho hr rfl (by decide) kk
-- references
theorem s_qF {idx t : Nat} (hd : decode (mb J.1) pc = .ok (.getfield idx, 3)) (j : Nat) (hlk : Cond.fieldLink (mo J.1) idx "RouteFrame" (TF j).2.1 (TF j).2.2.1 ∈ WS) (hj : j < 4) (ho : (TF j).1 = "RouteFrame") (hr : rfld 0 j = true) (hg : g0 0 j = some t) (kk : Ev E J cells slots (pc + 3) lv (.ref (wB E + t) :: st) f g0 w 57) : Ev E J cells slots pc lv (.ref (wB E + 0) :: st) f g0 w 57 := e_qF hd j hlk hj ho hr rfl (by decide) hg kk
theorem s_qM {idx t : Nat} (hd : decode (mb J.1) pc = .ok (.getfield idx, 3)) (j : Nat) (hlk : Cond.fieldLink (mo J.1) idx "RouteFrameModel" (TM j).2.1 (TM j).2.2.1 ∈ WS) (hj : j < 19) (ho : (TM j).1 = "RouteFrameModel") (hr : rfld 3 j = true) (hg : g0 39 j = some t) (kk : Ev E J cells slots (pc + 3) lv (.ref (wB E + t) :: st) f g0 w 57) : Ev E J cells slots pc lv (.ref (wB E + 39) :: st) f g0 w 57 := e_qM hd j hlk hj ho hr rfl (by decide) hg kk
theorem s_qU {idx r : Nat} (hd : decode (mb J.1) pc = .ok (.getfield idx, 3)) (hlk : Cond.fieldLink (mo J.1) idx "RouteFrame$Route" (TR 0).2.1 (TR 0).2.2.1 ∈ WS) (hi : r < 8) (kk : Ev E J cells slots (pc + 3) lv (.ref (wB E + (16 + 3 * r)) :: st) f g0 w 57) : Ev E J cells slots pc lv (.ref (wB E + (15 + 3 * r)) :: st) f g0 w 57 := e_qR hd 0 hlk (by decide) rfl rfl (kd_R r hi) (by omega) (g0_U hi) kk
theorem s_qV {idx r : Nat} (hd : decode (mb J.1) pc = .ok (.getfield idx, 3)) (hlk : Cond.fieldLink (mo J.1) idx "RouteFrame$Route" (TR 1).2.1 (TR 1).2.2.1 ∈ WS) (hi : r < 8) (kk : Ev E J cells slots (pc + 3) lv (.ref (wB E + (17 + 3 * r)) :: st) f g0 w 57) : Ev E J cells slots pc lv (.ref (wB E + (15 + 3 * r)) :: st) f g0 w 57 := e_qR hd 1 hlk (by decide) rfl rfl (kd_R r hi) (by omega) (g0_V hi) kk
theorem s_aS {i : Nat} {x : Int32} (hd : decode (mb J.1) pc = .ok (.aaload, 1)) (hx : x = nI i) (hi : i < 12) (kk : Ev E J cells slots (pc + 1) lv (.ref (wB E + (2 + i)) :: st) f g0 w 57) : Ev E J cells slots pc lv (.int x :: .ref (wB E + 1) :: st) f g0 w 57 := e_aaldS hd (by decide) hx hi (g0_1 i) kk
theorem s_aR {r : Nat} {x : Int32} (hd : decode (mb J.1) pc = .ok (.aaload, 1)) (hx : x = nI r) (hi : r < 8) (kk : Ev E J cells slots (pc + 1) lv (.ref (wB E + (15 + 3 * r)) :: st) f g0 w 57) : Ev E J cells slots pc lv (.int x :: .ref (wB E + 14) :: st) f g0 w 57 := e_aaldR hd (by decide) hx hi (g0_14 r) kk
-- arrays of ints and booleans
theorem s_iU {r i : Nat} {x v : Int32} (hd : decode (mb J.1) pc = .ok (.iaload, 1)) (hr : r < 8) (hx : x = nI i) (hi : i < 6) (hv : f (16 + 3 * r) i = v) (kk : Ev E J cells slots (pc + 1) lv (.int v :: st) f g0 w 57) : Ev E J cells slots pc lv (.int x :: .ref (wB E + (16 + 3 * r)) :: st) f g0 w 57 := by
  subst hv
  exact e_iald hd (kd_U r hr) (by omega) hx (by rw [ln_U r hr]; exact hi) kk
theorem s_iV {r i : Nat} {x v : Int32} (hd : decode (mb J.1) pc = .ok (.iaload, 1)) (hr : r < 8) (hx : x = nI i) (hi : i < 6) (hv : f (17 + 3 * r) i = v) (kk : Ev E J cells slots (pc + 1) lv (.int v :: st) f g0 w 57) : Ev E J cells slots pc lv (.int x :: .ref (wB E + (17 + 3 * r)) :: st) f g0 w 57 := by
  subst hv
  exact e_iald hd (kd_V r hr) (by omega) hx (by rw [ln_V r hr]; exact hi) kk
theorem s_sU {r i : Nat} {x v : Int32} (hd : decode (mb J.1) pc = .ok (.iastore, 1)) (hr : r < 8) (hx : x = nI i) (hi : i < 6) (kk : Ev E J cells slots (pc + 1) lv st (up2 f (16 + 3 * r) i v) g0 w 57) : Ev E J cells slots pc lv (.int v :: .int x :: .ref (wB E + (16 + 3 * r)) :: st) f g0 w 57 := e_iast hd (kd_U r hr) (by omega) hx (by rw [ln_U r hr]; exact hi) kk
theorem s_sV {r i : Nat} {x v : Int32} (hd : decode (mb J.1) pc = .ok (.iastore, 1)) (hr : r < 8) (hx : x = nI i) (hi : i < 6) (kk : Ev E J cells slots (pc + 1) lv st (up2 f (17 + 3 * r) i v) g0 w 57) : Ev E J cells slots pc lv (.int v :: .int x :: .ref (wB E + (17 + 3 * r)) :: st) f g0 w 57 := e_iast hd (kd_V r hr) (by omega) hx (by rw [ln_V r hr]; exact hi) kk
theorem s_ild {k i N : Nat} {x v : Int32} (hd : decode (mb J.1) pc = .ok (.iaload, 1)) (hk : kd k = 5) (hn : k < 57) (hN : ln k = N) (hx : x = nI i) (hi : i < N) (hv : f k i = v) (kk : Ev E J cells slots (pc + 1) lv (.int v :: st) f g0 w 57) : Ev E J cells slots pc lv (.int x :: .ref (wB E + k) :: st) f g0 w 57 := by
  subst hv
  exact e_iald hd hk hn hx (by rw [hN]; exact hi) kk
theorem s_bld {k i N : Nat} {x v : Int32} (hd : decode (mb J.1) pc = .ok (.baload, 1)) (hk : kd k = 6) (hn : k < 57) (hN : ln k = N) (hx : x = nI i) (hi : i < N) (hv : f k i = v) (kk : Ev E J cells slots (pc + 1) lv (.int v :: st) f g0 w 57) : Ev E J cells slots pc lv (.int x :: .ref (wB E + k) :: st) f g0 w 57 := by
  subst hv
  exact e_bald hd hk hn hx (by rw [hN]; exact hi) kk
theorem s_ist {k i N : Nat} {x v : Int32} (hd : decode (mb J.1) pc = .ok (.iastore, 1)) (hk : kd k = 5) (hn : k < 57) (hN : ln k = N) (hx : x = nI i) (hi : i < N) (kk : Ev E J cells slots (pc + 1) lv st (up2 f k i v) g0 w 57) : Ev E J cells slots pc lv (.int v :: .int x :: .ref (wB E + k) :: st) f g0 w 57 := e_iast hd hk hn hx (by rw [hN]; exact hi) kk
theorem s_bst {k i N : Nat} {x v : Int32} (hd : decode (mb J.1) pc = .ok (.bastore, 1)) (hk : kd k = 6) (hn : k < 57) (hN : ln k = N) (hx : x = nI i) (hi : i < N) (hv : v = 0 ∨ v = 1) (kk : Ev E J cells slots (pc + 1) lv st (up2 f k i v) g0 w 57) : Ev E J cells slots pc lv (.int v :: .int x :: .ref (wB E + k) :: st) f g0 w 57 := e_bast hd hk hn hx (by rw [hN]; exact hi) hv kk
-- writing fields
theorem s_pF {idx : Nat} {v : Int32} (hd : decode (mb J.1) pc = .ok (.putfield idx, 3)) (j : Nat) (hlk : Cond.fieldLink (mo J.1) idx "RouteFrame" (TF j).2.1 (TF j).2.2.1 ∈ WS) (hj : j < 4) (ho : (TF j).1 = "RouteFrame") (hr : rfld 0 j = false) (hfin : (TF j).2.2.2 = false) (hty : tyF j = .int) (kk : Ev E J cells slots (pc + 3) lv st (up2 f 0 j v) g0 w 57) : Ev E J cells slots pc lv (.int v :: .ref (wB E + 0) :: st) f g0 w 57 := e_pF hd j hlk hj ho hr rfl (by decide) hfin hty kk
theorem s_pM {idx : Nat} {v : Int32} (hd : decode (mb J.1) pc = .ok (.putfield idx, 3)) (j : Nat) (hlk : Cond.fieldLink (mo J.1) idx "RouteFrameModel" (TM j).2.1 (TM j).2.2.1 ∈ WS) (hj : j < 19) (ho : (TM j).1 = "RouteFrameModel") (hr : rfld 3 j = false) (hfin : (TM j).2.2.2 = false) (hty : tyM j = .int) (kk : Ev E J cells slots (pc + 3) lv st (up2 f 39 j v) g0 w 57) : Ev E J cells slots pc lv (.int v :: .ref (wB E + 39) :: st) f g0 w 57 := e_pM hd j hlk hj ho hr rfl (by decide) hfin hty kk
theorem s_pS {idx i : Nat} {v : Int32} (hd : decode (mb J.1) pc = .ok (.putfield idx, 3)) (j : Nat) (hlk : Cond.fieldLink (mo J.1) idx "RouteFrame$Section" (TS j).2.1 (TS j).2.2.1 ∈ WS) (hj : j < 6) (ho : (TS j).1 = "RouteFrame$Section") (hr : rfld 1 j = false) (hfin : (TS j).2.2.2 = false) (hty : tyS j = .int) (hi : i < 12) (kk : Ev E J cells slots (pc + 3) lv st (up2 f (2 + i) j v) g0 w 57) : Ev E J cells slots pc lv (.int v :: .ref (wB E + (2 + i)) :: st) f g0 w 57 := e_pS hd j hlk hj ho hr (kd_S i hi) (by omega) hfin hty kk
theorem s_pSb {idx i : Nat} {v : Int32} (hd : decode (mb J.1) pc = .ok (.putfield idx, 3)) (j : Nat) (hlk : Cond.fieldLink (mo J.1) idx "RouteFrame$Section" (TS j).2.1 (TS j).2.2.1 ∈ WS) (hj : j < 6) (ho : (TS j).1 = "RouteFrame$Section") (hr : rfld 1 j = false) (hfin : (TS j).2.2.2 = false) (hty : tyS j = .boolean) (hi : i < 12) (hv : v = 0 ∨ v = 1) (kk : Ev E J cells slots (pc + 3) lv st (up2 f (2 + i) j v) g0 w 57) : Ev E J cells slots pc lv (.int v :: .ref (wB E + (2 + i)) :: st) f g0 w 57 := e_pSb hd j hlk hj ho hr (kd_S i hi) (by omega) hfin hty hv kk
theorem s_pR {idx r : Nat} {v : Int32} (hd : decode (mb J.1) pc = .ok (.putfield idx, 3)) (j : Nat) (hlk : Cond.fieldLink (mo J.1) idx "RouteFrame$Route" (TR j).2.1 (TR j).2.2.1 ∈ WS) (hj : j < 11) (ho : (TR j).1 = "RouteFrame$Route") (hr : rfld 2 j = false) (hfin : (TR j).2.2.2 = false) (hty : tyR j = .int) (hi : r < 8) (kk : Ev E J cells slots (pc + 3) lv st (up2 f (15 + 3 * r) j v) g0 w 57) : Ev E J cells slots pc lv (.int v :: .ref (wB E + (15 + 3 * r)) :: st) f g0 w 57 := e_pR hd j hlk hj ho hr (kd_R r hi) (by omega) hfin hty kk
theorem s_pRb {idx r : Nat} {v : Int32} (hd : decode (mb J.1) pc = .ok (.putfield idx, 3)) (j : Nat) (hlk : Cond.fieldLink (mo J.1) idx "RouteFrame$Route" (TR j).2.1 (TR j).2.2.1 ∈ WS) (hj : j < 11) (ho : (TR j).1 = "RouteFrame$Route") (hr : rfld 2 j = false) (hfin : (TR j).2.2.2 = false) (hty : tyR j = .boolean) (hi : r < 8) (hv : v = 0 ∨ v = 1) (kk : Ev E J cells slots (pc + 3) lv st (up2 f (15 + 3 * r) j v) g0 w 57) : Ev E J cells slots pc lv (.int v :: .ref (wB E + (15 + 3 * r)) :: st) f g0 w 57 := e_pRb hd j hlk hj ho hr (kd_R r hi) (by omega) hfin hty hv kk
-- naturals on the stack
theorem n_iconst {z : Int} (hd : decode (mb J.1) pc = .ok (.iconst z, 1)) (a : Nat) (hv : Int32.ofInt z = nI a) (kk : Ev E J cells slots (pc + 1) lv (.int (nI a) :: st) f g0 w 57) : Ev E J cells slots pc lv st f g0 w 57 := e_iconst hd hv kk
theorem n_bipush {z : Int} (hd : decode (mb J.1) pc = .ok (.bipush z, 2)) (a : Nat) (hv : (Int8.ofInt z).toInt32 = nI a) (kk : Ev E J cells slots (pc + 2) lv (.int (nI a) :: st) f g0 w 57) : Ev E J cells slots pc lv st f g0 w 57 := e_bipush hd hv kk
theorem n_iadd {a b : Nat} (hd : decode (mb J.1) pc = .ok (.iadd, 1)) (kk : Ev E J cells slots (pc + 1) lv (.int (nI (a + b)) :: st) f g0 w 57) : Ev E J cells slots pc lv (.int (nI b) :: .int (nI a) :: st) f g0 w 57 := e_iadd hd (by rw [nI_add]; exact kk)
theorem n_imul {a b : Nat} (hd : decode (mb J.1) pc = .ok (.imul, 1)) (kk : Ev E J cells slots (pc + 1) lv (.int (nI (a * b)) :: st) f g0 w 57) : Ev E J cells slots pc lv (.int (nI b) :: .int (nI a) :: st) f g0 w 57 := e_imul hd (by rw [show nI a * nI b = nI (a * b) from (Int32.ofNat_mul a b).symm]; exact kk)
theorem n_isub1 {a : Nat} (hd : decode (mb J.1) pc = .ok (.isub, 1)) (kk : Ev E J cells slots (pc + 1) lv (.int (nI a) :: st) f g0 w 57) : Ev E J cells slots pc lv (.int (nI 1) :: .int (nI (a + 1)) :: st) f g0 w 57 := e_isub hd (by rw [show nI (a + 1) - nI 1 = nI a from nI_pred a]; exact kk)
end Steady9
section Nats9
variable {E : wE} {J : jI} {cells slots pc : Nat} {lv : List (Nat × Value)} {st : List Value} {f : wF} {g : wG} {w : Int64} {n : Nat}
theorem n_icmp_eq {a b : Nat} {off : Int} {tgt : Nat} (hd : decode (mb J.1) pc = .ok (.if_icmp .eq off, 3)) (ht : (pc : Int) + off = (tgt : Int)) (ha : a < 2 ^ 31) (hb : b < 2 ^ 31) (kt : a = b → Ev E J cells slots tgt lv st f g w n) (kf : ¬ a = b → Ev E J cells slots (pc + 3) lv st f g w n) : Ev E J cells slots pc lv (.int (nI b) :: .int (nI a) :: st) f g w n :=
  e_icmp_eq hd ht (fun h => kt ((nI_eq ha hb).mp h)) (fun h => kf (fun h2 => h ((nI_eq ha hb).mpr h2)))
theorem n_icmp_ne {a b : Nat} {off : Int} {tgt : Nat} (hd : decode (mb J.1) pc = .ok (.if_icmp .ne off, 3)) (ht : (pc : Int) + off = (tgt : Int)) (ha : a < 2 ^ 31) (hb : b < 2 ^ 31) (kt : ¬ a = b → Ev E J cells slots tgt lv st f g w n) (kf : a = b → Ev E J cells slots (pc + 3) lv st f g w n) : Ev E J cells slots pc lv (.int (nI b) :: .int (nI a) :: st) f g w n :=
  e_icmp_ne hd ht (fun h => kt (fun h2 => h ((nI_eq ha hb).mpr h2))) (fun h => kf ((nI_eq ha hb).mp h))
theorem n_icmp_lt {a b : Nat} {off : Int} {tgt : Nat} (hd : decode (mb J.1) pc = .ok (.if_icmp .lt off, 3)) (ht : (pc : Int) + off = (tgt : Int)) (ha : a < 2 ^ 31) (hb : b < 2 ^ 31) (kt : a < b → Ev E J cells slots tgt lv st f g w n) (kf : b ≤ a → Ev E J cells slots (pc + 3) lv st f g w n) : Ev E J cells slots pc lv (.int (nI b) :: .int (nI a) :: st) f g w n :=
  e_icmp_lt hd ht (fun h => kt ((nI_ltI ha hb).mp h)) (fun h => kf (Nat.le_of_not_lt (fun h2 => h ((nI_ltI ha hb).mpr h2))))
theorem n_icmp_ge {a b : Nat} {off : Int} {tgt : Nat} (hd : decode (mb J.1) pc = .ok (.if_icmp .ge off, 3)) (ht : (pc : Int) + off = (tgt : Int)) (ha : a < 2 ^ 31) (hb : b < 2 ^ 31) (kt : b ≤ a → Ev E J cells slots tgt lv st f g w n) (kf : a < b → Ev E J cells slots (pc + 3) lv st f g w n) : Ev E J cells slots pc lv (.int (nI b) :: .int (nI a) :: st) f g w n :=
  e_icmp_ge hd ht (fun h => kt ((nI_leI hb ha).mp h)) (fun h => kf (Nat.lt_of_not_le (fun h2 => h ((nI_leI hb ha).mpr h2))))
theorem n_icmp_gt {a b : Nat} {off : Int} {tgt : Nat} (hd : decode (mb J.1) pc = .ok (.if_icmp .gt off, 3)) (ht : (pc : Int) + off = (tgt : Int)) (ha : a < 2 ^ 31) (hb : b < 2 ^ 31) (kt : b < a → Ev E J cells slots tgt lv st f g w n) (kf : a ≤ b → Ev E J cells slots (pc + 3) lv st f g w n) : Ev E J cells slots pc lv (.int (nI b) :: .int (nI a) :: st) f g w n :=
  e_icmp_gt hd ht (fun h => kt ((nI_ltI hb ha).mp h)) (fun h => kf (Nat.le_of_not_lt (fun h2 => h ((nI_ltI hb ha).mpr h2))))
theorem n_icmp_le {a b : Nat} {off : Int} {tgt : Nat} (hd : decode (mb J.1) pc = .ok (.if_icmp .le off, 3)) (ht : (pc : Int) + off = (tgt : Int)) (ha : a < 2 ^ 31) (hb : b < 2 ^ 31) (kt : a ≤ b → Ev E J cells slots tgt lv st f g w n) (kf : b < a → Ev E J cells slots (pc + 3) lv st f g w n) : Ev E J cells slots pc lv (.int (nI b) :: .int (nI a) :: st) f g w n :=
  e_icmp_le hd ht (fun h => kt ((nI_leI ha hb).mp h)) (fun h => kf (Nat.lt_of_not_le (fun h2 => h ((nI_leI ha hb).mpr h2))))
theorem nI_z {a : Nat} (ha : a < 2 ^ 31) (h : nI a = 0) : a = 0 := (nI_eq ha (by decide)).mp (h.trans nI_0.symm)
theorem n_if_eq {a : Nat} {off : Int} {tgt : Nat} (hd : decode (mb J.1) pc = .ok (.ifCond .eq off, 3)) (ht : (pc : Int) + off = (tgt : Int)) (ha : a < 2 ^ 31) (kt : a = 0 → Ev E J cells slots tgt lv st f g w n) (kf : ¬ a = 0 → Ev E J cells slots (pc + 3) lv st f g w n) : Ev E J cells slots pc lv (.int (nI a) :: st) f g w n :=
  e_if_eq hd ht (fun h => kt (nI_z ha h)) (fun h => kf (fun h2 => h (by rw [h2]; exact nI_0)))
theorem n_if_ne {a : Nat} {off : Int} {tgt : Nat} (hd : decode (mb J.1) pc = .ok (.ifCond .ne off, 3)) (ht : (pc : Int) + off = (tgt : Int)) (ha : a < 2 ^ 31) (kt : ¬ a = 0 → Ev E J cells slots tgt lv st f g w n) (kf : a = 0 → Ev E J cells slots (pc + 3) lv st f g w n) : Ev E J cells slots pc lv (.int (nI a) :: st) f g w n :=
  e_if_ne hd ht (fun h => kt (fun h2 => h (by rw [h2]; exact nI_0))) (fun h => kf (nI_z ha h))
theorem n_if_gt {a : Nat} {off : Int} {tgt : Nat} (hd : decode (mb J.1) pc = .ok (.ifCond .gt off, 3)) (ht : (pc : Int) + off = (tgt : Int)) (ha : a < 2 ^ 31) (kt : 0 < a → Ev E J cells slots tgt lv st f g w n) (kf : a = 0 → Ev E J cells slots (pc + 3) lv st f g w n) : Ev E J cells slots pc lv (.int (nI a) :: st) f g w n :=
  e_if_gt hd ht (fun h => kt (Nat.pos_of_ne_zero (fun h2 => by rw [h2, nI_0] at h; exact absurd h (by decide)))) (fun h => kf (Nat.eq_zero_of_not_pos (fun h2 => h (by rw [← nI_0]; exact nI_lt h2 ha))))
theorem n_if_le {a : Nat} {off : Int} {tgt : Nat} (hd : decode (mb J.1) pc = .ok (.ifCond .le off, 3)) (ht : (pc : Int) + off = (tgt : Int)) (ha : a < 2 ^ 31) (kt : a = 0 → Ev E J cells slots tgt lv st f g w n) (kf : 0 < a → Ev E J cells slots (pc + 3) lv st f g w n) : Ev E J cells slots pc lv (.int (nI a) :: st) f g w n :=
  e_if_le hd ht (fun h => kt (Nat.eq_zero_of_not_pos (fun h2 => absurd h (nI_nle h2 ha)))) (fun h => kf (Nat.pos_of_ne_zero (fun h2 => h (by rw [h2]; decide))))
theorem n_if_lt {a : Nat} {off : Int} {tgt : Nat} (hd : decode (mb J.1) pc = .ok (.ifCond .lt off, 3)) (ht : (pc : Int) + off = (tgt : Int)) (ha : a < 2 ^ 31) (kf : Ev E J cells slots (pc + 3) lv st f g w n) : Ev E J cells slots pc lv (.int (nI a) :: st) f g w n :=
  e_if_lt hd ht (fun h => absurd h (nI_pos ha)) (fun _ => kf)
theorem n_if_ge {a : Nat} {off : Int} {tgt : Nat} (hd : decode (mb J.1) pc = .ok (.ifCond .ge off, 3)) (ht : (pc : Int) + off = (tgt : Int)) (ha : a < 2 ^ 31) (kt : Ev E J cells slots tgt lv st f g w n) : Ev E J cells slots pc lv (.int (nI a) :: st) f g w n :=
  e_if_ge hd ht (fun _ => kt) (fun h => absurd (nI_pos' ha) h)
end Nats9
-- contracts in the steady state: what is answered, the new ints; the exception's name (then nothing has changed)
def Cq (E : wE) (I : mI) (d mc ms : Nat) (As : List Value) (f : wF) (w : Int64) (post : Option Value → wF → Prop) (px : String → Prop) : Prop :=
  Ct E I d mc ms As f g0 w 57 (fun v u => post v u.1 ∧ u.2 = (g0, w, 57)) (fun X u => px X ∧ u = (f, g0, w, 57))
def jq (E : wE) (I : mI) (d mc ms : Nat) (f : wF) (w : Int64) (post : Option Value → wF → Prop) (px : String → Prop) : jI :=
  jm E I d mc ms 57 (fun v u => post v u.1 ∧ u.2 = (g0, w, 57)) (fun X u => px X ∧ u = (f, g0, w, 57))
/-- one answer, one new state, no exception -/
def Cr (E : wE) (I : mI) (d : Nat) (As : List Value) (f : wF) (w : Int64) (v : Option Value) (f' : wF) : Prop := Cq E I d 0 0 As f w (fun v9 f9 => v9 = v ∧ f9 = f') (fun _ => False)
abbrev jr (E : wE) (I : mI) (d : Nat) (f : wF) (w : Int64) (v : Option Value) (f' : wF) : jI := jq E I d 0 0 f w (fun v9 f9 => v9 = v ∧ f9 = f') (fun _ => False)
theorem cq_of {E : wE} {I : mI} {d mc ms : Nat} {As : List Value} {f : wF} {w : Int64} {post : Option Value → wF → Prop} {px : String → Prop} (hy : plainName (my I).cls = true) (ho : mo I = (my I).cls) (hh : mh I = []) (hlen : (lg_sl As).length ≤ mn I)
    (hb : Ev E (jq E I d mc ms f w post px) 0 0 0 (lv_args 0 As) [] f g0 w 57) : Cq E I d mc ms As f w post px := ct_of hy ho hh hlen hb
theorem cr_of {E : wE} {I : mI} {d : Nat} {As : List Value} {f : wF} {w : Int64} {v : Option Value} {f' : wF} (hy : plainName (my I).cls = true) (ho : mo I = (my I).cls) (hh : mh I = []) (hlen : (lg_sl As).length ≤ mn I)
    (hb : Ev E (jr E I d f w v f') 0 0 0 (lv_args 0 As) [] f g0 w 57) : Cr E I d As f w v f' := ct_of hy ho hh hlen hb
section EndsQ
variable {E : wE} {I : mI} {d mc ms cells slots pc : Nat} {lv : List (Nat × Value)} {f f0 : wF} {w : Int64} {post : Option Value → wF → Prop} {px : String → Prop}
theorem q_vret (hd : decode (mb I) pc = .ok (.return_, 1)) (hr : mr I = none) (hc : cells ≤ mc) (hs : slots ≤ ms) (hp : post none f) : Ev E (jq E I d mc ms f0 w post px) cells slots pc lv [] f g0 w 57 := e_vret hd hr hc hs ⟨hp, rfl⟩
theorem q_iret {x : Int32} (hd : decode (mb I) pc = .ok (.ireturn, 1)) (hr : mr I = some .int) (hc : cells ≤ mc) (hs : slots ≤ ms) (hp : post (some (.int x)) f) : Ev E (jq E I d mc ms f0 w post px) cells slots pc lv [.int x] f g0 w 57 := e_iret hd hr hc hs ⟨hp, rfl⟩
theorem q_zret {x : Int32} (hd : decode (mb I) pc = .ok (.ireturn, 1)) (hr : mr I = some .boolean) (hx : x = 0 ∨ x = 1) (hc : cells ≤ mc) (hs : slots ≤ ms) (hp : post (some (.int x)) f) : Ev E (jq E I d mc ms f0 w post px) cells slots pc lv [.int x] f g0 w 57 := e_zret hd hr hx hc hs ⟨hp, rfl⟩
theorem q_aret {k : Nat} {C9 : String} (hd : decode (mb I) pc = .ok (.areturn, 1)) (hr : mr I = some (.object C9)) (hc : cells ≤ mc) (hs : slots ≤ ms) (hp : post (some (.ref (wB E + k))) f) : Ev E (jq E I d mc ms f0 w post px) cells slots pc lv [.ref (wB E + k)] f g0 w 57 := e_aret hd hr hc hs ⟨hp, rfl⟩
theorem q_out {st : List Value} {X : String} (hh : mh I = []) (hc : cells ≤ mc) (hs : slots ≤ ms) (hp : px X) : Ex E (jq E I d mc ms f w post px) cells slots pc lv st X f g0 w 57 := x_out hh hc hs ⟨hp, rfl⟩
theorem z01 {a : Nat} (h : a ≤ 1) : nI a = 0 ∨ nI a = 1 := by
  have h2 : a = 0 ∨ a = 1 := by omega
  rcases h2 with rfl | rfl
  · exact Or.inl rfl
  · exact Or.inr rfl
end EndsQ
-- what a call needs to know of the called method
def Cal (I : mI) (CN : String) (np : Nat) : Prop := Cond.instanceMethod (my I) ∈ WS ∧ Cond.selects CN (my I) (my I) ∈ WS ∧ Cond.initialized (my I).cls ∈ WS ∧ cdW I ∈ WS ∧ (my I).cls ≠ "java/lang/invoke/MethodHandle" ∧ (my I).cls ≠ "java/lang/invoke/VarHandle" ∧ (parseMethodDescriptor (my I).desc).map (fun d => d.parameters.length) = some np
def CalS (I : mI) (np : Nat) : Prop := Cond.static (my I) ∈ WS ∧ Cond.initialized (my I).cls ∈ WS ∧ cdW I ∈ WS ∧ (my I).cls ≠ "java/lang/invoke/MethodHandle" ∧ (my I).cls ≠ "java/lang/invoke/VarHandle" ∧ (parseMethodDescriptor (my I).desc).map (fun d => d.parameters.length) = some np
section CallsQ
variable {E : wE} {J : jI} {cells slots pc : Nat} {lv : List (Nat × Value)} {f : wF} {w : Int64}
theorem q_call {I2 : mI} {d mc ms idx k np ci : Nat} {CN : String} {As rest st0 : List Value} {post : Option Value → wF → Prop} {px : String → Prop} (hM : Cq E I2 d mc ms (.ref (wB E + k) :: As) f w post px) (hc : Cal I2 CN np)
    (hd : decode (mb J.1) pc = .ok (.invokevirtual idx, 3)) (hst : st0 = As.reverse ++ .ref (wB E + k) :: rest) (k1 : Cond.methodLink (mo J.1) idx (my I2) ∈ WS) (hnp : As.length = np) (hk : kd k = ci) (hc4 : ci < 4) (hn : k < 57) (hci : (wcl[ci]?).map (fun q => q.1) = some CN)
    (hr : (rest.map fun v => v.category).sum ≤ 8) (hR : d + 1 ≤ J.2.1.frames ∧ 8 + (mn I2 + 11) + 30 * d ≤ J.2.1.locals) (hf : cells + mc ≤ J.2.1.cells ∧ slots + ms ≤ J.2.1.slots)
    (kk : ∀ (v : Option Value) (f' : wF), post v f' → Ev E J (cells + mc) (slots + ms) (pc + 3) lv (v.toList ++ rest) f' g0 w 57)
    (kx : ∀ (X : String), px X → Ex E J (cells + mc) (slots + ms) pc lv rest X f g0 w 57) : Ev E J cells slots pc lv st0 f g0 w 57 := by
  obtain ⟨k2, k3, k4, k5, h1, h2, h3⟩ := hc
  refine e_callV hM hd hst k1 k2 k3 k4 k5 ⟨h1, h2, h3⟩ hnp hk hc4 hn hci hr hR hf (fun h => absurd h (by decide)) (fun v u hp => ?_) (fun X u hp => ?_)
  · obtain ⟨f', u2⟩ := u
    obtain ⟨hp, hu⟩ := hp
    cases hu
    exact kk v f' hp
  · obtain ⟨hp, hu⟩ := hp
    subst hu
    exact kx X hp
/-- the call of a method with one answer -/
theorem r_call {I2 : mI} {d idx k np ci : Nat} {CN : String} {As rest st0 : List Value} {v : Option Value} {f' : wF} (hM : Cr E I2 d (.ref (wB E + k) :: As) f w v f') (hc : Cal I2 CN np)
    (hd : decode (mb J.1) pc = .ok (.invokevirtual idx, 3)) (hst : st0 = As.reverse ++ .ref (wB E + k) :: rest) (k1 : Cond.methodLink (mo J.1) idx (my I2) ∈ WS) (hnp : As.length = np) (hk : kd k = ci) (hc4 : ci < 4) (hn : k < 57) (hci : (wcl[ci]?).map (fun q => q.1) = some CN)
    (hr : (rest.map fun v => v.category).sum ≤ 8) (hR : d + 1 ≤ J.2.1.frames ∧ 8 + (mn I2 + 11) + 30 * d ≤ J.2.1.locals) (hf : cells ≤ J.2.1.cells ∧ slots ≤ J.2.1.slots)
    (kk : Ev E J cells slots (pc + 3) lv (v.toList ++ rest) f' g0 w 57) : Ev E J cells slots pc lv st0 f g0 w 57 := by
  refine q_call hM hc hd hst k1 hnp hk hc4 hn hci hr hR hf (fun v9 f9 hp => ?_) (fun X hp => hp.elim)
  obtain ⟨rfl, rfl⟩ := hp
  exact kk
end CallsQ
section More9
variable {E : wE} {J : jI} {cells slots pc : Nat} {lv : List (Nat × Value)} {st : List Value} {f : wF} {g : wG} {w : Int64} {n : Nat}
theorem e_lv (ks : List Nat) {lv2 : List (Nat × Value)} (h : lv_pick lv ks = lv2) (k : Ev E J cells slots pc lv2 st f g w n) : Ev E J cells slots pc lv st f g w n :=
  fun p e s m args below meth c H locs ls C hS hV hl => k p e s m args below meth c H locs ls C hS hV (lv_sub hl ks h)
theorem e_wd {c2 s2 : Nat} (h1 : cells ≤ c2) (h2 : slots ≤ s2) (k : Ev E J c2 s2 pc lv st f g w n) : Ev E J cells slots pc lv st f g w n :=
  fun p e s m args below meth c H locs ls C hS hV hl => W.widen h1 h2 (k p e s m args below meth c H locs ls C hS hV hl)
theorem n_iinc {i q a : Nat} {lv2 : List (Nat × Value)} (hd : decode (mb J.1) pc = .ok (.iinc i 1, 3)) (hq : lv[q]? = some (i, .int (nI a))) (hn : i < mn J.1) (h2 : (i, Value.int (nI (a + 1))) :: lv.filter (fun q => !(q.1 == i) && !(q.1 + 1 == i && q.2.category == 2)) = lv2) (k : Ev E J cells slots (pc + 3) lv2 st f g w n) : Ev E J cells slots pc lv st f g w n := e_iinc hd hq (nI_1 a) hn h2 k
/-- a static call of a method without handlers -/
theorem e_callS {I2 : mI} {d mc ms idx np : Nat} {As rest st0 : List Value} {post : Option Value → wS → Prop} {px : String → wS → Prop} (hM : Ct E I2 d mc ms As f g w n post px)
    (hd : decode (mb J.1) pc = .ok (.invokestatic idx, 3)) (hst : st0 = As.reverse ++ rest) (k1 : Cond.methodLink (mo J.1) idx (my I2) ∈ WS) (k2 : Cond.static (my I2) ∈ WS) (k4 : Cond.initialized (my I2).cls ∈ WS) (k5 : cdW I2 ∈ WS)
    (hy : (my I2).cls ≠ "java/lang/invoke/MethodHandle" ∧ (my I2).cls ≠ "java/lang/invoke/VarHandle" ∧ (parseMethodDescriptor (my I2).desc).map (fun d => d.parameters.length) = some np) (hnp : As.length = np)
    (hr : (rest.map fun v => v.category).sum ≤ 8) (hR : d + 1 ≤ J.2.1.frames ∧ 8 + (mn I2 + 11) + 30 * d ≤ J.2.1.locals) (hf : cells + mc ≤ J.2.1.cells ∧ slots + ms ≤ J.2.1.slots) (hz : n < 57 → ∀ (s : State) (args : Array Value), J.2.2.2 args s → s.heap.size + cells = wB E + n)
    (kk : ∀ (v : Option Value) (u : wS), post v u → Ev E J (cells + mc) (slots + ms) (pc + 3) lv (v.toList ++ rest) u.1 u.2.1 u.2.2.1 u.2.2.2)
    (kx : ∀ (X : String) (u : wS), px X u → Ex E J (cells + mc) (slots + ms) pc lv rest X u.1 u.2.1 u.2.2.1 u.2.2.2) : Ev E J cells slots pc lv st0 f g w n := by
  intro p e s m args below meth c H locs ls C hS hV hl T hT X
  have hts := C.2.2.2.2.1
  have hB0 := C.2.2.2.2.2.2.2.2.2.1
  have hsz : n < 57 → H.size = wB E + n := fun h9 => by
    have h1 := X.heapSize
    rw [hT] at h1
    have h2 := hz h9 s args C.2.2.2.2.2.2.2.2.2.2.2
    have h3 := hS.size (Nat.le_trans hB0 hV.1)
    omega
  have hlen : ∀ sig, parseMethodDescriptor (my I2).desc = some sig → np = sig.parameters.length := fun sig h => by
    have h2 := hy.2.2
    rw [h] at h2
    exact (Option.some.inj h2).symm
  have hrun := vx_runS (p := p) (e := e) (below := below) (meth := meth) (locs := locs) (cells := cells) (slots := slots) (R := J.2.1) (n := np) (bytes := mb I2) (maxL := mn I2) (ret := mr I2) (rest := rest) (g := F0 m pc ls st0) (index := idx)
    ⟨C.1, C.2.1, C.2.2.1, C.2.2.2.1, hts⟩ hM ⟨⟨rfl, rfl, hR.1, hR.2, ws_pay hts k5, List.mem_cons_self, hts _ k5, hts _ k4, ⟨hy.1, hy.2.1⟩, hlen, hts _ k1⟩, hts _ k2⟩
    ⟨pw_blind, fun U hU hW => pw_at C hS hV hsz hU hW⟩ rfl hnp (hl.1) hst (lv_room hr) hd hf
  rcases hrun T hT X with ⟨v, st₀, t, T', L, h0, X', hL, e1, e2, ⟨v2, u, hv, hp, hS2, hF⟩, stp⟩ | ⟨q, st₀, t, T', L, X9, ce, h0, X', hL, e1, e2, ⟨u, hp, hS2, hF⟩, hce, hcv, hcl, stp⟩
  · cases hv
    obtain ⟨-, -, hV2⟩ := vx_keep h0 e1 hV (fun _ _ h => h) (fun _ h => h) hL hF
    obtain ⟨t2, a1, b1⟩ := kk v u hp p e s m args below meth c T'.heap (locs ++ L) ls C (by rw [e1]; exact hS2) hV2 hl T' rfl X'
    exact ⟨t2, stp t2 a1, b1⟩
  · obtain ⟨-, -, hV2⟩ := vx_keep h0 e1 hV (fun _ _ h => h) (fun _ h => h) hL hF
    obtain ⟨t2, a1, b1⟩ := kx X9 u hp p e s m args below meth c T'.heap (locs ++ L) ls q ce C (by rw [e1]; exact hS2) hV2 hl (by rw [e1]; exact hce) hcv hcl T' rfl X'
    exact ⟨t2, stp.trans a1, b1⟩
end More9
section CallsS
variable {E : wE} {J : jI} {cells slots pc : Nat} {lv : List (Nat × Value)} {f : wF} {w : Int64}
theorem q_callS {I2 : mI} {d mc ms idx np : Nat} {As rest st0 : List Value} {post : Option Value → wF → Prop} {px : String → Prop} (hM : Cq E I2 d mc ms As f w post px) (hc : CalS I2 np)
    (hd : decode (mb J.1) pc = .ok (.invokestatic idx, 3)) (hst : st0 = As.reverse ++ rest) (k1 : Cond.methodLink (mo J.1) idx (my I2) ∈ WS) (hnp : As.length = np)
    (hr : (rest.map fun v => v.category).sum ≤ 8) (hR : d + 1 ≤ J.2.1.frames ∧ 8 + (mn I2 + 11) + 30 * d ≤ J.2.1.locals) (hf : cells + mc ≤ J.2.1.cells ∧ slots + ms ≤ J.2.1.slots)
    (kk : ∀ (v : Option Value) (f' : wF), post v f' → Ev E J (cells + mc) (slots + ms) (pc + 3) lv (v.toList ++ rest) f' g0 w 57)
    (kx : ∀ (X : String), px X → Ex E J (cells + mc) (slots + ms) pc lv rest X f g0 w 57) : Ev E J cells slots pc lv st0 f g0 w 57 := by
  obtain ⟨k2, k4, k5, h1, h2, h3⟩ := hc
  refine e_callS hM hd hst k1 k2 k4 k5 ⟨h1, h2, h3⟩ hnp hr hR hf (fun h => absurd h (by decide)) (fun v u hp => ?_) (fun X u hp => ?_)
  · obtain ⟨f', u2⟩ := u
    obtain ⟨hp, hu⟩ := hp
    cases hu
    exact kk v f' hp
  · obtain ⟨hp, hu⟩ := hp
    subst hu
    exact kx X hp
theorem r_callS {I2 : mI} {d idx np : Nat} {As rest st0 : List Value} {v : Option Value} {f' : wF} (hM : Cr E I2 d As f w v f') (hc : CalS I2 np)
    (hd : decode (mb J.1) pc = .ok (.invokestatic idx, 3)) (hst : st0 = As.reverse ++ rest) (k1 : Cond.methodLink (mo J.1) idx (my I2) ∈ WS) (hnp : As.length = np)
    (hr : (rest.map fun v => v.category).sum ≤ 8) (hR : d + 1 ≤ J.2.1.frames ∧ 8 + (mn I2 + 11) + 30 * d ≤ J.2.1.locals) (hf : cells ≤ J.2.1.cells ∧ slots ≤ J.2.1.slots)
    (kk : Ev E J cells slots (pc + 3) lv (v.toList ++ rest) f' g0 w 57) : Ev E J cells slots pc lv st0 f g0 w 57 := by
  refine q_callS hM hc hd hst k1 hnp hr hR hf (fun v9 f9 hp => ?_) (fun X hp => hp.elim)
  obtain ⟨rfl, rfl⟩ := hp
  exact kk
end CallsS
/-! throwing -/
theorem Sm.kept {E : wE} {f : wF} {g : wG} {w : Int64} {n : Nat} {H H1 : Heap} (h : Sm E f g w n H) (hq : ∀ q : Nat, q < H.size → H1[q]? = H[q]?) : Sm E f g w n H1 := va_P.kept h (fun k q hk => hq q.1 (h k q hk).lt)
def nmX : List String := ["java/lang/RuntimeException", "java/lang/Exception"]
def thB (X : String) : List Cond := Cond.castable X X :: dclL.map Cond.declares
/-- what a throw of X out of RouteFrame needs of the words -/
def Thr (X : String) (ik ic : Nat) : Prop := X ∈ excL ∧ Cond.classLink "RouteFrame" ik X ∈ WS ∧ Cond.initialized X ∈ WS ∧ (∀ w ∈ (vx_atS "RouteFrame" ic X nmX).filter goodWord, w ∈ WS) ∧ (∀ w ∈ (vx_atS "RouteFrame" ic X nmX).filter (fun w => !goodWord w), w ∈ thB X) ∧ (∀ w ∈ Cond.classLink "RouteFrame" ik X :: Cond.initialized X :: vx_atS "RouteFrame" ic X nmX, vx_ot w = true) ∧ Bundle.fit X = true
theorem thB_ok {E : wE} {s : State} {H : Heap} {args : Array Value} {X : String} (hK : Kx E s H) (hX : X ∈ excL) : ∀ w ∈ thB X, w.before args s = true := by
  intro w hw
  rcases List.mem_cons.mp hw with rfl | h
  · exact va_Nw.use rfl (hK.2.2.2.2.1 X hX)
  · obtain ⟨y, hy, rfl⟩ := List.mem_map.mp h
    exact va_Nw.use rfl (hK.2.2.2.2.2.1 y hy)
theorem q_throw {E : wE} {I : mI} {d mc ms cells slots pc ik is ic : Nat} {lv : List (Nat × Value)} {rest : List Value} {f : wF} {w : Int64} {post : Option Value → wF → Prop} {px : String → Prop} {X text : String} (hT : Thr X ik ic) (hE : (wl E).stackTraces = false) (hstr : (is, text) ∈ strL) (hown : mo I = "RouteFrame")
    (d0 : decode (mb I) pc = .ok (.new ik, 3)) (d3 : decode (mb I) (pc + 3) = .ok (.dup, 1)) (d4 : decode (mb I) (pc + 4) = .ok (.ldc is, 2)) (d6 : decode (mb I) (pc + 6) = .ok (.invokespecial ic, 3)) (d9 : decode (mb I) (pc + 9) = .ok (.athrow, 1)) (hh : mh I = [])
    (hRf : 5 < d) (hr : (rest.map fun v => v.category).sum + 82 ≤ 30 * d) (hc : cells + 1 ≤ mc) (hs : slots + 6 ≤ ms) (hp : px X) : Ev E (jq E I d mc ms f w post px) cells slots pc lv rest f g0 w 57 := by
  intro p e s m args below meth c H locs ls C hS hV hl
  obtain ⟨hX, k1, k2, k3, k4, k5, k6⟩ := hT
  have hts := C.2.2.2.2.1
  have hK := C.2.2.2.2.2.2.2.2.1
  obtain ⟨sa, hsa⟩ := hK.2.2.2.1 _ hstr
  have ho : s.vm.findClass "RouteFrame" = some m.cls := by
    have h9 : s.vm.findClass (mo I) = some m.cls := C.2.2.2.1
    rw [hown] at h9
    exact h9
  refine vx_throwS (A := wA E) (own := "RouteFrame") (cls := X) (text := text) (names := nmX) (ik := ik) (is := is) (ic := ic) (sa := sa) C.1 C.2.1 hE ho k6 (by decide) (hts _ k1) (hts _ k2) hsa (vx_hat (fun w hw => hts _ (k3 w hw)) k4 (thB_ok hK hX)) k5 hK.2.1 hK.2.2.1 hV (hl.1.trans C.2.2.1.symm) d0 d3 d4 d6 d9 (fun x hx => ?_) hRf hr (show cells + 1 ≤ mc from hc) (show slots + 6 ≤ ms from hs) C.2.2.2.2.2.2.1 (fun t hA hz hq => ⟨(f, g0, w, 57), ⟨hp, rfl⟩, hS.kept hq, Nat.le_trans hV.1 hz, fun q h1 h2 => (hq q (Nat.lt_of_lt_of_le h1 hV.1)).trans (hV.2.1 q h1 h2)⟩) hV.2.2 hc hs
  have h9 : c.exceptionTable.toList = tableOf (mh I) := C.2.2.2.2.2.2.2.1
  rw [h9, hh] at hx
  cases hx
