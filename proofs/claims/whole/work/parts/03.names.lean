/-! names, fields, words and code of the claim: printed by wip/whole/gen.py -/
def WS : List Cond := lw_tbl.filter goodWord
theorem ws_mem {w : Cond} (h : w ∈ lw_tbl) (g : goodWord w = true) : w ∈ WS := List.mem_filter.mpr ⟨h, g⟩
theorem ws_at {w : Cond} (i : Nat) (h : tables_1[i]? = some w) (g : goodWord w = true) : w ∈ WS := ws_mem (List.mem_append_right _ (List.mem_of_getElem? h)) g
theorem ws_pv {y : MethodName} {n : Nat} (i : Nat) (h : lw_privs[i]? = some (y, n)) (g : goodWord (Cond.selects y.cls y y) = true) : Cond.selects y.cls y y ∈ WS := ws_mem (List.mem_append_left _ (List.mem_map.mpr ⟨(y, n), List.mem_of_getElem? h, rfl⟩)) g
def TF : u_T := fun k => match k with
  | 0 => ("RouteFrame", "sections", "[LRouteFrame$Section;", true)
  | 1 => ("RouteFrame", "routes", "[LRouteFrame$Route;", true)
  | 2 => ("RouteFrame", "sectionCount", "I", false)
  | _ => ("RouteFrame", "routeCount", "I", false)
def tyF : Nat → FieldType := fun k => match k with
  | 0 => .array (.object "RouteFrame$Section")
  | 1 => .array (.object "RouteFrame$Route")
  | 2 => .int
  | _ => .int
theorem nmF : ∀ a, a < 4 → ∀ b, b < 4 → a ≠ b → (TF a).2.1 ≠ (TF b).2.1 := by decide +kernel
theorem tyF_ok : ∀ k, k < 4 → parseFieldDescriptor (TF k).2.2.1 = some (tyF k) := by decide +kernel
theorem uwF : ∀ w ∈ u_ws "RouteFrame" TF 4, w ∈ WS := by
  intro w hw
  have h := List.all_eq_true.mp (show (u_ws "RouteFrame" TF 4).all (fun w => decide (w ∈ tables_1) && goodWord w) = true by decide +kernel) w hw
  simp only [Bool.and_eq_true, decide_eq_true_eq] at h
  exact ws_mem (List.mem_append_right _ h.1) h.2
def TS : u_T := fun k => match k with
  | 0 => ("RouteFrame$Section", "hasPoints", "Z", false)
  | 1 => ("RouteFrame$Section", "occupied", "Z", false)
  | 2 => ("RouteFrame$Section", "broken", "Z", false)
  | 3 => ("RouteFrame$Section", "lie", "I", false)
  | 4 => ("RouteFrame$Section", "wanted", "I", false)
  | _ => ("RouteFrame$Section", "ticksToGo", "I", false)
def tyS : Nat → FieldType := fun k => match k with
  | 0 => .boolean
  | 1 => .boolean
  | 2 => .boolean
  | 3 => .int
  | 4 => .int
  | _ => .int
theorem nmS : ∀ a, a < 6 → ∀ b, b < 6 → a ≠ b → (TS a).2.1 ≠ (TS b).2.1 := by decide +kernel
theorem tyS_ok : ∀ k, k < 6 → parseFieldDescriptor (TS k).2.2.1 = some (tyS k) := by decide +kernel
theorem uwS : ∀ w ∈ u_ws "RouteFrame$Section" TS 6, w ∈ WS := by
  intro w hw
  have h := List.all_eq_true.mp (show (u_ws "RouteFrame$Section" TS 6).all (fun w => decide (w ∈ tables_1) && goodWord w) = true by decide +kernel) w hw
  simp only [Bool.and_eq_true, decide_eq_true_eq] at h
  exact ws_mem (List.mem_append_right _ h.1) h.2
def TR : u_T := fun k => match k with
  | 0 => ("RouteFrame$Route", "useSection", "[I", true)
  | 1 => ("RouteFrame$Route", "useHow", "[I", true)
  | 2 => ("RouteFrame$Route", "useCount", "I", false)
  | 3 => ("RouteFrame$Route", "signal", "I", false)
  | 4 => ("RouteFrame$Route", "approach", "I", false)
  | 5 => ("RouteFrame$Route", "delay", "I", false)
  | 6 => ("RouteFrame$Route", "state", "I", false)
  | 7 => ("RouteFrame$Route", "timer", "I", false)
  | 8 => ("RouteFrame$Route", "approached", "Z", false)
  | 9 => ("RouteFrame$Route", "held", "I", false)
  | _ => ("RouteFrame$Route", "runOver", "I", false)
def tyR : Nat → FieldType := fun k => match k with
  | 0 => .array .int
  | 1 => .array .int
  | 2 => .int
  | 3 => .int
  | 4 => .int
  | 5 => .int
  | 6 => .int
  | 7 => .int
  | 8 => .boolean
  | 9 => .int
  | _ => .int
theorem nmR : ∀ a, a < 11 → ∀ b, b < 11 → a ≠ b → (TR a).2.1 ≠ (TR b).2.1 := by decide +kernel
theorem tyR_ok : ∀ k, k < 11 → parseFieldDescriptor (TR k).2.2.1 = some (tyR k) := by decide +kernel
theorem uwR : ∀ w ∈ u_ws "RouteFrame$Route" TR 11, w ∈ WS := by
  intro w hw
  have h := List.all_eq_true.mp (show (u_ws "RouteFrame$Route" TR 11).all (fun w => decide (w ∈ tables_1) && goodWord w) = true by decide +kernel) w hw
  simp only [Bool.and_eq_true, decide_eq_true_eq] at h
  exact ws_mem (List.mem_append_right _ h.1) h.2
def TM : u_T := fun k => match k with
  | 0 => ("RouteFrameModel", "code", "I", false)
  | 1 => ("RouteFrameModel", "sections", "I", false)
  | 2 => ("RouteFrameModel", "points", "[Z", true)
  | 3 => ("RouteFrameModel", "occupied", "[Z", true)
  | 4 => ("RouteFrameModel", "wanted", "[I", true)
  | 5 => ("RouteFrameModel", "ticks", "[I", true)
  | 6 => ("RouteFrameModel", "broken", "[Z", true)
  | 7 => ("RouteFrameModel", "routes", "I", false)
  | 8 => ("RouteFrameModel", "signals", "[I", true)
  | 9 => ("RouteFrameModel", "approaches", "[I", true)
  | 10 => ("RouteFrameModel", "delays", "[I", true)
  | 11 => ("RouteFrameModel", "states", "[I", true)
  | 12 => ("RouteFrameModel", "timers", "[I", true)
  | 13 => ("RouteFrameModel", "near", "[Z", true)
  | 14 => ("RouteFrameModel", "many", "[I", true)
  | 15 => ("RouteFrameModel", "where", "[I", true)
  | 16 => ("RouteFrameModel", "how", "[I", true)
  | 17 => ("RouteFrameModel", "held", "[Z", true)
  | _ => ("RouteFrameModel", "over", "[Z", true)
def tyM : Nat → FieldType := fun k => match k with
  | 0 => .int
  | 1 => .int
  | 2 => .array .boolean
  | 3 => .array .boolean
  | 4 => .array .int
  | 5 => .array .int
  | 6 => .array .boolean
  | 7 => .int
  | 8 => .array .int
  | 9 => .array .int
  | 10 => .array .int
  | 11 => .array .int
  | 12 => .array .int
  | 13 => .array .boolean
  | 14 => .array .int
  | 15 => .array .int
  | 16 => .array .int
  | 17 => .array .boolean
  | _ => .array .boolean
theorem nmM : ∀ a, a < 19 → ∀ b, b < 19 → a ≠ b → (TM a).2.1 ≠ (TM b).2.1 := by decide +kernel
theorem tyM_ok : ∀ k, k < 19 → parseFieldDescriptor (TM k).2.2.1 = some (tyM k) := by decide +kernel
theorem uwM : ∀ w ∈ u_ws "RouteFrameModel" TM 19, w ∈ WS := by
  intro w hw
  have h := List.all_eq_true.mp (show (u_ws "RouteFrameModel" TM 19).all (fun w => decide (w ∈ tables_1) && goodWord w) = true by decide +kernel) w hw
  simp only [Bool.and_eq_true, decide_eq_true_eq] at h
  exact ws_mem (List.mem_append_right _ h.1) h.2
