/-! names, fields, words; written by wip/gen/names.py out of the claim's listing -/
def GW : List Cond := lw_tbl.filter goodWord
theorem gw_mem {w : Cond} (h : w ∈ lw_tbl) (g : goodWord w = true) : w ∈ GW := List.mem_filter.mpr ⟨h, g⟩
theorem gw_t {w : Cond} (h : w ∈ tables_1) (g : goodWord w = true) : w ∈ GW := gw_mem (List.mem_append_right _ h) g
theorem gw_s {q : MethodName × Nat} (h : q ∈ lw_privs) : Cond.selects q.1.cls q.1 q.1 ∈ GW := gw_mem (List.mem_append_left _ (List.mem_map.mpr ⟨q, h, rfl⟩)) rfl
theorem gw_sub {w : Cond} (h : w ∈ GW) : w ∈ lw_tbl := (List.mem_filter.mp h).1
theorem gw_good {w : Cond} (h : w ∈ GW) : goodWord w = true := (List.mem_filter.mp h).2
def wsM (y : MethodName) (cc : ByteArray) (n : Nat) (r : Option FieldType) : List Cond := Cond.code y cc n r :: GW
def R_LB : String := "EndingsLab"
def F_LB : u_T := fun k => match k with
  | 0 => ("EndingsLab", "machine", "LEndingsLab$Machine;", true)
  | 1 => ("EndingsLab", "checker", "LEndingsLab$Checker;", true)
  | _ => ("EndingsLab", "wrongPlace", "I", false)
def t_LB : Nat → FieldType := fun k => match k with
  | 0 => .object "EndingsLab$Machine"
  | 1 => .object "EndingsLab$Checker"
  | _ => .int
theorem n_LB : ∀ a, a < 3 → ∀ b, b < 3 → a ≠ b → (F_LB a).2.1 ≠ (F_LB b).2.1 := by decide +kernel
theorem t_LB_ok : ∀ k, k < 3 → parseFieldDescriptor (F_LB k).2.2.1 = some (t_LB k) := by decide +kernel
theorem i_LB_0 : u_lay R_LB F_LB 0 ∈ GW := gw_t (List.mem_of_getElem? (i := 190) (by decide +kernel)) rfl
theorem i_LB_1 : u_lay R_LB F_LB 1 ∈ GW := gw_t (List.mem_of_getElem? (i := 192) (by decide +kernel)) rfl
theorem i_LB_2 : u_lay R_LB F_LB 2 ∈ GW := gw_t (List.mem_of_getElem? (i := 194) (by decide +kernel)) rfl
theorem i_LB : ∀ w ∈ u_ws R_LB F_LB 3, w ∈ GW := by
  intro w h
  obtain ⟨k, hk, rfl⟩ := List.mem_map.mp h
  have hk := List.mem_range.mp hk
  match k, hk with
  | 0, _ => exact i_LB_0
  | 1, _ => exact i_LB_1
  | 2, _ => exact i_LB_2
  | k + 3, hk => exact absurd hk (by omega)
def R_MA : String := "EndingsLab$Machine"
def F_MA : u_T := fun k => match k with
  | 0 => ("EndingsLab$Machine", "texts", "[LEndingsLab$Text;", true)
  | 1 => ("EndingsLab$Machine", "frames", "[LEndingsLab$Frame;", true)
  | 2 => ("EndingsLab$Machine", "faults", "LEndingsLab$Faults;", true)
  | 3 => ("EndingsLab$Machine", "locks", "LEndingsLab$Locks;", true)
  | 4 => ("EndingsLab$Machine", "log", "LEndingsLab$EventLog;", true)
  | 5 => ("EndingsLab$Machine", "begun", "I", false)
  | 6 => ("EndingsLab$Machine", "cameTo", "I", false)
  | _ => ("EndingsLab$Machine", "endedBy", "I", false)
def t_MA : Nat → FieldType := fun k => match k with
  | 0 => .array (.object "EndingsLab$Text")
  | 1 => .array (.object "EndingsLab$Frame")
  | 2 => .object "EndingsLab$Faults"
  | 3 => .object "EndingsLab$Locks"
  | 4 => .object "EndingsLab$EventLog"
  | 5 => .int
  | 6 => .int
  | _ => .int
theorem n_MA : ∀ a, a < 8 → ∀ b, b < 8 → a ≠ b → (F_MA a).2.1 ≠ (F_MA b).2.1 := by decide +kernel
theorem t_MA_ok : ∀ k, k < 8 → parseFieldDescriptor (F_MA k).2.2.1 = some (t_MA k) := by decide +kernel
theorem i_MA_0 : u_lay R_MA F_MA 0 ∈ GW := gw_t (List.mem_of_getElem? (i := 147) (by decide +kernel)) rfl
theorem i_MA_1 : u_lay R_MA F_MA 1 ∈ GW := gw_t (List.mem_of_getElem? (i := 149) (by decide +kernel)) rfl
theorem i_MA_2 : u_lay R_MA F_MA 2 ∈ GW := gw_t (List.mem_of_getElem? (i := 151) (by decide +kernel)) rfl
theorem i_MA_3 : u_lay R_MA F_MA 3 ∈ GW := gw_t (List.mem_of_getElem? (i := 153) (by decide +kernel)) rfl
theorem i_MA_4 : u_lay R_MA F_MA 4 ∈ GW := gw_t (List.mem_of_getElem? (i := 155) (by decide +kernel)) rfl
theorem i_MA_5 : u_lay R_MA F_MA 5 ∈ GW := gw_t (List.mem_of_getElem? (i := 157) (by decide +kernel)) rfl
theorem i_MA_6 : u_lay R_MA F_MA 6 ∈ GW := gw_t (List.mem_of_getElem? (i := 159) (by decide +kernel)) rfl
theorem i_MA_7 : u_lay R_MA F_MA 7 ∈ GW := gw_t (List.mem_of_getElem? (i := 161) (by decide +kernel)) rfl
theorem i_MA : ∀ w ∈ u_ws R_MA F_MA 8, w ∈ GW := by
  intro w h
  obtain ⟨k, hk, rfl⟩ := List.mem_map.mp h
  have hk := List.mem_range.mp hk
  match k, hk with
  | 0, _ => exact i_MA_0
  | 1, _ => exact i_MA_1
  | 2, _ => exact i_MA_2
  | 3, _ => exact i_MA_3
  | 4, _ => exact i_MA_4
  | 5, _ => exact i_MA_5
  | 6, _ => exact i_MA_6
  | 7, _ => exact i_MA_7
  | k + 8, hk => exact absurd hk (by omega)
def R_FA : String := "EndingsLab$Faults"
def F_FA : u_T := fun k => match k with
  | 0 => ("EndingsLab$Faults", "kinds", "[I", true)
  | 1 => ("EndingsLab$Faults", "causes", "[I", true)
  | _ => ("EndingsLab$Faults", "made", "I", false)
def t_FA : Nat → FieldType := fun k => match k with
  | 0 => .array .int
  | 1 => .array .int
  | _ => .int
theorem n_FA : ∀ a, a < 3 → ∀ b, b < 3 → a ≠ b → (F_FA a).2.1 ≠ (F_FA b).2.1 := by decide +kernel
theorem t_FA_ok : ∀ k, k < 3 → parseFieldDescriptor (F_FA k).2.2.1 = some (t_FA k) := by decide +kernel
theorem i_FA_0 : u_lay R_FA F_FA 0 ∈ GW := gw_t (List.mem_of_getElem? (i := 40) (by decide +kernel)) rfl
theorem i_FA_1 : u_lay R_FA F_FA 1 ∈ GW := gw_t (List.mem_of_getElem? (i := 42) (by decide +kernel)) rfl
theorem i_FA_2 : u_lay R_FA F_FA 2 ∈ GW := gw_t (List.mem_of_getElem? (i := 44) (by decide +kernel)) rfl
theorem i_FA : ∀ w ∈ u_ws R_FA F_FA 3, w ∈ GW := by
  intro w h
  obtain ⟨k, hk, rfl⟩ := List.mem_map.mp h
  have hk := List.mem_range.mp hk
  match k, hk with
  | 0, _ => exact i_FA_0
  | 1, _ => exact i_FA_1
  | 2, _ => exact i_FA_2
  | k + 3, hk => exact absurd hk (by omega)
def R_LO : String := "EndingsLab$Locks"
def F_LO : u_T := fun k => match k with
  | 0 => ("EndingsLab$Locks", "held", "[I", true)
  | 1 => ("EndingsLab$Locks", "total", "I", false)
  | _ => ("EndingsLab$Locks", "greatest", "I", false)
def t_LO : Nat → FieldType := fun k => match k with
  | 0 => .array .int
  | 1 => .int
  | _ => .int
theorem n_LO : ∀ a, a < 3 → ∀ b, b < 3 → a ≠ b → (F_LO a).2.1 ≠ (F_LO b).2.1 := by decide +kernel
theorem t_LO_ok : ∀ k, k < 3 → parseFieldDescriptor (F_LO k).2.2.1 = some (t_LO k) := by decide +kernel
theorem i_LO_0 : u_lay R_LO F_LO 0 ∈ GW := gw_t (List.mem_of_getElem? (i := 58) (by decide +kernel)) rfl
theorem i_LO_1 : u_lay R_LO F_LO 1 ∈ GW := gw_t (List.mem_of_getElem? (i := 60) (by decide +kernel)) rfl
theorem i_LO_2 : u_lay R_LO F_LO 2 ∈ GW := gw_t (List.mem_of_getElem? (i := 62) (by decide +kernel)) rfl
theorem i_LO : ∀ w ∈ u_ws R_LO F_LO 3, w ∈ GW := by
  intro w h
  obtain ⟨k, hk, rfl⟩ := List.mem_map.mp h
  have hk := List.mem_range.mp hk
  match k, hk with
  | 0, _ => exact i_LO_0
  | 1, _ => exact i_LO_1
  | 2, _ => exact i_LO_2
  | k + 3, hk => exact absurd hk (by omega)
def R_EV : String := "EndingsLab$EventLog"
def F_EV : u_T := fun k => match k with
  | 0 => ("EndingsLab$EventLog", "kept", "[I", true)
  | _ => ("EndingsLab$EventLog", "noted", "I", false)
def t_EV : Nat → FieldType := fun k => match k with
  | 0 => .array .int
  | _ => .int
theorem n_EV : ∀ a, a < 2 → ∀ b, b < 2 → a ≠ b → (F_EV a).2.1 ≠ (F_EV b).2.1 := by decide +kernel
theorem t_EV_ok : ∀ k, k < 2 → parseFieldDescriptor (F_EV k).2.2.1 = some (t_EV k) := by decide +kernel
theorem i_EV_0 : u_lay R_EV F_EV 0 ∈ GW := gw_t (List.mem_of_getElem? (i := 74) (by decide +kernel)) rfl
theorem i_EV_1 : u_lay R_EV F_EV 1 ∈ GW := gw_t (List.mem_of_getElem? (i := 76) (by decide +kernel)) rfl
theorem i_EV : ∀ w ∈ u_ws R_EV F_EV 2, w ∈ GW := by
  intro w h
  obtain ⟨k, hk, rfl⟩ := List.mem_map.mp h
  have hk := List.mem_range.mp hk
  match k, hk with
  | 0, _ => exact i_EV_0
  | 1, _ => exact i_EV_1
  | k + 2, hk => exact absurd hk (by omega)
def R_TE : String := "EndingsLab$Text"
def F_TE : u_T := fun k => match k with
  | 0 => ("EndingsLab$Text", "ops", "[I", true)
  | 1 => ("EndingsLab$Text", "numbers", "[I", true)
  | 2 => ("EndingsLab$Text", "ends", "[I", true)
  | _ => ("EndingsLab$Text", "size", "I", false)
def t_TE : Nat → FieldType := fun k => match k with
  | 0 => .array .int
  | 1 => .array .int
  | 2 => .array .int
  | _ => .int
theorem n_TE : ∀ a, a < 4 → ∀ b, b < 4 → a ≠ b → (F_TE a).2.1 ≠ (F_TE b).2.1 := by decide +kernel
theorem t_TE_ok : ∀ k, k < 4 → parseFieldDescriptor (F_TE k).2.2.1 = some (t_TE k) := by decide +kernel
theorem i_TE_0 : u_lay R_TE F_TE 0 ∈ GW := gw_t (List.mem_of_getElem? (i := 97) (by decide +kernel)) rfl
theorem i_TE_1 : u_lay R_TE F_TE 1 ∈ GW := gw_t (List.mem_of_getElem? (i := 99) (by decide +kernel)) rfl
theorem i_TE_2 : u_lay R_TE F_TE 2 ∈ GW := gw_t (List.mem_of_getElem? (i := 101) (by decide +kernel)) rfl
theorem i_TE_3 : u_lay R_TE F_TE 3 ∈ GW := gw_t (List.mem_of_getElem? (i := 103) (by decide +kernel)) rfl
theorem i_TE : ∀ w ∈ u_ws R_TE F_TE 4, w ∈ GW := by
  intro w h
  obtain ⟨k, hk, rfl⟩ := List.mem_map.mp h
  have hk := List.mem_range.mp hk
  match k, hk with
  | 0, _ => exact i_TE_0
  | 1, _ => exact i_TE_1
  | 2, _ => exact i_TE_2
  | 3, _ => exact i_TE_3
  | k + 4, hk => exact absurd hk (by omega)
def R_FR : String := "EndingsLab$Frame"
def F_FR : u_T := fun k => match k with
  | 0 => ("EndingsLab$Frame", "entered", "[I", true)
  | 1 => ("EndingsLab$Frame", "procedure", "I", false)
  | 2 => ("EndingsLab$Frame", "account", "I", false)
  | 3 => ("EndingsLab$Frame", "carried", "I", false)
  | _ => ("EndingsLab$Frame", "caught", "I", false)
def t_FR : Nat → FieldType := fun k => match k with
  | 0 => .array .int
  | 1 => .int
  | 2 => .int
  | 3 => .int
  | _ => .int
theorem n_FR : ∀ a, a < 5 → ∀ b, b < 5 → a ≠ b → (F_FR a).2.1 ≠ (F_FR b).2.1 := by decide +kernel
theorem t_FR_ok : ∀ k, k < 5 → parseFieldDescriptor (F_FR k).2.2.1 = some (t_FR k) := by decide +kernel
theorem i_FR_0 : u_lay R_FR F_FR 0 ∈ GW := gw_t (List.mem_of_getElem? (i := 121) (by decide +kernel)) rfl
theorem i_FR_1 : u_lay R_FR F_FR 1 ∈ GW := gw_t (List.mem_of_getElem? (i := 123) (by decide +kernel)) rfl
theorem i_FR_2 : u_lay R_FR F_FR 2 ∈ GW := gw_t (List.mem_of_getElem? (i := 125) (by decide +kernel)) rfl
theorem i_FR_3 : u_lay R_FR F_FR 3 ∈ GW := gw_t (List.mem_of_getElem? (i := 127) (by decide +kernel)) rfl
theorem i_FR_4 : u_lay R_FR F_FR 4 ∈ GW := gw_t (List.mem_of_getElem? (i := 129) (by decide +kernel)) rfl
theorem i_FR : ∀ w ∈ u_ws R_FR F_FR 5, w ∈ GW := by
  intro w h
  obtain ⟨k, hk, rfl⟩ := List.mem_map.mp h
  have hk := List.mem_range.mp hk
  match k, hk with
  | 0, _ => exact i_FR_0
  | 1, _ => exact i_FR_1
  | 2, _ => exact i_FR_2
  | 3, _ => exact i_FR_3
  | 4, _ => exact i_FR_4
  | k + 5, hk => exact absurd hk (by omega)
def R_CH : String := "EndingsLab$Checker"
def F_CH : u_T := fun k => match k with
  | 0 => ("EndingsLab$Checker", "openers", "[I", true)
  | 1 => ("EndingsLab$Checker", "inTimes", "[Z", true)
  | 2 => ("EndingsLab$Checker", "inCatch", "[Z", true)
  | 3 => ("EndingsLab$Checker", "lacking", "[I", true)
  | _ => ("EndingsLab$Checker", "depth", "I", false)
def t_CH : Nat → FieldType := fun k => match k with
  | 0 => .array .int
  | 1 => .array .boolean
  | 2 => .array .boolean
  | 3 => .array .int
  | _ => .int
theorem n_CH : ∀ a, a < 5 → ∀ b, b < 5 → a ≠ b → (F_CH a).2.1 ≠ (F_CH b).2.1 := by decide +kernel
theorem t_CH_ok : ∀ k, k < 5 → parseFieldDescriptor (F_CH k).2.2.1 = some (t_CH k) := by decide +kernel
theorem i_CH_0 : u_lay R_CH F_CH 0 ∈ GW := gw_t (List.mem_of_getElem? (i := 175) (by decide +kernel)) rfl
theorem i_CH_1 : u_lay R_CH F_CH 1 ∈ GW := gw_t (List.mem_of_getElem? (i := 177) (by decide +kernel)) rfl
theorem i_CH_2 : u_lay R_CH F_CH 2 ∈ GW := gw_t (List.mem_of_getElem? (i := 179) (by decide +kernel)) rfl
theorem i_CH_3 : u_lay R_CH F_CH 3 ∈ GW := gw_t (List.mem_of_getElem? (i := 181) (by decide +kernel)) rfl
theorem i_CH_4 : u_lay R_CH F_CH 4 ∈ GW := gw_t (List.mem_of_getElem? (i := 183) (by decide +kernel)) rfl
theorem i_CH : ∀ w ∈ u_ws R_CH F_CH 5, w ∈ GW := by
  intro w h
  obtain ⟨k, hk, rfl⟩ := List.mem_map.mp h
  have hk := List.mem_range.mp hk
  match k, hk with
  | 0, _ => exact i_CH_0
  | 1, _ => exact i_CH_1
  | 2, _ => exact i_CH_2
  | 3, _ => exact i_CH_3
  | 4, _ => exact i_CH_4
  | k + 5, hk => exact absurd hk (by omega)
def R_MO : String := "EndingsLabModel"
def F_MO : u_T := fun k => match k with
  | 0 => ("EndingsLabModel", "op", "[I", true)
  | 1 => ("EndingsLabModel", "arg", "[I", true)
  | 2 => ("EndingsLabModel", "size", "[I", true)
  | 3 => ("EndingsLabModel", "place", "I", false)
  | 4 => ("EndingsLabModel", "kind", "[I", true)
  | 5 => ("EndingsLabModel", "at", "[I", true)
  | 6 => ("EndingsLabModel", "data", "[I", true)
  | 7 => ("EndingsLabModel", "goes", "[I", true)
  | 8 => ("EndingsLabModel", "depth", "I", false)
  | 9 => ("EndingsLabModel", "next", "I", false)
  | 10 => ("EndingsLabModel", "account", "I", false)
  | 11 => ("EndingsLabModel", "ending", "I", false)
  | 12 => ("EndingsLabModel", "ended", "I", false)
  | 13 => ("EndingsLabModel", "frame", "I", false)
  | 14 => ("EndingsLabModel", "entered", "[I", true)
  | 15 => ("EndingsLabModel", "held", "[I", true)
  | 16 => ("EndingsLabModel", "faultKind", "[I", true)
  | 17 => ("EndingsLabModel", "faultCause", "[I", true)
  | 18 => ("EndingsLabModel", "faults", "I", false)
  | 19 => ("EndingsLabModel", "steps", "I", false)
  | 20 => ("EndingsLabModel", "most", "I", false)
  | 21 => ("EndingsLabModel", "value", "I", false)
  | 22 => ("EndingsLabModel", "raised", "I", false)
  | 23 => ("EndingsLabModel", "event", "[I", true)
  | _ => ("EndingsLabModel", "events", "I", false)
def t_MO : Nat → FieldType := fun k => match k with
  | 0 => .array .int
  | 1 => .array .int
  | 2 => .array .int
  | 3 => .int
  | 4 => .array .int
  | 5 => .array .int
  | 6 => .array .int
  | 7 => .array .int
  | 8 => .int
  | 9 => .int
  | 10 => .int
  | 11 => .int
  | 12 => .int
  | 13 => .int
  | 14 => .array .int
  | 15 => .array .int
  | 16 => .array .int
  | 17 => .array .int
  | 18 => .int
  | 19 => .int
  | 20 => .int
  | 21 => .int
  | 22 => .int
  | 23 => .array .int
  | _ => .int
theorem n_MO : ∀ a, a < 25 → ∀ b, b < 25 → a ≠ b → (F_MO a).2.1 ≠ (F_MO b).2.1 := by decide +kernel
theorem t_MO_ok : ∀ k, k < 25 → parseFieldDescriptor (F_MO k).2.2.1 = some (t_MO k) := by decide +kernel
set_option maxRecDepth 20000 in
theorem i_MO_0 : u_lay R_MO F_MO 0 ∈ GW := gw_t (List.mem_of_getElem? (i := 464) (by decide +kernel)) rfl
set_option maxRecDepth 20000 in
theorem i_MO_1 : u_lay R_MO F_MO 1 ∈ GW := gw_t (List.mem_of_getElem? (i := 466) (by decide +kernel)) rfl
set_option maxRecDepth 20000 in
theorem i_MO_2 : u_lay R_MO F_MO 2 ∈ GW := gw_t (List.mem_of_getElem? (i := 468) (by decide +kernel)) rfl
set_option maxRecDepth 20000 in
theorem i_MO_3 : u_lay R_MO F_MO 3 ∈ GW := gw_t (List.mem_of_getElem? (i := 470) (by decide +kernel)) rfl
set_option maxRecDepth 20000 in
theorem i_MO_4 : u_lay R_MO F_MO 4 ∈ GW := gw_t (List.mem_of_getElem? (i := 472) (by decide +kernel)) rfl
set_option maxRecDepth 20000 in
theorem i_MO_5 : u_lay R_MO F_MO 5 ∈ GW := gw_t (List.mem_of_getElem? (i := 474) (by decide +kernel)) rfl
set_option maxRecDepth 20000 in
theorem i_MO_6 : u_lay R_MO F_MO 6 ∈ GW := gw_t (List.mem_of_getElem? (i := 476) (by decide +kernel)) rfl
set_option maxRecDepth 20000 in
theorem i_MO_7 : u_lay R_MO F_MO 7 ∈ GW := gw_t (List.mem_of_getElem? (i := 478) (by decide +kernel)) rfl
set_option maxRecDepth 20000 in
theorem i_MO_8 : u_lay R_MO F_MO 8 ∈ GW := gw_t (List.mem_of_getElem? (i := 480) (by decide +kernel)) rfl
set_option maxRecDepth 20000 in
theorem i_MO_9 : u_lay R_MO F_MO 9 ∈ GW := gw_t (List.mem_of_getElem? (i := 482) (by decide +kernel)) rfl
set_option maxRecDepth 20000 in
theorem i_MO_10 : u_lay R_MO F_MO 10 ∈ GW := gw_t (List.mem_of_getElem? (i := 484) (by decide +kernel)) rfl
set_option maxRecDepth 20000 in
theorem i_MO_11 : u_lay R_MO F_MO 11 ∈ GW := gw_t (List.mem_of_getElem? (i := 486) (by decide +kernel)) rfl
set_option maxRecDepth 20000 in
theorem i_MO_12 : u_lay R_MO F_MO 12 ∈ GW := gw_t (List.mem_of_getElem? (i := 488) (by decide +kernel)) rfl
set_option maxRecDepth 20000 in
theorem i_MO_13 : u_lay R_MO F_MO 13 ∈ GW := gw_t (List.mem_of_getElem? (i := 490) (by decide +kernel)) rfl
set_option maxRecDepth 20000 in
theorem i_MO_14 : u_lay R_MO F_MO 14 ∈ GW := gw_t (List.mem_of_getElem? (i := 492) (by decide +kernel)) rfl
set_option maxRecDepth 20000 in
theorem i_MO_15 : u_lay R_MO F_MO 15 ∈ GW := gw_t (List.mem_of_getElem? (i := 494) (by decide +kernel)) rfl
set_option maxRecDepth 20000 in
theorem i_MO_16 : u_lay R_MO F_MO 16 ∈ GW := gw_t (List.mem_of_getElem? (i := 496) (by decide +kernel)) rfl
set_option maxRecDepth 20000 in
theorem i_MO_17 : u_lay R_MO F_MO 17 ∈ GW := gw_t (List.mem_of_getElem? (i := 498) (by decide +kernel)) rfl
set_option maxRecDepth 20000 in
theorem i_MO_18 : u_lay R_MO F_MO 18 ∈ GW := gw_t (List.mem_of_getElem? (i := 500) (by decide +kernel)) rfl
set_option maxRecDepth 20000 in
theorem i_MO_19 : u_lay R_MO F_MO 19 ∈ GW := gw_t (List.mem_of_getElem? (i := 502) (by decide +kernel)) rfl
set_option maxRecDepth 20000 in
theorem i_MO_20 : u_lay R_MO F_MO 20 ∈ GW := gw_t (List.mem_of_getElem? (i := 504) (by decide +kernel)) rfl
set_option maxRecDepth 20000 in
theorem i_MO_21 : u_lay R_MO F_MO 21 ∈ GW := gw_t (List.mem_of_getElem? (i := 506) (by decide +kernel)) rfl
set_option maxRecDepth 20000 in
theorem i_MO_22 : u_lay R_MO F_MO 22 ∈ GW := gw_t (List.mem_of_getElem? (i := 508) (by decide +kernel)) rfl
set_option maxRecDepth 20000 in
theorem i_MO_23 : u_lay R_MO F_MO 23 ∈ GW := gw_t (List.mem_of_getElem? (i := 510) (by decide +kernel)) rfl
set_option maxRecDepth 20000 in
theorem i_MO_24 : u_lay R_MO F_MO 24 ∈ GW := gw_t (List.mem_of_getElem? (i := 512) (by decide +kernel)) rfl
theorem i_MO : ∀ w ∈ u_ws R_MO F_MO 25, w ∈ GW := by
  intro w h
  obtain ⟨k, hk, rfl⟩ := List.mem_map.mp h
  have hk := List.mem_range.mp hk
  match k, hk with
  | 0, _ => exact i_MO_0
  | 1, _ => exact i_MO_1
  | 2, _ => exact i_MO_2
  | 3, _ => exact i_MO_3
  | 4, _ => exact i_MO_4
  | 5, _ => exact i_MO_5
  | 6, _ => exact i_MO_6
  | 7, _ => exact i_MO_7
  | 8, _ => exact i_MO_8
  | 9, _ => exact i_MO_9
  | 10, _ => exact i_MO_10
  | 11, _ => exact i_MO_11
  | 12, _ => exact i_MO_12
  | 13, _ => exact i_MO_13
  | 14, _ => exact i_MO_14
  | 15, _ => exact i_MO_15
  | 16, _ => exact i_MO_16
  | 17, _ => exact i_MO_17
  | 18, _ => exact i_MO_18
  | 19, _ => exact i_MO_19
  | 20, _ => exact i_MO_20
  | 21, _ => exact i_MO_21
  | 22, _ => exact i_MO_22
  | 23, _ => exact i_MO_23
  | 24, _ => exact i_MO_24
  | k + 25, hk => exact absurd hk (by omega)
abbrev clsL : List vw_C := [(R_LB, F_LB, 3), (R_MA, F_MA, 8), (R_FA, F_FA, 3), (R_LO, F_LO, 3), (R_EV, F_EV, 2), (R_TE, F_TE, 4), (R_FR, F_FR, 5), (R_CH, F_CH, 5), (R_MO, F_MO, 25)]
def R_LA : String := "EndingsLabLaw"
abbrev b_LB_init : ByteArray := prog_1_method_1_code
def y_LB_init : MethodName := ⟨"EndingsLab", "<init>", "()V"⟩
theorem c_LB_init_in : Cond.code y_LB_init b_LB_init 1 none ∈ GW := gw_t (List.mem_of_getElem? (i := 17) rfl) rfl
abbrev b_MA_init : ByteArray := prog_8_method_1_code
def y_MA_init : MethodName := ⟨"EndingsLab$Machine", "<init>", "()V"⟩
theorem c_MA_init_in : Cond.code y_MA_init b_MA_init 2 none ∈ GW := gw_t (List.mem_of_getElem? (i := 25) rfl) rfl
abbrev b_FA_init : ByteArray := prog_5_method_1_code
def y_FA_init : MethodName := ⟨"EndingsLab$Faults", "<init>", "()V"⟩
theorem c_FA_init_in : Cond.code y_FA_init b_FA_init 1 none ∈ GW := gw_t (List.mem_of_getElem? (i := 35) rfl) rfl
abbrev b_LO_init : ByteArray := prog_7_method_1_code
def y_LO_init : MethodName := ⟨"EndingsLab$Locks", "<init>", "()V"⟩
theorem c_LO_init_in : Cond.code y_LO_init b_LO_init 1 none ∈ GW := gw_t (List.mem_of_getElem? (i := 52) rfl) rfl
abbrev b_EV_init : ByteArray := prog_4_method_1_code
def y_EV_init : MethodName := ⟨"EndingsLab$EventLog", "<init>", "()V"⟩
theorem c_EV_init_in : Cond.code y_EV_init b_EV_init 1 none ∈ GW := gw_t (List.mem_of_getElem? (i := 69) rfl) rfl
abbrev b_TE_init : ByteArray := prog_9_method_1_code
def y_TE_init : MethodName := ⟨"EndingsLab$Text", "<init>", "()V"⟩
theorem c_TE_init_in : Cond.code y_TE_init b_TE_init 1 none ∈ GW := gw_t (List.mem_of_getElem? (i := 82) rfl) rfl
abbrev b_FR_init : ByteArray := prog_6_method_1_code
def y_FR_init : MethodName := ⟨"EndingsLab$Frame", "<init>", "()V"⟩
theorem c_FR_init_in : Cond.code y_FR_init b_FR_init 1 none ∈ GW := gw_t (List.mem_of_getElem? (i := 109) rfl) rfl
abbrev b_CH_init : ByteArray := prog_2_method_1_code
def y_CH_init : MethodName := ⟨"EndingsLab$Checker", "<init>", "()V"⟩
theorem c_CH_init_in : Cond.code y_CH_init b_CH_init 1 none ∈ GW := gw_t (List.mem_of_getElem? (i := 168) rfl) rfl
abbrev b_LB_token : ByteArray := prog_1_method_2_code
def y_LB_token : MethodName := ⟨"EndingsLab", "token", "(III)I"⟩
theorem c_LB_token_in : Cond.code y_LB_token b_LB_token 5 (some (.int)) ∈ GW := gw_t (List.mem_of_getElem? (i := 200) rfl) rfl
abbrev b_LB_isBelow : ByteArray := prog_1_method_16_code
def y_LB_isBelow : MethodName := ⟨"EndingsLab", "isBelow", "(II)Z"⟩
theorem c_LB_isBelow_in : Cond.code y_LB_isBelow b_LB_isBelow 2 (some (.boolean)) ∈ GW := gw_t (List.mem_of_getElem? (i := 203) rfl) rfl
abbrev b_LB_isToken : ByteArray := prog_1_method_15_code
def y_LB_isToken : MethodName := ⟨"EndingsLab", "isToken", "(II)Z"⟩
theorem c_LB_isToken_in : Cond.code y_LB_isToken b_LB_isToken 2 (some (.boolean)) ∈ GW := gw_t (List.mem_of_getElem? (i := 206) rfl) rfl
abbrev b_TE_append : ByteArray := prog_9_method_2_code
def y_TE_append : MethodName := ⟨"EndingsLab$Text", "append", "(II)Z"⟩
theorem c_TE_append_in : Cond.code y_TE_append b_TE_append 3 (some (.boolean)) ∈ GW := gw_t (List.mem_of_getElem? (i := 210) rfl) rfl
abbrev b_LB_wipe : ByteArray := prog_1_method_3_code
def y_LB_wipe : MethodName := ⟨"EndingsLab", "wipe", "(I)I"⟩
theorem c_LB_wipe_in : Cond.code y_LB_wipe b_LB_wipe 2 (some (.int)) ∈ GW := gw_t (List.mem_of_getElem? (i := 214) rfl) rfl
abbrev b_TE_clear : ByteArray := prog_9_method_3_code
def y_TE_clear : MethodName := ⟨"EndingsLab$Text", "clear", "()I"⟩
theorem c_TE_clear_in : Cond.code y_TE_clear b_TE_clear 2 (some (.int)) ∈ GW := gw_t (List.mem_of_getElem? (i := 218) rfl) rfl
abbrev b_LB_check : ByteArray := prog_1_method_4_code
def y_LB_check : MethodName := ⟨"EndingsLab", "check", "(I)I"⟩
theorem c_LB_check_in : Cond.code y_LB_check b_LB_check 2 (some (.int)) ∈ GW := gw_t (List.mem_of_getElem? (i := 222) rfl) rfl
abbrev b_LB_judge : ByteArray := prog_1_method_13_code
def y_LB_judge : MethodName := ⟨"EndingsLab", "judge", "(I)I"⟩
theorem c_LB_judge_in : Cond.code y_LB_judge b_LB_judge 3 (some (.int)) ∈ GW := gw_t (List.mem_of_getElem? (i := 226) rfl) rfl
abbrev b_CH_firstWrong : ByteArray := prog_2_method_2_code
def y_CH_firstWrong : MethodName := ⟨"EndingsLab$Checker", "firstWrong", "(LEndingsLab$Text;)I"⟩
theorem c_CH_firstWrong_in : Cond.code y_CH_firstWrong b_CH_firstWrong 3 (some (.int)) ∈ GW := gw_t (List.mem_of_getElem? (i := 230) rfl) rfl
abbrev b_CH_open : ByteArray := prog_2_method_5_code
def y_CH_open : MethodName := ⟨"EndingsLab$Checker", "open", "(IZZ)V"⟩
theorem c_CH_open_in : Cond.code y_CH_open b_CH_open 4 none ∈ GW := gw_t (List.mem_of_getElem? (i := 234) rfl) rfl
abbrev b_CH_mayStand : ByteArray := prog_2_method_3_code
def y_CH_mayStand : MethodName := ⟨"EndingsLab$Checker", "mayStand", "(I)Z"⟩
theorem c_CH_mayStand_in : Cond.code y_CH_mayStand b_CH_mayStand 2 (some (.boolean)) ∈ GW := gw_t (List.mem_of_getElem? (i := 238) rfl) rfl
abbrev b_CH_take : ByteArray := prog_2_method_4_code
def y_CH_take : MethodName := ⟨"EndingsLab$Checker", "take", "(LEndingsLab$Text;I)V"⟩
theorem c_CH_take_in : Cond.code y_CH_take b_CH_take 3 none ∈ GW := gw_t (List.mem_of_getElem? (i := 242) rfl) rfl
abbrev b_CH_close : ByteArray := prog_2_method_6_code
def y_CH_close : MethodName := ⟨"EndingsLab$Checker", "close", "(LEndingsLab$Text;I)V"⟩
theorem c_CH_close_in : Cond.code y_CH_close b_CH_close 3 none ∈ GW := gw_t (List.mem_of_getElem? (i := 246) rfl) rfl
abbrev b_LB_place : ByteArray := prog_1_method_5_code
def y_LB_place : MethodName := ⟨"EndingsLab", "place", "()I"⟩
theorem c_LB_place_in : Cond.code y_LB_place b_LB_place 1 (some (.int)) ∈ GW := gw_t (List.mem_of_getElem? (i := 250) rfl) rfl
abbrev b_LB_run : ByteArray := prog_1_method_6_code
def y_LB_run : MethodName := ⟨"EndingsLab", "run", "(IIZ)I"⟩
theorem c_LB_run_in : Cond.code y_LB_run b_LB_run 4 (some (.int)) ∈ GW := gw_t (List.mem_of_getElem? (i := 254) rfl) rfl
abbrev b_LB_judgeAll : ByteArray := prog_1_method_14_code
def y_LB_judgeAll : MethodName := ⟨"EndingsLab", "judgeAll", "(I)I"⟩
theorem c_LB_judgeAll_in : Cond.code y_LB_judgeAll b_LB_judgeAll 3 (some (.int)) ∈ GW := gw_t (List.mem_of_getElem? (i := 258) rfl) rfl
abbrev b_MA_perform : ByteArray := prog_8_method_2_code
def y_MA_perform : MethodName := ⟨"EndingsLab$Machine", "perform", "(II)I"⟩
theorem c_MA_perform_in : Cond.code y_MA_perform b_MA_perform 4 (some (.int)) ∈ GW := gw_t (List.mem_of_getElem? (i := 262) rfl) rfl
abbrev b_FA_forget : ByteArray := prog_5_method_2_code
def y_FA_forget : MethodName := ⟨"EndingsLab$Faults", "forget", "()V"⟩
theorem c_FA_forget_in : Cond.code y_FA_forget b_FA_forget 1 none ∈ GW := gw_t (List.mem_of_getElem? (i := 266) rfl) rfl
abbrev b_LO_free : ByteArray := prog_7_method_2_code
def y_LO_free : MethodName := ⟨"EndingsLab$Locks", "free", "()V"⟩
theorem c_LO_free_in : Cond.code y_LO_free b_LO_free 2 none ∈ GW := gw_t (List.mem_of_getElem? (i := 270) rfl) rfl
abbrev b_FR_begin : ByteArray := prog_6_method_2_code
def y_FR_begin : MethodName := ⟨"EndingsLab$Frame", "begin", "(II)V"⟩
theorem c_FR_begin_in : Cond.code y_FR_begin b_FR_begin 4 none ∈ GW := gw_t (List.mem_of_getElem? (i := 274) rfl) rfl
abbrev b_MA_doProcedure : ByteArray := prog_8_method_3_code
def y_MA_doProcedure : MethodName := ⟨"EndingsLab$Machine", "doProcedure", "(I)LEndingsLab$Ending;"⟩
theorem c_MA_doProcedure_in : Cond.code y_MA_doProcedure b_MA_doProcedure 4 (some (.object "EndingsLab$Ending")) ∈ GW := gw_t (List.mem_of_getElem? (i := 278) rfl) rfl
abbrev b_MA_doBlock : ByteArray := prog_8_method_6_code
def y_MA_doBlock : MethodName := ⟨"EndingsLab$Machine", "doBlock", "(II)LEndingsLab$Ending;"⟩
theorem c_MA_doBlock_in : Cond.code y_MA_doBlock b_MA_doBlock 8 (some (.object "EndingsLab$Ending")) ∈ GW := gw_t (List.mem_of_getElem? (i := 282) rfl) rfl
abbrev b_MA_textOf : ByteArray := prog_8_method_5_code
def y_MA_textOf : MethodName := ⟨"EndingsLab$Machine", "textOf", "(I)LEndingsLab$Text;"⟩
theorem c_MA_textOf_in : Cond.code y_MA_textOf b_MA_textOf 2 (some (.object "EndingsLab$Text")) ∈ GW := gw_t (List.mem_of_getElem? (i := 286) rfl) rfl
abbrev b_MA_doItem : ByteArray := prog_8_method_7_code
def y_MA_doItem : MethodName := ⟨"EndingsLab$Machine", "doItem", "(II)LEndingsLab$Ending;"⟩
theorem c_MA_doItem_in : Cond.code y_MA_doItem b_MA_doItem 6 (some (.object "EndingsLab$Ending")) ∈ GW := gw_t (List.mem_of_getElem? (i := 290) rfl) rfl
abbrev b_EV_note : ByteArray := prog_4_method_2_code
def y_EV_note : MethodName := ⟨"EndingsLab$EventLog", "note", "(I)V"⟩
theorem c_EV_note_in : Cond.code y_EV_note b_EV_note 2 none ∈ GW := gw_t (List.mem_of_getElem? (i := 296) rfl) rfl
abbrev b_JM_floorMod : ByteArray := prog_13_method_50_code
def y_JM_floorMod : MethodName := ⟨"java/lang/Math", "floorMod", "(II)I"⟩
theorem c_JM_floorMod_in : Cond.code y_JM_floorMod b_JM_floorMod 3 (some (.int)) ∈ GW := gw_t (List.mem_of_getElem? (i := 299) rfl) rfl
abbrev b_MA_doDivide : ByteArray := prog_8_method_9_code
def y_MA_doDivide : MethodName := ⟨"EndingsLab$Machine", "doDivide", "(LEndingsLab$Frame;I)LEndingsLab$Ending;"⟩
set_option maxRecDepth 20000 in
theorem c_MA_doDivide_in : Cond.code y_MA_doDivide b_MA_doDivide 3 (some (.object "EndingsLab$Ending")) ∈ GW := gw_t (List.mem_of_getElem? (i := 305) rfl) rfl
abbrev b_MA_raise : ByteArray := prog_8_method_8_code
def y_MA_raise : MethodName := ⟨"EndingsLab$Machine", "raise", "(LEndingsLab$Frame;II)LEndingsLab$Ending;"⟩
set_option maxRecDepth 20000 in
theorem c_MA_raise_in : Cond.code y_MA_raise b_MA_raise 4 (some (.object "EndingsLab$Ending")) ∈ GW := gw_t (List.mem_of_getElem? (i := 309) rfl) rfl
abbrev b_FA_make : ByteArray := prog_5_method_3_code
def y_FA_make : MethodName := ⟨"EndingsLab$Faults", "make", "(II)I"⟩
set_option maxRecDepth 20000 in
theorem c_FA_make_in : Cond.code y_FA_make b_FA_make 3 (some (.int)) ∈ GW := gw_t (List.mem_of_getElem? (i := 313) rfl) rfl
abbrev b_MA_doTimes : ByteArray := prog_8_method_10_code
def y_MA_doTimes : MethodName := ⟨"EndingsLab$Machine", "doTimes", "(III)LEndingsLab$Ending;"⟩
set_option maxRecDepth 20000 in
theorem c_MA_doTimes_in : Cond.code y_MA_doTimes b_MA_doTimes 6 (some (.object "EndingsLab$Ending")) ∈ GW := gw_t (List.mem_of_getElem? (i := 319) rfl) rfl
abbrev b_MA_doTry : ByteArray := prog_8_method_11_code
def y_MA_doTry : MethodName := ⟨"EndingsLab$Machine", "doTry", "(II)LEndingsLab$Ending;"⟩
set_option maxRecDepth 20000 in
theorem c_MA_doTry_in : Cond.code y_MA_doTry b_MA_doTry 8 (some (.object "EndingsLab$Ending")) ∈ GW := gw_t (List.mem_of_getElem? (i := 329) rfl) rfl
abbrev b_TE_catchesOf : ByteArray := prog_9_method_4_code
def y_TE_catchesOf : MethodName := ⟨"EndingsLab$Text", "catchesOf", "(I)I"⟩
set_option maxRecDepth 20000 in
theorem c_TE_catchesOf_in : Cond.code y_TE_catchesOf b_TE_catchesOf 2 (some (.int)) ∈ GW := gw_t (List.mem_of_getElem? (i := 333) rfl) rfl
abbrev b_MA_catches : ByteArray := prog_8_method_12_code
def y_MA_catches : MethodName := ⟨"EndingsLab$Machine", "catches", "(II)Z"⟩
set_option maxRecDepth 20000 in
theorem c_MA_catches_in : Cond.code y_MA_catches b_MA_catches 3 (some (.boolean)) ∈ GW := gw_t (List.mem_of_getElem? (i := 337) rfl) rfl
abbrev b_FA_kindOf : ByteArray := prog_5_method_4_code
def y_FA_kindOf : MethodName := ⟨"EndingsLab$Faults", "kindOf", "(I)I"⟩
set_option maxRecDepth 20000 in
theorem c_FA_kindOf_in : Cond.code y_FA_kindOf b_FA_kindOf 2 (some (.int)) ∈ GW := gw_t (List.mem_of_getElem? (i := 341) rfl) rfl
abbrev b_LB_isOfKind : ByteArray := prog_1_method_17_code
def y_LB_isOfKind : MethodName := ⟨"EndingsLab", "isOfKind", "(II)Z"⟩
set_option maxRecDepth 20000 in
theorem c_LB_isOfKind_in : Cond.code y_LB_isOfKind b_LB_isOfKind 2 (some (.boolean)) ∈ GW := gw_t (List.mem_of_getElem? (i := 345) rfl) rfl
abbrev b_MA_doCatch : ByteArray := prog_8_method_13_code
def y_MA_doCatch : MethodName := ⟨"EndingsLab$Machine", "doCatch", "(II)LEndingsLab$Ending;"⟩
set_option maxRecDepth 20000 in
theorem c_MA_doCatch_in : Cond.code y_MA_doCatch b_MA_doCatch 6 (some (.object "EndingsLab$Ending")) ∈ GW := gw_t (List.mem_of_getElem? (i := 349) rfl) rfl
abbrev b_TE_hasLast : ByteArray := prog_9_method_5_code
def y_TE_hasLast : MethodName := ⟨"EndingsLab$Text", "hasLast", "(I)Z"⟩
set_option maxRecDepth 20000 in
theorem c_TE_hasLast_in : Cond.code y_TE_hasLast b_TE_hasLast 2 (some (.boolean)) ∈ GW := gw_t (List.mem_of_getElem? (i := 353) rfl) rfl
abbrev b_MA_doLast : ByteArray := prog_8_method_14_code
def y_MA_doLast : MethodName := ⟨"EndingsLab$Machine", "doLast", "(IILEndingsLab$Ending;)LEndingsLab$Ending;"⟩
set_option maxRecDepth 20000 in
theorem c_MA_doLast_in : Cond.code y_MA_doLast b_MA_doLast 7 (some (.object "EndingsLab$Ending")) ∈ GW := gw_t (List.mem_of_getElem? (i := 357) rfl) rfl
abbrev b_MA_doLock : ByteArray := prog_8_method_15_code
def y_MA_doLock : MethodName := ⟨"EndingsLab$Machine", "doLock", "(III)LEndingsLab$Ending;"⟩
set_option maxRecDepth 20000 in
theorem c_MA_doLock_in : Cond.code y_MA_doLock b_MA_doLock 5 (some (.object "EndingsLab$Ending")) ∈ GW := gw_t (List.mem_of_getElem? (i := 361) rfl) rfl
abbrev b_LO_hold : ByteArray := prog_7_method_3_code
def y_LO_hold : MethodName := ⟨"EndingsLab$Locks", "hold", "(I)V"⟩
set_option maxRecDepth 20000 in
theorem c_LO_hold_in : Cond.code y_LO_hold b_LO_hold 2 none ∈ GW := gw_t (List.mem_of_getElem? (i := 365) rfl) rfl
abbrev b_JM_max : ByteArray := prog_13_method_65_code
def y_JM_max : MethodName := ⟨"java/lang/Math", "max", "(II)I"⟩
set_option maxRecDepth 20000 in
theorem c_JM_max_in : Cond.code y_JM_max b_JM_max 2 (some (.int)) ∈ GW := gw_t (List.mem_of_getElem? (i := 368) rfl) rfl
abbrev b_LO_release : ByteArray := prog_7_method_4_code
def y_LO_release : MethodName := ⟨"EndingsLab$Locks", "release", "(II)V"⟩
set_option maxRecDepth 20000 in
theorem c_LO_release_in : Cond.code y_LO_release b_LO_release 3 none ∈ GW := gw_t (List.mem_of_getElem? (i := 372) rfl) rfl
abbrev b_MA_doEnter : ByteArray := prog_8_method_16_code
def y_MA_doEnter : MethodName := ⟨"EndingsLab$Machine", "doEnter", "(LEndingsLab$Frame;I)LEndingsLab$Ending;"⟩
set_option maxRecDepth 20000 in
theorem c_MA_doEnter_in : Cond.code y_MA_doEnter b_MA_doEnter 3 (some (.object "EndingsLab$Ending")) ∈ GW := gw_t (List.mem_of_getElem? (i := 376) rfl) rfl
abbrev b_MA_doLeave : ByteArray := prog_8_method_17_code
def y_MA_doLeave : MethodName := ⟨"EndingsLab$Machine", "doLeave", "(LEndingsLab$Frame;I)LEndingsLab$Ending;"⟩
set_option maxRecDepth 20000 in
theorem c_MA_doLeave_in : Cond.code y_MA_doLeave b_MA_doLeave 3 (some (.object "EndingsLab$Ending")) ∈ GW := gw_t (List.mem_of_getElem? (i := 380) rfl) rfl
abbrev b_MA_doCall : ByteArray := prog_8_method_18_code
def y_MA_doCall : MethodName := ⟨"EndingsLab$Machine", "doCall", "(II)LEndingsLab$Ending;"⟩
set_option maxRecDepth 20000 in
theorem c_MA_doCall_in : Cond.code y_MA_doCall b_MA_doCall 6 (some (.object "EndingsLab$Ending")) ∈ GW := gw_t (List.mem_of_getElem? (i := 384) rfl) rfl
abbrev b_LO_isHeld : ByteArray := prog_7_method_5_code
def y_LO_isHeld : MethodName := ⟨"EndingsLab$Locks", "isHeld", "(I)Z"⟩
set_option maxRecDepth 20000 in
theorem c_LO_isHeld_in : Cond.code y_LO_isHeld b_LO_isHeld 2 (some (.boolean)) ∈ GW := gw_t (List.mem_of_getElem? (i := 388) rfl) rfl
abbrev b_TE_behind : ByteArray := prog_9_method_6_code
def y_TE_behind : MethodName := ⟨"EndingsLab$Text", "behind", "(I)I"⟩
set_option maxRecDepth 20000 in
theorem c_TE_behind_in : Cond.code y_TE_behind b_TE_behind 5 (some (.int)) ∈ GW := gw_t (List.mem_of_getElem? (i := 392) rfl) rfl
abbrev b_MA_releaseEntered : ByteArray := prog_8_method_4_code
def y_MA_releaseEntered : MethodName := ⟨"EndingsLab$Machine", "releaseEntered", "(LEndingsLab$Frame;)Z"⟩
set_option maxRecDepth 20000 in
theorem c_MA_releaseEntered_in : Cond.code y_MA_releaseEntered b_MA_releaseEntered 4 (some (.boolean)) ∈ GW := gw_t (List.mem_of_getElem? (i := 398) rfl) rfl
abbrev b_LB_value : ByteArray := prog_1_method_7_code
def y_LB_value : MethodName := ⟨"EndingsLab", "value", "()I"⟩
set_option maxRecDepth 20000 in
theorem c_LB_value_in : Cond.code y_LB_value b_LB_value 1 (some (.int)) ∈ GW := gw_t (List.mem_of_getElem? (i := 402) rfl) rfl
abbrev b_LB_fault : ByteArray := prog_1_method_8_code
def y_LB_fault : MethodName := ⟨"EndingsLab", "fault", "(I)I"⟩
set_option maxRecDepth 20000 in
theorem c_LB_fault_in : Cond.code y_LB_fault b_LB_fault 2 (some (.int)) ∈ GW := gw_t (List.mem_of_getElem? (i := 406) rfl) rfl
abbrev b_FA_causeOf : ByteArray := prog_5_method_5_code
def y_FA_causeOf : MethodName := ⟨"EndingsLab$Faults", "causeOf", "(II)I"⟩
set_option maxRecDepth 20000 in
theorem c_FA_causeOf_in : Cond.code y_FA_causeOf b_FA_causeOf 5 (some (.int)) ∈ GW := gw_t (List.mem_of_getElem? (i := 410) rfl) rfl
abbrev b_LB_steps : ByteArray := prog_1_method_9_code
def y_LB_steps : MethodName := ⟨"EndingsLab", "steps", "()I"⟩
set_option maxRecDepth 20000 in
theorem c_LB_steps_in : Cond.code y_LB_steps b_LB_steps 1 (some (.int)) ∈ GW := gw_t (List.mem_of_getElem? (i := 415) rfl) rfl
abbrev b_LB_events : ByteArray := prog_1_method_10_code
def y_LB_events : MethodName := ⟨"EndingsLab", "events", "()I"⟩
set_option maxRecDepth 20000 in
theorem c_LB_events_in : Cond.code y_LB_events b_LB_events 1 (some (.int)) ∈ GW := gw_t (List.mem_of_getElem? (i := 419) rfl) rfl
abbrev b_LB_event : ByteArray := prog_1_method_11_code
def y_LB_event : MethodName := ⟨"EndingsLab", "event", "(I)I"⟩
set_option maxRecDepth 20000 in
theorem c_LB_event_in : Cond.code y_LB_event b_LB_event 2 (some (.int)) ∈ GW := gw_t (List.mem_of_getElem? (i := 423) rfl) rfl
abbrev b_EV_fromLast : ByteArray := prog_4_method_3_code
def y_EV_fromLast : MethodName := ⟨"EndingsLab$EventLog", "fromLast", "(I)I"⟩
set_option maxRecDepth 20000 in
theorem c_EV_fromLast_in : Cond.code y_EV_fromLast b_EV_fromLast 2 (some (.int)) ∈ GW := gw_t (List.mem_of_getElem? (i := 427) rfl) rfl
abbrev b_LB_most : ByteArray := prog_1_method_12_code
def y_LB_most : MethodName := ⟨"EndingsLab", "most", "()I"⟩
set_option maxRecDepth 20000 in
theorem c_LB_most_in : Cond.code y_LB_most b_LB_most 1 (some (.int)) ∈ GW := gw_t (List.mem_of_getElem? (i := 432) rfl) rfl
abbrev b_MO_init : ByteArray := prog_11_method_1_code
def y_MO_init : MethodName := ⟨"EndingsLabModel", "<init>", "()V"⟩
set_option maxRecDepth 20000 in
theorem c_MO_init_in : Cond.code y_MO_init b_MO_init 1 none ∈ GW := gw_t (List.mem_of_getElem? (i := 437) rfl) rfl
abbrev b_MO_token : ByteArray := prog_11_method_4_code
def y_MO_token : MethodName := ⟨"EndingsLabModel", "token", "(III)I"⟩
set_option maxRecDepth 20000 in
theorem c_MO_token_in : Cond.code y_MO_token b_MO_token 4 (some (.int)) ∈ GW := gw_t (List.mem_of_getElem? (i := 518) rfl) rfl
abbrev b_MO_in : ByteArray := prog_11_method_2_code
def y_MO_in : MethodName := ⟨"EndingsLabModel", "in", "(III)Z"⟩
set_option maxRecDepth 20000 in
theorem c_MO_in_in : Cond.code y_MO_in b_MO_in 3 (some (.boolean)) ∈ GW := gw_t (List.mem_of_getElem? (i := 521) rfl) rfl
abbrev b_MO_fits : ByteArray := prog_11_method_3_code
def y_MO_fits : MethodName := ⟨"EndingsLabModel", "fits", "(II)Z"⟩
set_option maxRecDepth 20000 in
theorem c_MO_fits_in : Cond.code y_MO_fits b_MO_fits 2 (some (.boolean)) ∈ GW := gw_t (List.mem_of_getElem? (i := 524) rfl) rfl
abbrev b_MO_wipe : ByteArray := prog_11_method_5_code
def y_MO_wipe : MethodName := ⟨"EndingsLabModel", "wipe", "(I)I"⟩
set_option maxRecDepth 20000 in
theorem c_MO_wipe_in : Cond.code y_MO_wipe b_MO_wipe 3 (some (.int)) ∈ GW := gw_t (List.mem_of_getElem? (i := 528) rfl) rfl
abbrev b_MO_check : ByteArray := prog_11_method_11_code
def y_MO_check : MethodName := ⟨"EndingsLabModel", "check", "(I)I"⟩
set_option maxRecDepth 20000 in
theorem c_MO_check_in : Cond.code y_MO_check b_MO_check 2 (some (.int)) ∈ GW := gw_t (List.mem_of_getElem? (i := 532) rfl) rfl
abbrev b_MO_good : ByteArray := prog_11_method_10_code
def y_MO_good : MethodName := ⟨"EndingsLabModel", "good", "(I)Z"⟩
set_option maxRecDepth 20000 in
theorem c_MO_good_in : Cond.code y_MO_good b_MO_good 3 (some (.boolean)) ∈ GW := gw_t (List.mem_of_getElem? (i := 536) rfl) rfl
abbrev b_MO_firstWrong : ByteArray := prog_11_method_9_code
def y_MO_firstWrong : MethodName := ⟨"EndingsLabModel", "firstWrong", "(I)I"⟩
set_option maxRecDepth 20000 in
theorem c_MO_firstWrong_in : Cond.code y_MO_firstWrong b_MO_firstWrong 8 (some (.int)) ∈ GW := gw_t (List.mem_of_getElem? (i := 540) rfl) rfl
abbrev b_MO_openBlock : ByteArray := prog_11_method_8_code
def y_MO_openBlock : MethodName := ⟨"EndingsLabModel", "openBlock", "(II)V"⟩
set_option maxRecDepth 20000 in
theorem c_MO_openBlock_in : Cond.code y_MO_openBlock b_MO_openBlock 3 none ∈ GW := gw_t (List.mem_of_getElem? (i := 544) rfl) rfl
abbrev b_MO_inside : ByteArray := prog_11_method_7_code
def y_MO_inside : MethodName := ⟨"EndingsLabModel", "inside", "(I)Z"⟩
set_option maxRecDepth 20000 in
theorem c_MO_inside_in : Cond.code y_MO_inside b_MO_inside 3 (some (.boolean)) ∈ GW := gw_t (List.mem_of_getElem? (i := 548) rfl) rfl
abbrev b_MO_opens : ByteArray := prog_11_method_6_code
def y_MO_opens : MethodName := ⟨"EndingsLabModel", "opens", "(I)Z"⟩
set_option maxRecDepth 20000 in
theorem c_MO_opens_in : Cond.code y_MO_opens b_MO_opens 1 (some (.boolean)) ∈ GW := gw_t (List.mem_of_getElem? (i := 551) rfl) rfl
abbrev b_MO_place : ByteArray := prog_11_method_12_code
def y_MO_place : MethodName := ⟨"EndingsLabModel", "place", "()I"⟩
set_option maxRecDepth 20000 in
theorem c_MO_place_in : Cond.code y_MO_place b_MO_place 1 (some (.int)) ∈ GW := gw_t (List.mem_of_getElem? (i := 555) rfl) rfl
abbrev b_MO_run : ByteArray := prog_11_method_33_code
def y_MO_run : MethodName := ⟨"EndingsLabModel", "run", "(IIZ)I"⟩
set_option maxRecDepth 20000 in
theorem c_MO_run_in : Cond.code y_MO_run b_MO_run 5 (some (.int)) ∈ GW := gw_t (List.mem_of_getElem? (i := 559) rfl) rfl
abbrev b_MO_begin : ByteArray := prog_11_method_22_code
def y_MO_begin : MethodName := ⟨"EndingsLabModel", "begin", "(II)V"⟩
set_option maxRecDepth 20000 in
theorem c_MO_begin_in : Cond.code y_MO_begin b_MO_begin 4 none ∈ GW := gw_t (List.mem_of_getElem? (i := 563) rfl) rfl
abbrev b_MO_enter : ByteArray := prog_11_method_16_code
def y_MO_enter : MethodName := ⟨"EndingsLabModel", "enter", "(III)V"⟩
set_option maxRecDepth 20000 in
theorem c_MO_enter_in : Cond.code y_MO_enter b_MO_enter 4 none ∈ GW := gw_t (List.mem_of_getElem? (i := 567) rfl) rfl
abbrev b_MO_close : ByteArray := prog_11_method_29_code
def y_MO_close : MethodName := ⟨"EndingsLabModel", "close", "()V"⟩
set_option maxRecDepth 20000 in
theorem c_MO_close_in : Cond.code y_MO_close b_MO_close 5 none ∈ GW := gw_t (List.mem_of_getElem? (i := 571) rfl) rfl
abbrev b_MO_behind : ByteArray := prog_11_method_13_code
def y_MO_behind : MethodName := ⟨"EndingsLabModel", "behind", "(I)I"⟩
set_option maxRecDepth 20000 in
theorem c_MO_behind_in : Cond.code y_MO_behind b_MO_behind 4 (some (.int)) ∈ GW := gw_t (List.mem_of_getElem? (i := 575) rfl) rfl
abbrev b_MO_catcher : ByteArray := prog_11_method_30_code
def y_MO_catcher : MethodName := ⟨"EndingsLabModel", "catcher", "(I)I"⟩
set_option maxRecDepth 20000 in
theorem c_MO_catcher_in : Cond.code y_MO_catcher b_MO_catcher 3 (some (.int)) ∈ GW := gw_t (List.mem_of_getElem? (i := 579) rfl) rfl
abbrev b_MO_part : ByteArray := prog_11_method_14_code
def y_MO_part : MethodName := ⟨"EndingsLabModel", "part", "(II)I"⟩
set_option maxRecDepth 20000 in
theorem c_MO_part_in : Cond.code y_MO_part b_MO_part 5 (some (.int)) ∈ GW := gw_t (List.mem_of_getElem? (i := 583) rfl) rfl
abbrev b_MO_is : ByteArray := prog_11_method_20_code
def y_MO_is : MethodName := ⟨"EndingsLabModel", "is", "(II)Z"⟩
set_option maxRecDepth 20000 in
theorem c_MO_is_in : Cond.code y_MO_is b_MO_is 2 (some (.boolean)) ∈ GW := gw_t (List.mem_of_getElem? (i := 586) rfl) rfl
abbrev b_MO_lastOf : ByteArray := prog_11_method_28_code
def y_MO_lastOf : MethodName := ⟨"EndingsLabModel", "lastOf", "(I)V"⟩
set_option maxRecDepth 20000 in
theorem c_MO_lastOf_in : Cond.code y_MO_lastOf b_MO_lastOf 4 none ∈ GW := gw_t (List.mem_of_getElem? (i := 590) rfl) rfl
abbrev b_MO_behindTry : ByteArray := prog_11_method_15_code
def y_MO_behindTry : MethodName := ⟨"EndingsLabModel", "behindTry", "(I)I"⟩
set_option maxRecDepth 20000 in
theorem c_MO_behindTry_in : Cond.code y_MO_behindTry b_MO_behindTry 3 (some (.int)) ∈ GW := gw_t (List.mem_of_getElem? (i := 594) rfl) rfl
abbrev b_MO_closeLast : ByteArray := prog_11_method_31_code
def y_MO_closeLast : MethodName := ⟨"EndingsLabModel", "closeLast", "(III)V"⟩
set_option maxRecDepth 20000 in
theorem c_MO_closeLast_in : Cond.code y_MO_closeLast b_MO_closeLast 4 none ∈ GW := gw_t (List.mem_of_getElem? (i := 598) rfl) rfl
abbrev b_MO_ends : ByteArray := prog_11_method_18_code
def y_MO_ends : MethodName := ⟨"EndingsLabModel", "ends", "(II)V"⟩
set_option maxRecDepth 20000 in
theorem c_MO_ends_in : Cond.code y_MO_ends b_MO_ends 3 none ∈ GW := gw_t (List.mem_of_getElem? (i := 602) rfl) rfl
abbrev b_MO_closeRun : ByteArray := prog_11_method_32_code
def y_MO_closeRun : MethodName := ⟨"EndingsLabModel", "closeRun", "(II)V"⟩
set_option maxRecDepth 20000 in
theorem c_MO_closeRun_in : Cond.code y_MO_closeRun b_MO_closeRun 6 none ∈ GW := gw_t (List.mem_of_getElem? (i := 606) rfl) rfl
abbrev b_MO_raise : ByteArray := prog_11_method_19_code
def y_MO_raise : MethodName := ⟨"EndingsLabModel", "raise", "(II)V"⟩
set_option maxRecDepth 20000 in
theorem c_MO_raise_in : Cond.code y_MO_raise b_MO_raise 3 none ∈ GW := gw_t (List.mem_of_getElem? (i := 610) rfl) rfl
abbrev b_MO_made : ByteArray := prog_11_method_17_code
def y_MO_made : MethodName := ⟨"EndingsLabModel", "made", "(II)I"⟩
set_option maxRecDepth 20000 in
theorem c_MO_made_in : Cond.code y_MO_made b_MO_made 3 (some (.int)) ∈ GW := gw_t (List.mem_of_getElem? (i := 614) rfl) rfl
abbrev b_MO_item : ByteArray := prog_11_method_24_code
def y_MO_item : MethodName := ⟨"EndingsLabModel", "item", "()V"⟩
set_option maxRecDepth 20000 in
theorem c_MO_item_in : Cond.code y_MO_item b_MO_item 3 none ∈ GW := gw_t (List.mem_of_getElem? (i := 618) rfl) rfl
abbrev b_MO_note : ByteArray := prog_11_method_27_code
def y_MO_note : MethodName := ⟨"EndingsLabModel", "note", "(I)V"⟩
set_option maxRecDepth 20000 in
theorem c_MO_note_in : Cond.code y_MO_note b_MO_note 3 none ∈ GW := gw_t (List.mem_of_getElem? (i := 622) rfl) rfl
abbrev b_MO_caught : ByteArray := prog_11_method_23_code
def y_MO_caught : MethodName := ⟨"EndingsLabModel", "caught", "()I"⟩
set_option maxRecDepth 20000 in
theorem c_MO_caught_in : Cond.code y_MO_caught b_MO_caught 2 (some (.int)) ∈ GW := gw_t (List.mem_of_getElem? (i := 626) rfl) rfl
abbrev b_MO_hold : ByteArray := prog_11_method_21_code
def y_MO_hold : MethodName := ⟨"EndingsLabModel", "hold", "(I)V"⟩
set_option maxRecDepth 20000 in
theorem c_MO_hold_in : Cond.code y_MO_hold b_MO_hold 3 none ∈ GW := gw_t (List.mem_of_getElem? (i := 630) rfl) rfl
abbrev b_MO_leave : ByteArray := prog_11_method_26_code
def y_MO_leave : MethodName := ⟨"EndingsLabModel", "leave", "(I)V"⟩
set_option maxRecDepth 20000 in
theorem c_MO_leave_in : Cond.code y_MO_leave b_MO_leave 3 none ∈ GW := gw_t (List.mem_of_getElem? (i := 634) rfl) rfl
abbrev b_MO_call : ByteArray := prog_11_method_25_code
def y_MO_call : MethodName := ⟨"EndingsLabModel", "call", "(I)V"⟩
set_option maxRecDepth 20000 in
theorem c_MO_call_in : Cond.code y_MO_call b_MO_call 3 none ∈ GW := gw_t (List.mem_of_getElem? (i := 638) rfl) rfl
abbrev b_MO_value : ByteArray := prog_11_method_34_code
def y_MO_value : MethodName := ⟨"EndingsLabModel", "value", "()I"⟩
set_option maxRecDepth 20000 in
theorem c_MO_value_in : Cond.code y_MO_value b_MO_value 1 (some (.int)) ∈ GW := gw_t (List.mem_of_getElem? (i := 642) rfl) rfl
abbrev b_MO_fault : ByteArray := prog_11_method_35_code
def y_MO_fault : MethodName := ⟨"EndingsLabModel", "fault", "(I)I"⟩
set_option maxRecDepth 20000 in
theorem c_MO_fault_in : Cond.code y_MO_fault b_MO_fault 4 (some (.int)) ∈ GW := gw_t (List.mem_of_getElem? (i := 646) rfl) rfl
abbrev b_MO_steps : ByteArray := prog_11_method_36_code
def y_MO_steps : MethodName := ⟨"EndingsLabModel", "steps", "()I"⟩
set_option maxRecDepth 20000 in
theorem c_MO_steps_in : Cond.code y_MO_steps b_MO_steps 1 (some (.int)) ∈ GW := gw_t (List.mem_of_getElem? (i := 650) rfl) rfl
abbrev b_MO_events : ByteArray := prog_11_method_37_code
def y_MO_events : MethodName := ⟨"EndingsLabModel", "events", "()I"⟩
set_option maxRecDepth 20000 in
theorem c_MO_events_in : Cond.code y_MO_events b_MO_events 1 (some (.int)) ∈ GW := gw_t (List.mem_of_getElem? (i := 654) rfl) rfl
abbrev b_MO_event : ByteArray := prog_11_method_38_code
def y_MO_event : MethodName := ⟨"EndingsLabModel", "event", "(I)I"⟩
set_option maxRecDepth 20000 in
theorem c_MO_event_in : Cond.code y_MO_event b_MO_event 2 (some (.int)) ∈ GW := gw_t (List.mem_of_getElem? (i := 658) rfl) rfl
abbrev b_MO_most : ByteArray := prog_11_method_39_code
def y_MO_most : MethodName := ⟨"EndingsLabModel", "most", "()I"⟩
set_option maxRecDepth 20000 in
theorem c_MO_most_in : Cond.code y_MO_most b_MO_most 1 (some (.int)) ∈ GW := gw_t (List.mem_of_getElem? (i := 662) rfl) rfl
theorem in_LA : Cond.initialized "EndingsLabLaw" ∈ GW := gw_t (List.mem_of_getElem? (i := 0) rfl) rfl
theorem in_LB : Cond.initialized "EndingsLab" ∈ GW := gw_t (List.mem_of_getElem? (i := 1) rfl) rfl
theorem in_MA : Cond.initialized "EndingsLab$Machine" ∈ GW := gw_t (List.mem_of_getElem? (i := 2) rfl) rfl
theorem in_FA : Cond.initialized "EndingsLab$Faults" ∈ GW := gw_t (List.mem_of_getElem? (i := 3) rfl) rfl
theorem in_LO : Cond.initialized "EndingsLab$Locks" ∈ GW := gw_t (List.mem_of_getElem? (i := 4) rfl) rfl
theorem in_EV : Cond.initialized "EndingsLab$EventLog" ∈ GW := gw_t (List.mem_of_getElem? (i := 5) rfl) rfl
theorem in_TE : Cond.initialized "EndingsLab$Text" ∈ GW := gw_t (List.mem_of_getElem? (i := 6) rfl) rfl
theorem in_FR : Cond.initialized "EndingsLab$Frame" ∈ GW := gw_t (List.mem_of_getElem? (i := 7) rfl) rfl
theorem in_CH : Cond.initialized "EndingsLab$Checker" ∈ GW := gw_t (List.mem_of_getElem? (i := 8) rfl) rfl
theorem in_MO : Cond.initialized "EndingsLabModel" ∈ GW := gw_t (List.mem_of_getElem? (i := 9) rfl) rfl
theorem in_EN : Cond.initialized "EndingsLab$Ending" ∈ GW := gw_t (List.mem_of_getElem? (i := 11) rfl) rfl
theorem in_JM : Cond.initialized "java/lang/Math" ∈ GW := gw_t (List.mem_of_getElem? (i := 12) rfl) rfl
theorem l_LA_7 : Cond.classLink "EndingsLabLaw" 7 "EndingsLab" ∈ GW := gw_t (List.mem_of_getElem? (i := 13) rfl) rfl
theorem it_LB : Cond.instantiable "EndingsLab" 3 ∈ GW := gw_t (List.mem_of_getElem? (i := 14) rfl) rfl
theorem l_LA_9 : Cond.methodLink "EndingsLabLaw" 9 y_LB_init ∈ GW := gw_t (List.mem_of_getElem? (i := 15) rfl) rfl
theorem im_LB_init : Cond.instanceMethod y_LB_init ∈ GW := gw_t (List.mem_of_getElem? (i := 16) rfl) rfl
theorem l_LB_3 : Cond.methodLink "EndingsLab" 3 objectInit ∈ GW := gw_t (List.mem_of_getElem? (i := 18) rfl) rfl
theorem im_OB_init : Cond.instanceMethod objectInit ∈ GW := gw_t (List.mem_of_getElem? (i := 19) rfl) rfl
theorem l_LB_9 : Cond.classLink "EndingsLab" 9 "EndingsLab$Machine" ∈ GW := gw_t (List.mem_of_getElem? (i := 21) rfl) rfl
theorem it_MA : Cond.instantiable "EndingsLab$Machine" 8 ∈ GW := gw_t (List.mem_of_getElem? (i := 22) rfl) rfl
theorem l_LB_11 : Cond.methodLink "EndingsLab" 11 y_MA_init ∈ GW := gw_t (List.mem_of_getElem? (i := 23) rfl) rfl
theorem im_MA_init : Cond.instanceMethod y_MA_init ∈ GW := gw_t (List.mem_of_getElem? (i := 24) rfl) rfl
theorem l_MA_3 : Cond.methodLink "EndingsLab$Machine" 3 objectInit ∈ GW := gw_t (List.mem_of_getElem? (i := 26) rfl) rfl
theorem l_MA_9 : Cond.classLink "EndingsLab$Machine" 9 "EndingsLab$Text" ∈ GW := gw_t (List.mem_of_getElem? (i := 27) rfl) rfl
theorem l_MA_17 : Cond.classLink "EndingsLab$Machine" 17 "EndingsLab$Frame" ∈ GW := gw_t (List.mem_of_getElem? (i := 29) rfl) rfl
theorem l_MA_23 : Cond.classLink "EndingsLab$Machine" 23 "EndingsLab$Faults" ∈ GW := gw_t (List.mem_of_getElem? (i := 31) rfl) rfl
theorem it_FA : Cond.instantiable "EndingsLab$Faults" 3 ∈ GW := gw_t (List.mem_of_getElem? (i := 32) rfl) rfl
theorem im_FA_init : Cond.instanceMethod y_FA_init ∈ GW := gw_t (List.mem_of_getElem? (i := 34) rfl) rfl
theorem l_FA_3 : Cond.methodLink "EndingsLab$Faults" 3 objectInit ∈ GW := gw_t (List.mem_of_getElem? (i := 36) rfl) rfl
theorem l_FA_9 : Cond.fieldLink "EndingsLab$Faults" 9 "EndingsLab$Faults" "kinds" "[I" ∈ GW := gw_t (List.mem_of_getElem? (i := 37) rfl) rfl
theorem l_FA_15 : Cond.fieldLink "EndingsLab$Faults" 15 "EndingsLab$Faults" "causes" "[I" ∈ GW := gw_t (List.mem_of_getElem? (i := 38) rfl) rfl
theorem l_FA_18 : Cond.fieldLink "EndingsLab$Faults" 18 "EndingsLab$Faults" "made" "I" ∈ GW := gw_t (List.mem_of_getElem? (i := 39) rfl) rfl
theorem ac_int : Cond.arrayClass .int ∈ GW := gw_t (List.mem_of_getElem? (i := 47) rfl) rfl
theorem l_MA_30 : Cond.classLink "EndingsLab$Machine" 30 "EndingsLab$Locks" ∈ GW := gw_t (List.mem_of_getElem? (i := 48) rfl) rfl
theorem it_LO : Cond.instantiable "EndingsLab$Locks" 3 ∈ GW := gw_t (List.mem_of_getElem? (i := 49) rfl) rfl
theorem im_LO_init : Cond.instanceMethod y_LO_init ∈ GW := gw_t (List.mem_of_getElem? (i := 51) rfl) rfl
theorem l_LO_3 : Cond.methodLink "EndingsLab$Locks" 3 objectInit ∈ GW := gw_t (List.mem_of_getElem? (i := 53) rfl) rfl
theorem l_LO_9 : Cond.fieldLink "EndingsLab$Locks" 9 "EndingsLab$Locks" "held" "[I" ∈ GW := gw_t (List.mem_of_getElem? (i := 54) rfl) rfl
theorem l_LO_15 : Cond.fieldLink "EndingsLab$Locks" 15 "EndingsLab$Locks" "total" "I" ∈ GW := gw_t (List.mem_of_getElem? (i := 55) rfl) rfl
theorem l_LO_19 : Cond.fieldLink "EndingsLab$Locks" 19 "EndingsLab$Locks" "greatest" "I" ∈ GW := gw_t (List.mem_of_getElem? (i := 56) rfl) rfl
theorem l_MA_37 : Cond.classLink "EndingsLab$Machine" 37 "EndingsLab$EventLog" ∈ GW := gw_t (List.mem_of_getElem? (i := 65) rfl) rfl
theorem it_EV : Cond.instantiable "EndingsLab$EventLog" 2 ∈ GW := gw_t (List.mem_of_getElem? (i := 66) rfl) rfl
theorem im_EV_init : Cond.instanceMethod y_EV_init ∈ GW := gw_t (List.mem_of_getElem? (i := 68) rfl) rfl
theorem l_EV_3 : Cond.methodLink "EndingsLab$EventLog" 3 objectInit ∈ GW := gw_t (List.mem_of_getElem? (i := 70) rfl) rfl
theorem l_EV_9 : Cond.fieldLink "EndingsLab$EventLog" 9 "EndingsLab$EventLog" "kept" "[I" ∈ GW := gw_t (List.mem_of_getElem? (i := 71) rfl) rfl
theorem l_EV_15 : Cond.fieldLink "EndingsLab$EventLog" 15 "EndingsLab$EventLog" "noted" "I" ∈ GW := gw_t (List.mem_of_getElem? (i := 72) rfl) rfl
theorem it_TE : Cond.instantiable "EndingsLab$Text" 4 ∈ GW := gw_t (List.mem_of_getElem? (i := 79) rfl) rfl
theorem im_TE_init : Cond.instanceMethod y_TE_init ∈ GW := gw_t (List.mem_of_getElem? (i := 81) rfl) rfl
theorem l_TE_3 : Cond.methodLink "EndingsLab$Text" 3 objectInit ∈ GW := gw_t (List.mem_of_getElem? (i := 83) rfl) rfl
theorem l_TE_9 : Cond.fieldLink "EndingsLab$Text" 9 "EndingsLab$Text" "ops" "[I" ∈ GW := gw_t (List.mem_of_getElem? (i := 84) rfl) rfl
theorem l_TE_15 : Cond.fieldLink "EndingsLab$Text" 15 "EndingsLab$Text" "numbers" "[I" ∈ GW := gw_t (List.mem_of_getElem? (i := 87) rfl) rfl
theorem l_TE_18 : Cond.fieldLink "EndingsLab$Text" 18 "EndingsLab$Text" "ends" "[I" ∈ GW := gw_t (List.mem_of_getElem? (i := 90) rfl) rfl
theorem l_TE_21 : Cond.fieldLink "EndingsLab$Text" 21 "EndingsLab$Text" "size" "I" ∈ GW := gw_t (List.mem_of_getElem? (i := 93) rfl) rfl
theorem it_FR : Cond.instantiable "EndingsLab$Frame" 5 ∈ GW := gw_t (List.mem_of_getElem? (i := 106) rfl) rfl
theorem im_FR_init : Cond.instanceMethod y_FR_init ∈ GW := gw_t (List.mem_of_getElem? (i := 108) rfl) rfl
theorem l_FR_3 : Cond.methodLink "EndingsLab$Frame" 3 objectInit ∈ GW := gw_t (List.mem_of_getElem? (i := 110) rfl) rfl
theorem l_FR_9 : Cond.fieldLink "EndingsLab$Frame" 9 "EndingsLab$Frame" "entered" "[I" ∈ GW := gw_t (List.mem_of_getElem? (i := 111) rfl) rfl
theorem l_FR_15 : Cond.fieldLink "EndingsLab$Frame" 15 "EndingsLab$Frame" "procedure" "I" ∈ GW := gw_t (List.mem_of_getElem? (i := 113) rfl) rfl
theorem l_FR_19 : Cond.fieldLink "EndingsLab$Frame" 19 "EndingsLab$Frame" "account" "I" ∈ GW := gw_t (List.mem_of_getElem? (i := 115) rfl) rfl
theorem l_FR_22 : Cond.fieldLink "EndingsLab$Frame" 22 "EndingsLab$Frame" "carried" "I" ∈ GW := gw_t (List.mem_of_getElem? (i := 117) rfl) rfl
theorem l_FR_25 : Cond.fieldLink "EndingsLab$Frame" 25 "EndingsLab$Frame" "caught" "I" ∈ GW := gw_t (List.mem_of_getElem? (i := 119) rfl) rfl
theorem l_MA_11 : Cond.fieldLink "EndingsLab$Machine" 11 "EndingsLab$Machine" "texts" "[LEndingsLab$Text;" ∈ GW := gw_t (List.mem_of_getElem? (i := 132) rfl) rfl
theorem l_MA_19 : Cond.fieldLink "EndingsLab$Machine" 19 "EndingsLab$Machine" "frames" "[LEndingsLab$Frame;" ∈ GW := gw_t (List.mem_of_getElem? (i := 134) rfl) rfl
theorem l_MA_26 : Cond.fieldLink "EndingsLab$Machine" 26 "EndingsLab$Machine" "faults" "LEndingsLab$Faults;" ∈ GW := gw_t (List.mem_of_getElem? (i := 135) rfl) rfl
theorem l_MA_33 : Cond.fieldLink "EndingsLab$Machine" 33 "EndingsLab$Machine" "locks" "LEndingsLab$Locks;" ∈ GW := gw_t (List.mem_of_getElem? (i := 137) rfl) rfl
theorem l_MA_40 : Cond.fieldLink "EndingsLab$Machine" 40 "EndingsLab$Machine" "log" "LEndingsLab$EventLog;" ∈ GW := gw_t (List.mem_of_getElem? (i := 139) rfl) rfl
theorem l_MA_56 : Cond.fieldLink "EndingsLab$Machine" 56 "EndingsLab$Machine" "begun" "I" ∈ GW := gw_t (List.mem_of_getElem? (i := 141) rfl) rfl
theorem l_MA_79 : Cond.fieldLink "EndingsLab$Machine" 79 "EndingsLab$Machine" "cameTo" "I" ∈ GW := gw_t (List.mem_of_getElem? (i := 143) rfl) rfl
theorem l_MA_44 : Cond.fieldLink "EndingsLab$Machine" 44 "EndingsLab$Machine" "endedBy" "I" ∈ GW := gw_t (List.mem_of_getElem? (i := 145) rfl) rfl
theorem l_LB_16 : Cond.classLink "EndingsLab" 16 "EndingsLab$Checker" ∈ GW := gw_t (List.mem_of_getElem? (i := 164) rfl) rfl
theorem it_CH : Cond.instantiable "EndingsLab$Checker" 5 ∈ GW := gw_t (List.mem_of_getElem? (i := 165) rfl) rfl
theorem im_CH_init : Cond.instanceMethod y_CH_init ∈ GW := gw_t (List.mem_of_getElem? (i := 167) rfl) rfl
theorem l_CH_3 : Cond.methodLink "EndingsLab$Checker" 3 objectInit ∈ GW := gw_t (List.mem_of_getElem? (i := 169) rfl) rfl
theorem l_CH_9 : Cond.fieldLink "EndingsLab$Checker" 9 "EndingsLab$Checker" "openers" "[I" ∈ GW := gw_t (List.mem_of_getElem? (i := 170) rfl) rfl
theorem l_CH_15 : Cond.fieldLink "EndingsLab$Checker" 15 "EndingsLab$Checker" "inTimes" "[Z" ∈ GW := gw_t (List.mem_of_getElem? (i := 171) rfl) rfl
theorem l_CH_19 : Cond.fieldLink "EndingsLab$Checker" 19 "EndingsLab$Checker" "inCatch" "[Z" ∈ GW := gw_t (List.mem_of_getElem? (i := 172) rfl) rfl
theorem l_CH_22 : Cond.fieldLink "EndingsLab$Checker" 22 "EndingsLab$Checker" "lacking" "[I" ∈ GW := gw_t (List.mem_of_getElem? (i := 173) rfl) rfl
theorem l_CH_25 : Cond.fieldLink "EndingsLab$Checker" 25 "EndingsLab$Checker" "depth" "I" ∈ GW := gw_t (List.mem_of_getElem? (i := 174) rfl) rfl
theorem ac_boolean : Cond.arrayClass .boolean ∈ GW := gw_t (List.mem_of_getElem? (i := 186) rfl) rfl
theorem l_LB_12 : Cond.fieldLink "EndingsLab" 12 "EndingsLab" "machine" "LEndingsLab$Machine;" ∈ GW := gw_t (List.mem_of_getElem? (i := 187) rfl) rfl
theorem l_LB_19 : Cond.fieldLink "EndingsLab" 19 "EndingsLab" "checker" "LEndingsLab$Checker;" ∈ GW := gw_t (List.mem_of_getElem? (i := 188) rfl) rfl
theorem l_LB_23 : Cond.fieldLink "EndingsLab" 23 "EndingsLab" "wrongPlace" "I" ∈ GW := gw_t (List.mem_of_getElem? (i := 189) rfl) rfl
theorem l_LA_13 : Cond.methodLink "EndingsLabLaw" 13 y_LB_token ∈ GW := gw_t (List.mem_of_getElem? (i := 197) rfl) rfl
theorem im_LB_token : Cond.instanceMethod y_LB_token ∈ GW := gw_t (List.mem_of_getElem? (i := 198) rfl) rfl
theorem se_LB_token : Cond.selects "EndingsLab" y_LB_token y_LB_token ∈ GW := gw_t (List.mem_of_getElem? (i := 199) rfl) rfl
theorem l_LB_27 : Cond.methodLink "EndingsLab" 27 y_LB_isBelow ∈ GW := gw_t (List.mem_of_getElem? (i := 201) rfl) rfl
theorem st_LB_isBelow : Cond.static y_LB_isBelow ∈ GW := gw_t (List.mem_of_getElem? (i := 202) rfl) rfl
theorem l_LB_31 : Cond.methodLink "EndingsLab" 31 y_LB_isToken ∈ GW := gw_t (List.mem_of_getElem? (i := 204) rfl) rfl
theorem st_LB_isToken : Cond.static y_LB_isToken ∈ GW := gw_t (List.mem_of_getElem? (i := 205) rfl) rfl
theorem l_LB_38 : Cond.methodLink "EndingsLab" 38 y_TE_append ∈ GW := gw_t (List.mem_of_getElem? (i := 207) rfl) rfl
theorem im_TE_append : Cond.instanceMethod y_TE_append ∈ GW := gw_t (List.mem_of_getElem? (i := 208) rfl) rfl
theorem se_TE_append : Cond.selects "EndingsLab$Text" y_TE_append y_TE_append ∈ GW := gw_t (List.mem_of_getElem? (i := 209) rfl) rfl
theorem l_LA_18 : Cond.methodLink "EndingsLabLaw" 18 y_LB_wipe ∈ GW := gw_t (List.mem_of_getElem? (i := 211) rfl) rfl
theorem im_LB_wipe : Cond.instanceMethod y_LB_wipe ∈ GW := gw_t (List.mem_of_getElem? (i := 212) rfl) rfl
theorem se_LB_wipe : Cond.selects "EndingsLab" y_LB_wipe y_LB_wipe ∈ GW := gw_t (List.mem_of_getElem? (i := 213) rfl) rfl
theorem l_LB_46 : Cond.methodLink "EndingsLab" 46 y_TE_clear ∈ GW := gw_t (List.mem_of_getElem? (i := 215) rfl) rfl
theorem im_TE_clear : Cond.instanceMethod y_TE_clear ∈ GW := gw_t (List.mem_of_getElem? (i := 216) rfl) rfl
theorem se_TE_clear : Cond.selects "EndingsLab$Text" y_TE_clear y_TE_clear ∈ GW := gw_t (List.mem_of_getElem? (i := 217) rfl) rfl
theorem l_LA_23 : Cond.methodLink "EndingsLabLaw" 23 y_LB_check ∈ GW := gw_t (List.mem_of_getElem? (i := 219) rfl) rfl
theorem im_LB_check : Cond.instanceMethod y_LB_check ∈ GW := gw_t (List.mem_of_getElem? (i := 220) rfl) rfl
theorem se_LB_check : Cond.selects "EndingsLab" y_LB_check y_LB_check ∈ GW := gw_t (List.mem_of_getElem? (i := 221) rfl) rfl
theorem l_LB_50 : Cond.methodLink "EndingsLab" 50 y_LB_judge ∈ GW := gw_t (List.mem_of_getElem? (i := 223) rfl) rfl
theorem im_LB_judge : Cond.instanceMethod y_LB_judge ∈ GW := gw_t (List.mem_of_getElem? (i := 225) rfl) rfl
theorem l_LB_103 : Cond.methodLink "EndingsLab" 103 y_CH_firstWrong ∈ GW := gw_t (List.mem_of_getElem? (i := 227) rfl) rfl
theorem im_CH_firstWrong : Cond.instanceMethod y_CH_firstWrong ∈ GW := gw_t (List.mem_of_getElem? (i := 228) rfl) rfl
theorem se_CH_firstWrong : Cond.selects "EndingsLab$Checker" y_CH_firstWrong y_CH_firstWrong ∈ GW := gw_t (List.mem_of_getElem? (i := 229) rfl) rfl
theorem l_CH_29 : Cond.methodLink "EndingsLab$Checker" 29 y_CH_open ∈ GW := gw_t (List.mem_of_getElem? (i := 231) rfl) rfl
theorem im_CH_open : Cond.instanceMethod y_CH_open ∈ GW := gw_t (List.mem_of_getElem? (i := 233) rfl) rfl
theorem l_CH_41 : Cond.methodLink "EndingsLab$Checker" 41 y_CH_mayStand ∈ GW := gw_t (List.mem_of_getElem? (i := 235) rfl) rfl
theorem im_CH_mayStand : Cond.instanceMethod y_CH_mayStand ∈ GW := gw_t (List.mem_of_getElem? (i := 237) rfl) rfl
theorem l_CH_45 : Cond.methodLink "EndingsLab$Checker" 45 y_CH_take ∈ GW := gw_t (List.mem_of_getElem? (i := 239) rfl) rfl
theorem im_CH_take : Cond.instanceMethod y_CH_take ∈ GW := gw_t (List.mem_of_getElem? (i := 241) rfl) rfl
theorem l_CH_52 : Cond.methodLink "EndingsLab$Checker" 52 y_CH_close ∈ GW := gw_t (List.mem_of_getElem? (i := 243) rfl) rfl
theorem im_CH_close : Cond.instanceMethod y_CH_close ∈ GW := gw_t (List.mem_of_getElem? (i := 245) rfl) rfl
theorem l_LA_27 : Cond.methodLink "EndingsLabLaw" 27 y_LB_place ∈ GW := gw_t (List.mem_of_getElem? (i := 247) rfl) rfl
theorem im_LB_place : Cond.instanceMethod y_LB_place ∈ GW := gw_t (List.mem_of_getElem? (i := 248) rfl) rfl
theorem se_LB_place : Cond.selects "EndingsLab" y_LB_place y_LB_place ∈ GW := gw_t (List.mem_of_getElem? (i := 249) rfl) rfl
theorem l_LA_32 : Cond.methodLink "EndingsLabLaw" 32 y_LB_run ∈ GW := gw_t (List.mem_of_getElem? (i := 251) rfl) rfl
theorem im_LB_run : Cond.instanceMethod y_LB_run ∈ GW := gw_t (List.mem_of_getElem? (i := 252) rfl) rfl
theorem se_LB_run : Cond.selects "EndingsLab" y_LB_run y_LB_run ∈ GW := gw_t (List.mem_of_getElem? (i := 253) rfl) rfl
theorem l_LB_54 : Cond.methodLink "EndingsLab" 54 y_LB_judgeAll ∈ GW := gw_t (List.mem_of_getElem? (i := 255) rfl) rfl
theorem im_LB_judgeAll : Cond.instanceMethod y_LB_judgeAll ∈ GW := gw_t (List.mem_of_getElem? (i := 257) rfl) rfl
theorem l_LB_57 : Cond.methodLink "EndingsLab" 57 y_MA_perform ∈ GW := gw_t (List.mem_of_getElem? (i := 259) rfl) rfl
theorem im_MA_perform : Cond.instanceMethod y_MA_perform ∈ GW := gw_t (List.mem_of_getElem? (i := 260) rfl) rfl
theorem se_MA_perform : Cond.selects "EndingsLab$Machine" y_MA_perform y_MA_perform ∈ GW := gw_t (List.mem_of_getElem? (i := 261) rfl) rfl
theorem l_MA_50 : Cond.methodLink "EndingsLab$Machine" 50 y_FA_forget ∈ GW := gw_t (List.mem_of_getElem? (i := 263) rfl) rfl
theorem im_FA_forget : Cond.instanceMethod y_FA_forget ∈ GW := gw_t (List.mem_of_getElem? (i := 264) rfl) rfl
theorem se_FA_forget : Cond.selects "EndingsLab$Faults" y_FA_forget y_FA_forget ∈ GW := gw_t (List.mem_of_getElem? (i := 265) rfl) rfl
theorem l_MA_53 : Cond.methodLink "EndingsLab$Machine" 53 y_LO_free ∈ GW := gw_t (List.mem_of_getElem? (i := 267) rfl) rfl
theorem im_LO_free : Cond.instanceMethod y_LO_free ∈ GW := gw_t (List.mem_of_getElem? (i := 268) rfl) rfl
theorem se_LO_free : Cond.selects "EndingsLab$Locks" y_LO_free y_LO_free ∈ GW := gw_t (List.mem_of_getElem? (i := 269) rfl) rfl
theorem l_MA_59 : Cond.methodLink "EndingsLab$Machine" 59 y_FR_begin ∈ GW := gw_t (List.mem_of_getElem? (i := 271) rfl) rfl
theorem im_FR_begin : Cond.instanceMethod y_FR_begin ∈ GW := gw_t (List.mem_of_getElem? (i := 272) rfl) rfl
theorem se_FR_begin : Cond.selects "EndingsLab$Frame" y_FR_begin y_FR_begin ∈ GW := gw_t (List.mem_of_getElem? (i := 273) rfl) rfl
theorem l_MA_63 : Cond.methodLink "EndingsLab$Machine" 63 y_MA_doProcedure ∈ GW := gw_t (List.mem_of_getElem? (i := 275) rfl) rfl
theorem im_MA_doProcedure : Cond.instanceMethod y_MA_doProcedure ∈ GW := gw_t (List.mem_of_getElem? (i := 277) rfl) rfl
theorem l_MA_82 : Cond.methodLink "EndingsLab$Machine" 82 y_MA_doBlock ∈ GW := gw_t (List.mem_of_getElem? (i := 279) rfl) rfl
theorem im_MA_doBlock : Cond.instanceMethod y_MA_doBlock ∈ GW := gw_t (List.mem_of_getElem? (i := 281) rfl) rfl
theorem l_MA_113 : Cond.methodLink "EndingsLab$Machine" 113 y_MA_textOf ∈ GW := gw_t (List.mem_of_getElem? (i := 283) rfl) rfl
theorem im_MA_textOf : Cond.instanceMethod y_MA_textOf ∈ GW := gw_t (List.mem_of_getElem? (i := 285) rfl) rfl
theorem l_MA_123 : Cond.methodLink "EndingsLab$Machine" 123 y_MA_doItem ∈ GW := gw_t (List.mem_of_getElem? (i := 287) rfl) rfl
theorem im_MA_doItem : Cond.instanceMethod y_MA_doItem ∈ GW := gw_t (List.mem_of_getElem? (i := 289) rfl) rfl
theorem l_MA_67 : Cond.fieldLink "EndingsLab$Machine" 67 "EndingsLab$Ending" "TOO_LATE" "LEndingsLab$Ending;" ∈ GW := gw_t (List.mem_of_getElem? (i := 291) rfl) rfl
theorem l_MA_136 : Cond.methodLink "EndingsLab$Machine" 136 y_EV_note ∈ GW := gw_t (List.mem_of_getElem? (i := 293) rfl) rfl
theorem im_EV_note : Cond.instanceMethod y_EV_note ∈ GW := gw_t (List.mem_of_getElem? (i := 294) rfl) rfl
theorem se_EV_note : Cond.selects "EndingsLab$EventLog" y_EV_note y_EV_note ∈ GW := gw_t (List.mem_of_getElem? (i := 295) rfl) rfl
theorem l_EV_19 : Cond.methodLink "EndingsLab$EventLog" 19 y_JM_floorMod ∈ GW := gw_t (List.mem_of_getElem? (i := 297) rfl) rfl
theorem st_JM_floorMod : Cond.static y_JM_floorMod ∈ GW := gw_t (List.mem_of_getElem? (i := 298) rfl) rfl
set_option maxRecDepth 20000 in
theorem l_MA_86 : Cond.fieldLink "EndingsLab$Machine" 86 "EndingsLab$Ending" "ON" "LEndingsLab$Ending;" ∈ GW := gw_t (List.mem_of_getElem? (i := 300) rfl) rfl
set_option maxRecDepth 20000 in
theorem l_MA_140 : Cond.methodLink "EndingsLab$Machine" 140 y_MA_doDivide ∈ GW := gw_t (List.mem_of_getElem? (i := 302) rfl) rfl
set_option maxRecDepth 20000 in
theorem im_MA_doDivide : Cond.instanceMethod y_MA_doDivide ∈ GW := gw_t (List.mem_of_getElem? (i := 304) rfl) rfl
set_option maxRecDepth 20000 in
theorem l_MA_99 : Cond.methodLink "EndingsLab$Machine" 99 y_MA_raise ∈ GW := gw_t (List.mem_of_getElem? (i := 306) rfl) rfl
set_option maxRecDepth 20000 in
theorem im_MA_raise : Cond.instanceMethod y_MA_raise ∈ GW := gw_t (List.mem_of_getElem? (i := 308) rfl) rfl
set_option maxRecDepth 20000 in
theorem l_MA_176 : Cond.methodLink "EndingsLab$Machine" 176 y_FA_make ∈ GW := gw_t (List.mem_of_getElem? (i := 310) rfl) rfl
set_option maxRecDepth 20000 in
theorem im_FA_make : Cond.instanceMethod y_FA_make ∈ GW := gw_t (List.mem_of_getElem? (i := 311) rfl) rfl
set_option maxRecDepth 20000 in
theorem se_FA_make : Cond.selects "EndingsLab$Faults" y_FA_make y_FA_make ∈ GW := gw_t (List.mem_of_getElem? (i := 312) rfl) rfl
set_option maxRecDepth 20000 in
theorem l_MA_73 : Cond.fieldLink "EndingsLab$Machine" 73 "EndingsLab$Ending" "FAULT" "LEndingsLab$Ending;" ∈ GW := gw_t (List.mem_of_getElem? (i := 314) rfl) rfl
set_option maxRecDepth 20000 in
theorem l_MA_144 : Cond.methodLink "EndingsLab$Machine" 144 y_MA_doTimes ∈ GW := gw_t (List.mem_of_getElem? (i := 316) rfl) rfl
set_option maxRecDepth 20000 in
theorem im_MA_doTimes : Cond.instanceMethod y_MA_doTimes ∈ GW := gw_t (List.mem_of_getElem? (i := 318) rfl) rfl
set_option maxRecDepth 20000 in
theorem l_MA_148 : Cond.fieldLink "EndingsLab$Machine" 148 "EndingsLab$Ending" "BROKEN" "LEndingsLab$Ending;" ∈ GW := gw_t (List.mem_of_getElem? (i := 320) rfl) rfl
set_option maxRecDepth 20000 in
theorem l_MA_151 : Cond.fieldLink "EndingsLab$Machine" 151 "EndingsLab$Ending" "NEXT_TIME" "LEndingsLab$Ending;" ∈ GW := gw_t (List.mem_of_getElem? (i := 322) rfl) rfl
set_option maxRecDepth 20000 in
theorem l_MA_92 : Cond.fieldLink "EndingsLab$Machine" 92 "EndingsLab$Ending" "VALUE" "LEndingsLab$Ending;" ∈ GW := gw_t (List.mem_of_getElem? (i := 324) rfl) rfl
set_option maxRecDepth 20000 in
theorem l_MA_157 : Cond.methodLink "EndingsLab$Machine" 157 y_MA_doTry ∈ GW := gw_t (List.mem_of_getElem? (i := 326) rfl) rfl
set_option maxRecDepth 20000 in
theorem im_MA_doTry : Cond.instanceMethod y_MA_doTry ∈ GW := gw_t (List.mem_of_getElem? (i := 328) rfl) rfl
set_option maxRecDepth 20000 in
theorem l_MA_180 : Cond.methodLink "EndingsLab$Machine" 180 y_TE_catchesOf ∈ GW := gw_t (List.mem_of_getElem? (i := 330) rfl) rfl
set_option maxRecDepth 20000 in
theorem im_TE_catchesOf : Cond.instanceMethod y_TE_catchesOf ∈ GW := gw_t (List.mem_of_getElem? (i := 331) rfl) rfl
set_option maxRecDepth 20000 in
theorem se_TE_catchesOf : Cond.selects "EndingsLab$Text" y_TE_catchesOf y_TE_catchesOf ∈ GW := gw_t (List.mem_of_getElem? (i := 332) rfl) rfl
set_option maxRecDepth 20000 in
theorem l_MA_183 : Cond.methodLink "EndingsLab$Machine" 183 y_MA_catches ∈ GW := gw_t (List.mem_of_getElem? (i := 334) rfl) rfl
set_option maxRecDepth 20000 in
theorem im_MA_catches : Cond.instanceMethod y_MA_catches ∈ GW := gw_t (List.mem_of_getElem? (i := 336) rfl) rfl
set_option maxRecDepth 20000 in
theorem l_MA_197 : Cond.methodLink "EndingsLab$Machine" 197 y_FA_kindOf ∈ GW := gw_t (List.mem_of_getElem? (i := 338) rfl) rfl
set_option maxRecDepth 20000 in
theorem im_FA_kindOf : Cond.instanceMethod y_FA_kindOf ∈ GW := gw_t (List.mem_of_getElem? (i := 339) rfl) rfl
set_option maxRecDepth 20000 in
theorem se_FA_kindOf : Cond.selects "EndingsLab$Faults" y_FA_kindOf y_FA_kindOf ∈ GW := gw_t (List.mem_of_getElem? (i := 340) rfl) rfl
set_option maxRecDepth 20000 in
theorem st_LB_isOfKind : Cond.static y_LB_isOfKind ∈ GW := gw_t (List.mem_of_getElem? (i := 344) rfl) rfl
set_option maxRecDepth 20000 in
theorem l_MA_187 : Cond.methodLink "EndingsLab$Machine" 187 y_MA_doCatch ∈ GW := gw_t (List.mem_of_getElem? (i := 346) rfl) rfl
set_option maxRecDepth 20000 in
theorem im_MA_doCatch : Cond.instanceMethod y_MA_doCatch ∈ GW := gw_t (List.mem_of_getElem? (i := 348) rfl) rfl
set_option maxRecDepth 20000 in
theorem l_MA_190 : Cond.methodLink "EndingsLab$Machine" 190 y_TE_hasLast ∈ GW := gw_t (List.mem_of_getElem? (i := 350) rfl) rfl
set_option maxRecDepth 20000 in
theorem im_TE_hasLast : Cond.instanceMethod y_TE_hasLast ∈ GW := gw_t (List.mem_of_getElem? (i := 351) rfl) rfl
set_option maxRecDepth 20000 in
theorem se_TE_hasLast : Cond.selects "EndingsLab$Text" y_TE_hasLast y_TE_hasLast ∈ GW := gw_t (List.mem_of_getElem? (i := 352) rfl) rfl
set_option maxRecDepth 20000 in
theorem l_MA_193 : Cond.methodLink "EndingsLab$Machine" 193 y_MA_doLast ∈ GW := gw_t (List.mem_of_getElem? (i := 354) rfl) rfl
set_option maxRecDepth 20000 in
theorem im_MA_doLast : Cond.instanceMethod y_MA_doLast ∈ GW := gw_t (List.mem_of_getElem? (i := 356) rfl) rfl
set_option maxRecDepth 20000 in
theorem l_MA_160 : Cond.methodLink "EndingsLab$Machine" 160 y_MA_doLock ∈ GW := gw_t (List.mem_of_getElem? (i := 358) rfl) rfl
set_option maxRecDepth 20000 in
theorem im_MA_doLock : Cond.instanceMethod y_MA_doLock ∈ GW := gw_t (List.mem_of_getElem? (i := 360) rfl) rfl
set_option maxRecDepth 20000 in
theorem l_MA_203 : Cond.methodLink "EndingsLab$Machine" 203 y_LO_hold ∈ GW := gw_t (List.mem_of_getElem? (i := 362) rfl) rfl
set_option maxRecDepth 20000 in
theorem im_LO_hold : Cond.instanceMethod y_LO_hold ∈ GW := gw_t (List.mem_of_getElem? (i := 363) rfl) rfl
set_option maxRecDepth 20000 in
theorem se_LO_hold : Cond.selects "EndingsLab$Locks" y_LO_hold y_LO_hold ∈ GW := gw_t (List.mem_of_getElem? (i := 364) rfl) rfl
set_option maxRecDepth 20000 in
theorem l_LO_22 : Cond.methodLink "EndingsLab$Locks" 22 y_JM_max ∈ GW := gw_t (List.mem_of_getElem? (i := 366) rfl) rfl
set_option maxRecDepth 20000 in
theorem st_JM_max : Cond.static y_JM_max ∈ GW := gw_t (List.mem_of_getElem? (i := 367) rfl) rfl
set_option maxRecDepth 20000 in
theorem l_MA_107 : Cond.methodLink "EndingsLab$Machine" 107 y_LO_release ∈ GW := gw_t (List.mem_of_getElem? (i := 369) rfl) rfl
set_option maxRecDepth 20000 in
theorem im_LO_release : Cond.instanceMethod y_LO_release ∈ GW := gw_t (List.mem_of_getElem? (i := 370) rfl) rfl
set_option maxRecDepth 20000 in
theorem se_LO_release : Cond.selects "EndingsLab$Locks" y_LO_release y_LO_release ∈ GW := gw_t (List.mem_of_getElem? (i := 371) rfl) rfl
set_option maxRecDepth 20000 in
theorem l_MA_163 : Cond.methodLink "EndingsLab$Machine" 163 y_MA_doEnter ∈ GW := gw_t (List.mem_of_getElem? (i := 373) rfl) rfl
set_option maxRecDepth 20000 in
theorem im_MA_doEnter : Cond.instanceMethod y_MA_doEnter ∈ GW := gw_t (List.mem_of_getElem? (i := 375) rfl) rfl
set_option maxRecDepth 20000 in
theorem l_MA_166 : Cond.methodLink "EndingsLab$Machine" 166 y_MA_doLeave ∈ GW := gw_t (List.mem_of_getElem? (i := 377) rfl) rfl
set_option maxRecDepth 20000 in
theorem im_MA_doLeave : Cond.instanceMethod y_MA_doLeave ∈ GW := gw_t (List.mem_of_getElem? (i := 379) rfl) rfl
set_option maxRecDepth 20000 in
theorem l_MA_169 : Cond.methodLink "EndingsLab$Machine" 169 y_MA_doCall ∈ GW := gw_t (List.mem_of_getElem? (i := 381) rfl) rfl
set_option maxRecDepth 20000 in
theorem im_MA_doCall : Cond.instanceMethod y_MA_doCall ∈ GW := gw_t (List.mem_of_getElem? (i := 383) rfl) rfl
set_option maxRecDepth 20000 in
theorem l_MA_172 : Cond.methodLink "EndingsLab$Machine" 172 y_LO_isHeld ∈ GW := gw_t (List.mem_of_getElem? (i := 385) rfl) rfl
set_option maxRecDepth 20000 in
theorem im_LO_isHeld : Cond.instanceMethod y_LO_isHeld ∈ GW := gw_t (List.mem_of_getElem? (i := 386) rfl) rfl
set_option maxRecDepth 20000 in
theorem se_LO_isHeld : Cond.selects "EndingsLab$Locks" y_LO_isHeld y_LO_isHeld ∈ GW := gw_t (List.mem_of_getElem? (i := 387) rfl) rfl
set_option maxRecDepth 20000 in
theorem l_MA_126 : Cond.methodLink "EndingsLab$Machine" 126 y_TE_behind ∈ GW := gw_t (List.mem_of_getElem? (i := 389) rfl) rfl
set_option maxRecDepth 20000 in
theorem im_TE_behind : Cond.instanceMethod y_TE_behind ∈ GW := gw_t (List.mem_of_getElem? (i := 390) rfl) rfl
set_option maxRecDepth 20000 in
theorem se_TE_behind : Cond.selects "EndingsLab$Text" y_TE_behind y_TE_behind ∈ GW := gw_t (List.mem_of_getElem? (i := 391) rfl) rfl
set_option maxRecDepth 20000 in
theorem l_TE_25 : Cond.methodLink "EndingsLab$Text" 25 y_TE_catchesOf ∈ GW := gw_t (List.mem_of_getElem? (i := 393) rfl) rfl
set_option maxRecDepth 20000 in
theorem l_TE_29 : Cond.methodLink "EndingsLab$Text" 29 y_TE_hasLast ∈ GW := gw_t (List.mem_of_getElem? (i := 394) rfl) rfl
set_option maxRecDepth 20000 in
theorem l_MA_95 : Cond.methodLink "EndingsLab$Machine" 95 y_MA_releaseEntered ∈ GW := gw_t (List.mem_of_getElem? (i := 395) rfl) rfl
set_option maxRecDepth 20000 in
theorem im_MA_releaseEntered : Cond.instanceMethod y_MA_releaseEntered ∈ GW := gw_t (List.mem_of_getElem? (i := 397) rfl) rfl
set_option maxRecDepth 20000 in
theorem l_LA_37 : Cond.methodLink "EndingsLabLaw" 37 y_LB_value ∈ GW := gw_t (List.mem_of_getElem? (i := 399) rfl) rfl
set_option maxRecDepth 20000 in
theorem im_LB_value : Cond.instanceMethod y_LB_value ∈ GW := gw_t (List.mem_of_getElem? (i := 400) rfl) rfl
set_option maxRecDepth 20000 in
theorem se_LB_value : Cond.selects "EndingsLab" y_LB_value y_LB_value ∈ GW := gw_t (List.mem_of_getElem? (i := 401) rfl) rfl
set_option maxRecDepth 20000 in
theorem l_LA_41 : Cond.methodLink "EndingsLabLaw" 41 y_LB_fault ∈ GW := gw_t (List.mem_of_getElem? (i := 403) rfl) rfl
set_option maxRecDepth 20000 in
theorem im_LB_fault : Cond.instanceMethod y_LB_fault ∈ GW := gw_t (List.mem_of_getElem? (i := 404) rfl) rfl
set_option maxRecDepth 20000 in
theorem se_LB_fault : Cond.selects "EndingsLab" y_LB_fault y_LB_fault ∈ GW := gw_t (List.mem_of_getElem? (i := 405) rfl) rfl
set_option maxRecDepth 20000 in
theorem l_LB_71 : Cond.methodLink "EndingsLab" 71 y_FA_causeOf ∈ GW := gw_t (List.mem_of_getElem? (i := 407) rfl) rfl
set_option maxRecDepth 20000 in
theorem im_FA_causeOf : Cond.instanceMethod y_FA_causeOf ∈ GW := gw_t (List.mem_of_getElem? (i := 408) rfl) rfl
set_option maxRecDepth 20000 in
theorem se_FA_causeOf : Cond.selects "EndingsLab$Faults" y_FA_causeOf y_FA_causeOf ∈ GW := gw_t (List.mem_of_getElem? (i := 409) rfl) rfl
set_option maxRecDepth 20000 in
theorem l_LB_76 : Cond.methodLink "EndingsLab" 76 y_FA_kindOf ∈ GW := gw_t (List.mem_of_getElem? (i := 411) rfl) rfl
set_option maxRecDepth 20000 in
theorem l_LA_45 : Cond.methodLink "EndingsLabLaw" 45 y_LB_steps ∈ GW := gw_t (List.mem_of_getElem? (i := 412) rfl) rfl
set_option maxRecDepth 20000 in
theorem im_LB_steps : Cond.instanceMethod y_LB_steps ∈ GW := gw_t (List.mem_of_getElem? (i := 413) rfl) rfl
set_option maxRecDepth 20000 in
theorem se_LB_steps : Cond.selects "EndingsLab" y_LB_steps y_LB_steps ∈ GW := gw_t (List.mem_of_getElem? (i := 414) rfl) rfl
set_option maxRecDepth 20000 in
theorem l_LA_49 : Cond.methodLink "EndingsLabLaw" 49 y_LB_events ∈ GW := gw_t (List.mem_of_getElem? (i := 416) rfl) rfl
set_option maxRecDepth 20000 in
theorem im_LB_events : Cond.instanceMethod y_LB_events ∈ GW := gw_t (List.mem_of_getElem? (i := 417) rfl) rfl
set_option maxRecDepth 20000 in
theorem se_LB_events : Cond.selects "EndingsLab" y_LB_events y_LB_events ∈ GW := gw_t (List.mem_of_getElem? (i := 418) rfl) rfl
set_option maxRecDepth 20000 in
theorem l_LA_53 : Cond.methodLink "EndingsLabLaw" 53 y_LB_event ∈ GW := gw_t (List.mem_of_getElem? (i := 420) rfl) rfl
set_option maxRecDepth 20000 in
theorem im_LB_event : Cond.instanceMethod y_LB_event ∈ GW := gw_t (List.mem_of_getElem? (i := 421) rfl) rfl
set_option maxRecDepth 20000 in
theorem se_LB_event : Cond.selects "EndingsLab" y_LB_event y_LB_event ∈ GW := gw_t (List.mem_of_getElem? (i := 422) rfl) rfl
set_option maxRecDepth 20000 in
theorem l_LB_91 : Cond.methodLink "EndingsLab" 91 y_EV_fromLast ∈ GW := gw_t (List.mem_of_getElem? (i := 424) rfl) rfl
set_option maxRecDepth 20000 in
theorem im_EV_fromLast : Cond.instanceMethod y_EV_fromLast ∈ GW := gw_t (List.mem_of_getElem? (i := 425) rfl) rfl
set_option maxRecDepth 20000 in
theorem se_EV_fromLast : Cond.selects "EndingsLab$EventLog" y_EV_fromLast y_EV_fromLast ∈ GW := gw_t (List.mem_of_getElem? (i := 426) rfl) rfl
set_option maxRecDepth 20000 in
theorem l_LA_57 : Cond.methodLink "EndingsLabLaw" 57 y_LB_most ∈ GW := gw_t (List.mem_of_getElem? (i := 429) rfl) rfl
set_option maxRecDepth 20000 in
theorem im_LB_most : Cond.instanceMethod y_LB_most ∈ GW := gw_t (List.mem_of_getElem? (i := 430) rfl) rfl
set_option maxRecDepth 20000 in
theorem se_LB_most : Cond.selects "EndingsLab" y_LB_most y_LB_most ∈ GW := gw_t (List.mem_of_getElem? (i := 431) rfl) rfl
set_option maxRecDepth 20000 in
theorem l_LA_10 : Cond.classLink "EndingsLabLaw" 10 "EndingsLabModel" ∈ GW := gw_t (List.mem_of_getElem? (i := 433) rfl) rfl
set_option maxRecDepth 20000 in
theorem it_MO : Cond.instantiable "EndingsLabModel" 25 ∈ GW := gw_t (List.mem_of_getElem? (i := 434) rfl) rfl
set_option maxRecDepth 20000 in
theorem l_LA_12 : Cond.methodLink "EndingsLabLaw" 12 y_MO_init ∈ GW := gw_t (List.mem_of_getElem? (i := 435) rfl) rfl
set_option maxRecDepth 20000 in
theorem im_MO_init : Cond.instanceMethod y_MO_init ∈ GW := gw_t (List.mem_of_getElem? (i := 436) rfl) rfl
set_option maxRecDepth 20000 in
theorem l_MO_1 : Cond.methodLink "EndingsLabModel" 1 objectInit ∈ GW := gw_t (List.mem_of_getElem? (i := 438) rfl) rfl
set_option maxRecDepth 20000 in
theorem l_MO_7 : Cond.fieldLink "EndingsLabModel" 7 "EndingsLabModel" "op" "[I" ∈ GW := gw_t (List.mem_of_getElem? (i := 439) rfl) rfl
set_option maxRecDepth 20000 in
theorem l_MO_13 : Cond.fieldLink "EndingsLabModel" 13 "EndingsLabModel" "arg" "[I" ∈ GW := gw_t (List.mem_of_getElem? (i := 440) rfl) rfl
set_option maxRecDepth 20000 in
theorem l_MO_16 : Cond.fieldLink "EndingsLabModel" 16 "EndingsLabModel" "size" "[I" ∈ GW := gw_t (List.mem_of_getElem? (i := 441) rfl) rfl
set_option maxRecDepth 20000 in
theorem l_MO_19 : Cond.fieldLink "EndingsLabModel" 19 "EndingsLabModel" "place" "I" ∈ GW := gw_t (List.mem_of_getElem? (i := 442) rfl) rfl
set_option maxRecDepth 20000 in
theorem l_MO_23 : Cond.fieldLink "EndingsLabModel" 23 "EndingsLabModel" "kind" "[I" ∈ GW := gw_t (List.mem_of_getElem? (i := 443) rfl) rfl
set_option maxRecDepth 20000 in
theorem l_MO_26 : Cond.fieldLink "EndingsLabModel" 26 "EndingsLabModel" "at" "[I" ∈ GW := gw_t (List.mem_of_getElem? (i := 444) rfl) rfl
set_option maxRecDepth 20000 in
theorem l_MO_29 : Cond.fieldLink "EndingsLabModel" 29 "EndingsLabModel" "data" "[I" ∈ GW := gw_t (List.mem_of_getElem? (i := 445) rfl) rfl
set_option maxRecDepth 20000 in
theorem l_MO_32 : Cond.fieldLink "EndingsLabModel" 32 "EndingsLabModel" "goes" "[I" ∈ GW := gw_t (List.mem_of_getElem? (i := 446) rfl) rfl
set_option maxRecDepth 20000 in
theorem l_MO_58 : Cond.fieldLink "EndingsLabModel" 58 "EndingsLabModel" "depth" "I" ∈ GW := gw_t (List.mem_of_getElem? (i := 447) rfl) rfl
set_option maxRecDepth 20000 in
theorem l_MO_86 : Cond.fieldLink "EndingsLabModel" 86 "EndingsLabModel" "next" "I" ∈ GW := gw_t (List.mem_of_getElem? (i := 448) rfl) rfl
set_option maxRecDepth 20000 in
theorem l_MO_121 : Cond.fieldLink "EndingsLabModel" 121 "EndingsLabModel" "account" "I" ∈ GW := gw_t (List.mem_of_getElem? (i := 449) rfl) rfl
set_option maxRecDepth 20000 in
theorem l_MO_92 : Cond.fieldLink "EndingsLabModel" 92 "EndingsLabModel" "ending" "I" ∈ GW := gw_t (List.mem_of_getElem? (i := 450) rfl) rfl
set_option maxRecDepth 20000 in
theorem l_MO_95 : Cond.fieldLink "EndingsLabModel" 95 "EndingsLabModel" "ended" "I" ∈ GW := gw_t (List.mem_of_getElem? (i := 451) rfl) rfl
set_option maxRecDepth 20000 in
theorem l_MO_111 : Cond.fieldLink "EndingsLabModel" 111 "EndingsLabModel" "frame" "I" ∈ GW := gw_t (List.mem_of_getElem? (i := 452) rfl) rfl
set_option maxRecDepth 20000 in
theorem l_MO_35 : Cond.fieldLink "EndingsLabModel" 35 "EndingsLabModel" "entered" "[I" ∈ GW := gw_t (List.mem_of_getElem? (i := 453) rfl) rfl
set_option maxRecDepth 20000 in
theorem l_MO_38 : Cond.fieldLink "EndingsLabModel" 38 "EndingsLabModel" "held" "[I" ∈ GW := gw_t (List.mem_of_getElem? (i := 454) rfl) rfl
set_option maxRecDepth 20000 in
theorem l_MO_41 : Cond.fieldLink "EndingsLabModel" 41 "EndingsLabModel" "faultKind" "[I" ∈ GW := gw_t (List.mem_of_getElem? (i := 455) rfl) rfl
set_option maxRecDepth 20000 in
theorem l_MO_44 : Cond.fieldLink "EndingsLabModel" 44 "EndingsLabModel" "faultCause" "[I" ∈ GW := gw_t (List.mem_of_getElem? (i := 456) rfl) rfl
set_option maxRecDepth 20000 in
theorem l_MO_89 : Cond.fieldLink "EndingsLabModel" 89 "EndingsLabModel" "faults" "I" ∈ GW := gw_t (List.mem_of_getElem? (i := 457) rfl) rfl
set_option maxRecDepth 20000 in
theorem l_MO_114 : Cond.fieldLink "EndingsLabModel" 114 "EndingsLabModel" "steps" "I" ∈ GW := gw_t (List.mem_of_getElem? (i := 458) rfl) rfl
set_option maxRecDepth 20000 in
theorem l_MO_104 : Cond.fieldLink "EndingsLabModel" 104 "EndingsLabModel" "most" "I" ∈ GW := gw_t (List.mem_of_getElem? (i := 459) rfl) rfl
set_option maxRecDepth 20000 in
theorem l_MO_173 : Cond.fieldLink "EndingsLabModel" 173 "EndingsLabModel" "value" "I" ∈ GW := gw_t (List.mem_of_getElem? (i := 460) rfl) rfl
set_option maxRecDepth 20000 in
theorem l_MO_164 : Cond.fieldLink "EndingsLabModel" 164 "EndingsLabModel" "raised" "I" ∈ GW := gw_t (List.mem_of_getElem? (i := 461) rfl) rfl
set_option maxRecDepth 20000 in
theorem l_MO_47 : Cond.fieldLink "EndingsLabModel" 47 "EndingsLabModel" "event" "[I" ∈ GW := gw_t (List.mem_of_getElem? (i := 462) rfl) rfl
set_option maxRecDepth 20000 in
theorem l_MO_143 : Cond.fieldLink "EndingsLabModel" 143 "EndingsLabModel" "events" "I" ∈ GW := gw_t (List.mem_of_getElem? (i := 463) rfl) rfl
set_option maxRecDepth 20000 in
theorem l_LA_17 : Cond.methodLink "EndingsLabLaw" 17 y_MO_token ∈ GW := gw_t (List.mem_of_getElem? (i := 515) rfl) rfl
set_option maxRecDepth 20000 in
theorem im_MO_token : Cond.instanceMethod y_MO_token ∈ GW := gw_t (List.mem_of_getElem? (i := 516) rfl) rfl
set_option maxRecDepth 20000 in
theorem se_MO_token : Cond.selects "EndingsLabModel" y_MO_token y_MO_token ∈ GW := gw_t (List.mem_of_getElem? (i := 517) rfl) rfl
set_option maxRecDepth 20000 in
theorem l_MO_50 : Cond.methodLink "EndingsLabModel" 50 y_MO_in ∈ GW := gw_t (List.mem_of_getElem? (i := 519) rfl) rfl
set_option maxRecDepth 20000 in
theorem st_MO_in : Cond.static y_MO_in ∈ GW := gw_t (List.mem_of_getElem? (i := 520) rfl) rfl
set_option maxRecDepth 20000 in
theorem l_MO_54 : Cond.methodLink "EndingsLabModel" 54 y_MO_fits ∈ GW := gw_t (List.mem_of_getElem? (i := 522) rfl) rfl
set_option maxRecDepth 20000 in
theorem st_MO_fits : Cond.static y_MO_fits ∈ GW := gw_t (List.mem_of_getElem? (i := 523) rfl) rfl
set_option maxRecDepth 20000 in
theorem l_LA_22 : Cond.methodLink "EndingsLabLaw" 22 y_MO_wipe ∈ GW := gw_t (List.mem_of_getElem? (i := 525) rfl) rfl
set_option maxRecDepth 20000 in
theorem im_MO_wipe : Cond.instanceMethod y_MO_wipe ∈ GW := gw_t (List.mem_of_getElem? (i := 526) rfl) rfl
set_option maxRecDepth 20000 in
theorem se_MO_wipe : Cond.selects "EndingsLabModel" y_MO_wipe y_MO_wipe ∈ GW := gw_t (List.mem_of_getElem? (i := 527) rfl) rfl
set_option maxRecDepth 20000 in
theorem l_LA_26 : Cond.methodLink "EndingsLabLaw" 26 y_MO_check ∈ GW := gw_t (List.mem_of_getElem? (i := 529) rfl) rfl
set_option maxRecDepth 20000 in
theorem im_MO_check : Cond.instanceMethod y_MO_check ∈ GW := gw_t (List.mem_of_getElem? (i := 530) rfl) rfl
set_option maxRecDepth 20000 in
theorem se_MO_check : Cond.selects "EndingsLabModel" y_MO_check y_MO_check ∈ GW := gw_t (List.mem_of_getElem? (i := 531) rfl) rfl
set_option maxRecDepth 20000 in
theorem l_MO_76 : Cond.methodLink "EndingsLabModel" 76 y_MO_good ∈ GW := gw_t (List.mem_of_getElem? (i := 533) rfl) rfl
set_option maxRecDepth 20000 in
theorem im_MO_good : Cond.instanceMethod y_MO_good ∈ GW := gw_t (List.mem_of_getElem? (i := 535) rfl) rfl
set_option maxRecDepth 20000 in
theorem l_MO_72 : Cond.methodLink "EndingsLabModel" 72 y_MO_firstWrong ∈ GW := gw_t (List.mem_of_getElem? (i := 537) rfl) rfl
set_option maxRecDepth 20000 in
theorem im_MO_firstWrong : Cond.instanceMethod y_MO_firstWrong ∈ GW := gw_t (List.mem_of_getElem? (i := 539) rfl) rfl
set_option maxRecDepth 20000 in
theorem l_MO_61 : Cond.methodLink "EndingsLabModel" 61 y_MO_openBlock ∈ GW := gw_t (List.mem_of_getElem? (i := 541) rfl) rfl
set_option maxRecDepth 20000 in
theorem im_MO_openBlock : Cond.instanceMethod y_MO_openBlock ∈ GW := gw_t (List.mem_of_getElem? (i := 543) rfl) rfl
set_option maxRecDepth 20000 in
theorem l_MO_65 : Cond.methodLink "EndingsLabModel" 65 y_MO_inside ∈ GW := gw_t (List.mem_of_getElem? (i := 545) rfl) rfl
set_option maxRecDepth 20000 in
theorem im_MO_inside : Cond.instanceMethod y_MO_inside ∈ GW := gw_t (List.mem_of_getElem? (i := 547) rfl) rfl
set_option maxRecDepth 20000 in
theorem l_MO_69 : Cond.methodLink "EndingsLabModel" 69 y_MO_opens ∈ GW := gw_t (List.mem_of_getElem? (i := 549) rfl) rfl
set_option maxRecDepth 20000 in
theorem st_MO_opens : Cond.static y_MO_opens ∈ GW := gw_t (List.mem_of_getElem? (i := 550) rfl) rfl
set_option maxRecDepth 20000 in
theorem l_LA_31 : Cond.methodLink "EndingsLabLaw" 31 y_MO_place ∈ GW := gw_t (List.mem_of_getElem? (i := 552) rfl) rfl
set_option maxRecDepth 20000 in
theorem im_MO_place : Cond.instanceMethod y_MO_place ∈ GW := gw_t (List.mem_of_getElem? (i := 553) rfl) rfl
set_option maxRecDepth 20000 in
theorem se_MO_place : Cond.selects "EndingsLabModel" y_MO_place y_MO_place ∈ GW := gw_t (List.mem_of_getElem? (i := 554) rfl) rfl
set_option maxRecDepth 20000 in
theorem l_LA_36 : Cond.methodLink "EndingsLabLaw" 36 y_MO_run ∈ GW := gw_t (List.mem_of_getElem? (i := 556) rfl) rfl
set_option maxRecDepth 20000 in
theorem im_MO_run : Cond.instanceMethod y_MO_run ∈ GW := gw_t (List.mem_of_getElem? (i := 557) rfl) rfl
set_option maxRecDepth 20000 in
theorem se_MO_run : Cond.selects "EndingsLabModel" y_MO_run y_MO_run ∈ GW := gw_t (List.mem_of_getElem? (i := 558) rfl) rfl
set_option maxRecDepth 20000 in
theorem l_MO_140 : Cond.methodLink "EndingsLabModel" 140 y_MO_begin ∈ GW := gw_t (List.mem_of_getElem? (i := 560) rfl) rfl
set_option maxRecDepth 20000 in
theorem im_MO_begin : Cond.instanceMethod y_MO_begin ∈ GW := gw_t (List.mem_of_getElem? (i := 562) rfl) rfl
set_option maxRecDepth 20000 in
theorem l_MO_107 : Cond.methodLink "EndingsLabModel" 107 y_MO_enter ∈ GW := gw_t (List.mem_of_getElem? (i := 564) rfl) rfl
set_option maxRecDepth 20000 in
theorem im_MO_enter : Cond.instanceMethod y_MO_enter ∈ GW := gw_t (List.mem_of_getElem? (i := 566) rfl) rfl
set_option maxRecDepth 20000 in
theorem l_MO_167 : Cond.methodLink "EndingsLabModel" 167 y_MO_close ∈ GW := gw_t (List.mem_of_getElem? (i := 568) rfl) rfl
set_option maxRecDepth 20000 in
theorem im_MO_close : Cond.instanceMethod y_MO_close ∈ GW := gw_t (List.mem_of_getElem? (i := 570) rfl) rfl
set_option maxRecDepth 20000 in
theorem l_MO_79 : Cond.methodLink "EndingsLabModel" 79 y_MO_behind ∈ GW := gw_t (List.mem_of_getElem? (i := 572) rfl) rfl
set_option maxRecDepth 20000 in
theorem im_MO_behind : Cond.instanceMethod y_MO_behind ∈ GW := gw_t (List.mem_of_getElem? (i := 574) rfl) rfl
set_option maxRecDepth 20000 in
theorem l_MO_149 : Cond.methodLink "EndingsLabModel" 149 y_MO_catcher ∈ GW := gw_t (List.mem_of_getElem? (i := 576) rfl) rfl
set_option maxRecDepth 20000 in
theorem im_MO_catcher : Cond.instanceMethod y_MO_catcher ∈ GW := gw_t (List.mem_of_getElem? (i := 578) rfl) rfl
set_option maxRecDepth 20000 in
theorem l_MO_82 : Cond.methodLink "EndingsLabModel" 82 y_MO_part ∈ GW := gw_t (List.mem_of_getElem? (i := 580) rfl) rfl
set_option maxRecDepth 20000 in
theorem im_MO_part : Cond.instanceMethod y_MO_part ∈ GW := gw_t (List.mem_of_getElem? (i := 582) rfl) rfl
set_option maxRecDepth 20000 in
theorem l_MO_161 : Cond.methodLink "EndingsLabModel" 161 y_MO_is ∈ GW := gw_t (List.mem_of_getElem? (i := 584) rfl) rfl
set_option maxRecDepth 20000 in
theorem st_MO_is : Cond.static y_MO_is ∈ GW := gw_t (List.mem_of_getElem? (i := 585) rfl) rfl
set_option maxRecDepth 20000 in
theorem l_MO_152 : Cond.methodLink "EndingsLabModel" 152 y_MO_lastOf ∈ GW := gw_t (List.mem_of_getElem? (i := 587) rfl) rfl
set_option maxRecDepth 20000 in
theorem im_MO_lastOf : Cond.instanceMethod y_MO_lastOf ∈ GW := gw_t (List.mem_of_getElem? (i := 589) rfl) rfl
set_option maxRecDepth 20000 in
theorem l_MO_146 : Cond.methodLink "EndingsLabModel" 146 y_MO_behindTry ∈ GW := gw_t (List.mem_of_getElem? (i := 591) rfl) rfl
set_option maxRecDepth 20000 in
theorem im_MO_behindTry : Cond.instanceMethod y_MO_behindTry ∈ GW := gw_t (List.mem_of_getElem? (i := 593) rfl) rfl
set_option maxRecDepth 20000 in
theorem l_MO_155 : Cond.methodLink "EndingsLabModel" 155 y_MO_closeLast ∈ GW := gw_t (List.mem_of_getElem? (i := 595) rfl) rfl
set_option maxRecDepth 20000 in
theorem im_MO_closeLast : Cond.instanceMethod y_MO_closeLast ∈ GW := gw_t (List.mem_of_getElem? (i := 597) rfl) rfl
set_option maxRecDepth 20000 in
theorem l_MO_101 : Cond.methodLink "EndingsLabModel" 101 y_MO_ends ∈ GW := gw_t (List.mem_of_getElem? (i := 599) rfl) rfl
set_option maxRecDepth 20000 in
theorem im_MO_ends : Cond.instanceMethod y_MO_ends ∈ GW := gw_t (List.mem_of_getElem? (i := 601) rfl) rfl
set_option maxRecDepth 20000 in
theorem l_MO_158 : Cond.methodLink "EndingsLabModel" 158 y_MO_closeRun ∈ GW := gw_t (List.mem_of_getElem? (i := 603) rfl) rfl
set_option maxRecDepth 20000 in
theorem im_MO_closeRun : Cond.instanceMethod y_MO_closeRun ∈ GW := gw_t (List.mem_of_getElem? (i := 605) rfl) rfl
set_option maxRecDepth 20000 in
theorem l_MO_124 : Cond.methodLink "EndingsLabModel" 124 y_MO_raise ∈ GW := gw_t (List.mem_of_getElem? (i := 607) rfl) rfl
set_option maxRecDepth 20000 in
theorem im_MO_raise : Cond.instanceMethod y_MO_raise ∈ GW := gw_t (List.mem_of_getElem? (i := 609) rfl) rfl
set_option maxRecDepth 20000 in
theorem l_MO_98 : Cond.methodLink "EndingsLabModel" 98 y_MO_made ∈ GW := gw_t (List.mem_of_getElem? (i := 611) rfl) rfl
set_option maxRecDepth 20000 in
theorem im_MO_made : Cond.instanceMethod y_MO_made ∈ GW := gw_t (List.mem_of_getElem? (i := 613) rfl) rfl
set_option maxRecDepth 20000 in
theorem l_MO_170 : Cond.methodLink "EndingsLabModel" 170 y_MO_item ∈ GW := gw_t (List.mem_of_getElem? (i := 615) rfl) rfl
set_option maxRecDepth 20000 in
theorem im_MO_item : Cond.instanceMethod y_MO_item ∈ GW := gw_t (List.mem_of_getElem? (i := 617) rfl) rfl
set_option maxRecDepth 20000 in
theorem l_MO_117 : Cond.methodLink "EndingsLabModel" 117 y_MO_note ∈ GW := gw_t (List.mem_of_getElem? (i := 619) rfl) rfl
set_option maxRecDepth 20000 in
theorem im_MO_note : Cond.instanceMethod y_MO_note ∈ GW := gw_t (List.mem_of_getElem? (i := 621) rfl) rfl
set_option maxRecDepth 20000 in
theorem l_MO_127 : Cond.methodLink "EndingsLabModel" 127 y_MO_caught ∈ GW := gw_t (List.mem_of_getElem? (i := 623) rfl) rfl
set_option maxRecDepth 20000 in
theorem im_MO_caught : Cond.instanceMethod y_MO_caught ∈ GW := gw_t (List.mem_of_getElem? (i := 625) rfl) rfl
set_option maxRecDepth 20000 in
theorem l_MO_131 : Cond.methodLink "EndingsLabModel" 131 y_MO_hold ∈ GW := gw_t (List.mem_of_getElem? (i := 627) rfl) rfl
set_option maxRecDepth 20000 in
theorem im_MO_hold : Cond.instanceMethod y_MO_hold ∈ GW := gw_t (List.mem_of_getElem? (i := 629) rfl) rfl
set_option maxRecDepth 20000 in
theorem l_MO_134 : Cond.methodLink "EndingsLabModel" 134 y_MO_leave ∈ GW := gw_t (List.mem_of_getElem? (i := 631) rfl) rfl
set_option maxRecDepth 20000 in
theorem im_MO_leave : Cond.instanceMethod y_MO_leave ∈ GW := gw_t (List.mem_of_getElem? (i := 633) rfl) rfl
set_option maxRecDepth 20000 in
theorem l_MO_137 : Cond.methodLink "EndingsLabModel" 137 y_MO_call ∈ GW := gw_t (List.mem_of_getElem? (i := 635) rfl) rfl
set_option maxRecDepth 20000 in
theorem im_MO_call : Cond.instanceMethod y_MO_call ∈ GW := gw_t (List.mem_of_getElem? (i := 637) rfl) rfl
set_option maxRecDepth 20000 in
theorem l_LA_40 : Cond.methodLink "EndingsLabLaw" 40 y_MO_value ∈ GW := gw_t (List.mem_of_getElem? (i := 639) rfl) rfl
set_option maxRecDepth 20000 in
theorem im_MO_value : Cond.instanceMethod y_MO_value ∈ GW := gw_t (List.mem_of_getElem? (i := 640) rfl) rfl
set_option maxRecDepth 20000 in
theorem se_MO_value : Cond.selects "EndingsLabModel" y_MO_value y_MO_value ∈ GW := gw_t (List.mem_of_getElem? (i := 641) rfl) rfl
set_option maxRecDepth 20000 in
theorem l_LA_44 : Cond.methodLink "EndingsLabLaw" 44 y_MO_fault ∈ GW := gw_t (List.mem_of_getElem? (i := 643) rfl) rfl
set_option maxRecDepth 20000 in
theorem im_MO_fault : Cond.instanceMethod y_MO_fault ∈ GW := gw_t (List.mem_of_getElem? (i := 644) rfl) rfl
set_option maxRecDepth 20000 in
theorem se_MO_fault : Cond.selects "EndingsLabModel" y_MO_fault y_MO_fault ∈ GW := gw_t (List.mem_of_getElem? (i := 645) rfl) rfl
set_option maxRecDepth 20000 in
theorem l_LA_48 : Cond.methodLink "EndingsLabLaw" 48 y_MO_steps ∈ GW := gw_t (List.mem_of_getElem? (i := 647) rfl) rfl
set_option maxRecDepth 20000 in
theorem im_MO_steps : Cond.instanceMethod y_MO_steps ∈ GW := gw_t (List.mem_of_getElem? (i := 648) rfl) rfl
set_option maxRecDepth 20000 in
theorem se_MO_steps : Cond.selects "EndingsLabModel" y_MO_steps y_MO_steps ∈ GW := gw_t (List.mem_of_getElem? (i := 649) rfl) rfl
set_option maxRecDepth 20000 in
theorem l_LA_52 : Cond.methodLink "EndingsLabLaw" 52 y_MO_events ∈ GW := gw_t (List.mem_of_getElem? (i := 651) rfl) rfl
set_option maxRecDepth 20000 in
theorem im_MO_events : Cond.instanceMethod y_MO_events ∈ GW := gw_t (List.mem_of_getElem? (i := 652) rfl) rfl
set_option maxRecDepth 20000 in
theorem se_MO_events : Cond.selects "EndingsLabModel" y_MO_events y_MO_events ∈ GW := gw_t (List.mem_of_getElem? (i := 653) rfl) rfl
set_option maxRecDepth 20000 in
theorem l_LA_56 : Cond.methodLink "EndingsLabLaw" 56 y_MO_event ∈ GW := gw_t (List.mem_of_getElem? (i := 655) rfl) rfl
set_option maxRecDepth 20000 in
theorem im_MO_event : Cond.instanceMethod y_MO_event ∈ GW := gw_t (List.mem_of_getElem? (i := 656) rfl) rfl
set_option maxRecDepth 20000 in
theorem se_MO_event : Cond.selects "EndingsLabModel" y_MO_event y_MO_event ∈ GW := gw_t (List.mem_of_getElem? (i := 657) rfl) rfl
set_option maxRecDepth 20000 in
theorem l_LA_60 : Cond.methodLink "EndingsLabLaw" 60 y_MO_most ∈ GW := gw_t (List.mem_of_getElem? (i := 659) rfl) rfl
set_option maxRecDepth 20000 in
theorem im_MO_most : Cond.instanceMethod y_MO_most ∈ GW := gw_t (List.mem_of_getElem? (i := 660) rfl) rfl
set_option maxRecDepth 20000 in
theorem se_MO_most : Cond.selects "EndingsLabModel" y_MO_most y_MO_most ∈ GW := gw_t (List.mem_of_getElem? (i := 661) rfl) rfl
theorem se_LB_judge : Cond.selects "EndingsLab" y_LB_judge y_LB_judge ∈ GW := gw_s (q := (y_LB_judge, 3)) (List.mem_of_getElem? (i := 0) rfl)
theorem se_CH_open : Cond.selects "EndingsLab$Checker" y_CH_open y_CH_open ∈ GW := gw_s (q := (y_CH_open, 5)) (List.mem_of_getElem? (i := 1) rfl)
theorem se_CH_mayStand : Cond.selects "EndingsLab$Checker" y_CH_mayStand y_CH_mayStand ∈ GW := gw_s (q := (y_CH_mayStand, 5)) (List.mem_of_getElem? (i := 2) rfl)
theorem se_CH_take : Cond.selects "EndingsLab$Checker" y_CH_take y_CH_take ∈ GW := gw_s (q := (y_CH_take, 5)) (List.mem_of_getElem? (i := 3) rfl)
theorem se_CH_close : Cond.selects "EndingsLab$Checker" y_CH_close y_CH_close ∈ GW := gw_s (q := (y_CH_close, 5)) (List.mem_of_getElem? (i := 4) rfl)
theorem se_LB_judgeAll : Cond.selects "EndingsLab" y_LB_judgeAll y_LB_judgeAll ∈ GW := gw_s (q := (y_LB_judgeAll, 3)) (List.mem_of_getElem? (i := 5) rfl)
theorem se_MA_doProcedure : Cond.selects "EndingsLab$Machine" y_MA_doProcedure y_MA_doProcedure ∈ GW := gw_s (q := (y_MA_doProcedure, 8)) (List.mem_of_getElem? (i := 6) rfl)
theorem se_MA_doBlock : Cond.selects "EndingsLab$Machine" y_MA_doBlock y_MA_doBlock ∈ GW := gw_s (q := (y_MA_doBlock, 8)) (List.mem_of_getElem? (i := 7) rfl)
theorem se_MA_textOf : Cond.selects "EndingsLab$Machine" y_MA_textOf y_MA_textOf ∈ GW := gw_s (q := (y_MA_textOf, 8)) (List.mem_of_getElem? (i := 8) rfl)
theorem se_MA_doItem : Cond.selects "EndingsLab$Machine" y_MA_doItem y_MA_doItem ∈ GW := gw_s (q := (y_MA_doItem, 8)) (List.mem_of_getElem? (i := 9) rfl)
theorem se_MA_doDivide : Cond.selects "EndingsLab$Machine" y_MA_doDivide y_MA_doDivide ∈ GW := gw_s (q := (y_MA_doDivide, 8)) (List.mem_of_getElem? (i := 10) rfl)
theorem se_MA_raise : Cond.selects "EndingsLab$Machine" y_MA_raise y_MA_raise ∈ GW := gw_s (q := (y_MA_raise, 8)) (List.mem_of_getElem? (i := 11) rfl)
theorem se_MA_doTimes : Cond.selects "EndingsLab$Machine" y_MA_doTimes y_MA_doTimes ∈ GW := gw_s (q := (y_MA_doTimes, 8)) (List.mem_of_getElem? (i := 12) rfl)
theorem se_MA_doTry : Cond.selects "EndingsLab$Machine" y_MA_doTry y_MA_doTry ∈ GW := gw_s (q := (y_MA_doTry, 8)) (List.mem_of_getElem? (i := 13) rfl)
theorem se_MA_catches : Cond.selects "EndingsLab$Machine" y_MA_catches y_MA_catches ∈ GW := gw_s (q := (y_MA_catches, 8)) (List.mem_of_getElem? (i := 14) rfl)
theorem se_MA_doCatch : Cond.selects "EndingsLab$Machine" y_MA_doCatch y_MA_doCatch ∈ GW := gw_s (q := (y_MA_doCatch, 8)) (List.mem_of_getElem? (i := 15) rfl)
theorem se_MA_doLast : Cond.selects "EndingsLab$Machine" y_MA_doLast y_MA_doLast ∈ GW := gw_s (q := (y_MA_doLast, 8)) (List.mem_of_getElem? (i := 16) rfl)
theorem se_MA_doLock : Cond.selects "EndingsLab$Machine" y_MA_doLock y_MA_doLock ∈ GW := gw_s (q := (y_MA_doLock, 8)) (List.mem_of_getElem? (i := 17) rfl)
theorem se_MA_doEnter : Cond.selects "EndingsLab$Machine" y_MA_doEnter y_MA_doEnter ∈ GW := gw_s (q := (y_MA_doEnter, 8)) (List.mem_of_getElem? (i := 18) rfl)
theorem se_MA_doLeave : Cond.selects "EndingsLab$Machine" y_MA_doLeave y_MA_doLeave ∈ GW := gw_s (q := (y_MA_doLeave, 8)) (List.mem_of_getElem? (i := 19) rfl)
theorem se_MA_doCall : Cond.selects "EndingsLab$Machine" y_MA_doCall y_MA_doCall ∈ GW := gw_s (q := (y_MA_doCall, 8)) (List.mem_of_getElem? (i := 20) rfl)
theorem se_MA_releaseEntered : Cond.selects "EndingsLab$Machine" y_MA_releaseEntered y_MA_releaseEntered ∈ GW := gw_s (q := (y_MA_releaseEntered, 8)) (List.mem_of_getElem? (i := 21) rfl)
theorem se_MO_good : Cond.selects "EndingsLabModel" y_MO_good y_MO_good ∈ GW := gw_s (q := (y_MO_good, 25)) (List.mem_of_getElem? (i := 22) rfl)
theorem se_MO_firstWrong : Cond.selects "EndingsLabModel" y_MO_firstWrong y_MO_firstWrong ∈ GW := gw_s (q := (y_MO_firstWrong, 25)) (List.mem_of_getElem? (i := 23) rfl)
theorem se_MO_openBlock : Cond.selects "EndingsLabModel" y_MO_openBlock y_MO_openBlock ∈ GW := gw_s (q := (y_MO_openBlock, 25)) (List.mem_of_getElem? (i := 24) rfl)
theorem se_MO_inside : Cond.selects "EndingsLabModel" y_MO_inside y_MO_inside ∈ GW := gw_s (q := (y_MO_inside, 25)) (List.mem_of_getElem? (i := 25) rfl)
theorem se_MO_begin : Cond.selects "EndingsLabModel" y_MO_begin y_MO_begin ∈ GW := gw_s (q := (y_MO_begin, 25)) (List.mem_of_getElem? (i := 26) rfl)
theorem se_MO_enter : Cond.selects "EndingsLabModel" y_MO_enter y_MO_enter ∈ GW := gw_s (q := (y_MO_enter, 25)) (List.mem_of_getElem? (i := 27) rfl)
theorem se_MO_close : Cond.selects "EndingsLabModel" y_MO_close y_MO_close ∈ GW := gw_s (q := (y_MO_close, 25)) (List.mem_of_getElem? (i := 28) rfl)
theorem se_MO_behind : Cond.selects "EndingsLabModel" y_MO_behind y_MO_behind ∈ GW := gw_s (q := (y_MO_behind, 25)) (List.mem_of_getElem? (i := 29) rfl)
theorem se_MO_catcher : Cond.selects "EndingsLabModel" y_MO_catcher y_MO_catcher ∈ GW := gw_s (q := (y_MO_catcher, 25)) (List.mem_of_getElem? (i := 30) rfl)
theorem se_MO_part : Cond.selects "EndingsLabModel" y_MO_part y_MO_part ∈ GW := gw_s (q := (y_MO_part, 25)) (List.mem_of_getElem? (i := 31) rfl)
theorem se_MO_lastOf : Cond.selects "EndingsLabModel" y_MO_lastOf y_MO_lastOf ∈ GW := gw_s (q := (y_MO_lastOf, 25)) (List.mem_of_getElem? (i := 32) rfl)
theorem se_MO_behindTry : Cond.selects "EndingsLabModel" y_MO_behindTry y_MO_behindTry ∈ GW := gw_s (q := (y_MO_behindTry, 25)) (List.mem_of_getElem? (i := 33) rfl)
theorem se_MO_closeLast : Cond.selects "EndingsLabModel" y_MO_closeLast y_MO_closeLast ∈ GW := gw_s (q := (y_MO_closeLast, 25)) (List.mem_of_getElem? (i := 34) rfl)
theorem se_MO_ends : Cond.selects "EndingsLabModel" y_MO_ends y_MO_ends ∈ GW := gw_s (q := (y_MO_ends, 25)) (List.mem_of_getElem? (i := 35) rfl)
theorem se_MO_closeRun : Cond.selects "EndingsLabModel" y_MO_closeRun y_MO_closeRun ∈ GW := gw_s (q := (y_MO_closeRun, 25)) (List.mem_of_getElem? (i := 36) rfl)
theorem se_MO_raise : Cond.selects "EndingsLabModel" y_MO_raise y_MO_raise ∈ GW := gw_s (q := (y_MO_raise, 25)) (List.mem_of_getElem? (i := 37) rfl)
theorem se_MO_made : Cond.selects "EndingsLabModel" y_MO_made y_MO_made ∈ GW := gw_s (q := (y_MO_made, 25)) (List.mem_of_getElem? (i := 38) rfl)
theorem se_MO_item : Cond.selects "EndingsLabModel" y_MO_item y_MO_item ∈ GW := gw_s (q := (y_MO_item, 25)) (List.mem_of_getElem? (i := 39) rfl)
theorem se_MO_note : Cond.selects "EndingsLabModel" y_MO_note y_MO_note ∈ GW := gw_s (q := (y_MO_note, 25)) (List.mem_of_getElem? (i := 40) rfl)
theorem se_MO_caught : Cond.selects "EndingsLabModel" y_MO_caught y_MO_caught ∈ GW := gw_s (q := (y_MO_caught, 25)) (List.mem_of_getElem? (i := 41) rfl)
theorem se_MO_hold : Cond.selects "EndingsLabModel" y_MO_hold y_MO_hold ∈ GW := gw_s (q := (y_MO_hold, 25)) (List.mem_of_getElem? (i := 42) rfl)
theorem se_MO_leave : Cond.selects "EndingsLabModel" y_MO_leave y_MO_leave ∈ GW := gw_s (q := (y_MO_leave, 25)) (List.mem_of_getElem? (i := 43) rfl)
theorem se_MO_call : Cond.selects "EndingsLabModel" y_MO_call y_MO_call ∈ GW := gw_s (q := (y_MO_call, 25)) (List.mem_of_getElem? (i := 44) rfl)
def NW : List Cond := [Cond.methodLinkNest "EndingsLab$Machine" 25 y_FA_init "EndingsLab",
  Cond.methodLinkNest "EndingsLab$Machine" 32 y_LO_init "EndingsLab",
  Cond.fieldLinkNest "EndingsLab" 98 "EndingsLab$Locks" "greatest" "I" "EndingsLab",
  Cond.methodLinkNest "EndingsLab$Machine" 39 y_EV_init "EndingsLab",
  Cond.fieldLinkNest "EndingsLab" 86 "EndingsLab$EventLog" "noted" "I" "EndingsLab",
  Cond.methodLinkNest "EndingsLab$Machine" 48 y_TE_init "EndingsLab",
  Cond.fieldLinkNest "EndingsLab$Checker" 38 "EndingsLab$Text" "ops" "[I" "EndingsLab",
  Cond.fieldLinkNest "EndingsLab$Machine" 133 "EndingsLab$Text" "ops" "[I" "EndingsLab",
  Cond.fieldLinkNest "EndingsLab$Checker" 55 "EndingsLab$Text" "numbers" "[I" "EndingsLab",
  Cond.fieldLinkNest "EndingsLab$Machine" 130 "EndingsLab$Text" "numbers" "[I" "EndingsLab",
  Cond.fieldLinkNest "EndingsLab$Checker" 49 "EndingsLab$Text" "ends" "[I" "EndingsLab",
  Cond.fieldLinkNest "EndingsLab$Machine" 120 "EndingsLab$Text" "ends" "[I" "EndingsLab",
  Cond.fieldLinkNest "EndingsLab$Checker" 33 "EndingsLab$Text" "size" "I" "EndingsLab",
  Cond.fieldLinkNest "EndingsLab" 43 "EndingsLab$Text" "size" "I" "EndingsLab",
  Cond.fieldLinkNest "EndingsLab$Machine" 117 "EndingsLab$Text" "size" "I" "EndingsLab",
  Cond.methodLinkNest "EndingsLab$Machine" 49 y_FR_init "EndingsLab",
  Cond.fieldLinkNest "EndingsLab$Machine" 103 "EndingsLab$Frame" "entered" "[I" "EndingsLab",
  Cond.fieldLinkNest "EndingsLab$Machine" 110 "EndingsLab$Frame" "procedure" "I" "EndingsLab",
  Cond.fieldLinkNest "EndingsLab$Machine" 89 "EndingsLab$Frame" "account" "I" "EndingsLab",
  Cond.fieldLinkNest "EndingsLab$Machine" 76 "EndingsLab$Frame" "carried" "I" "EndingsLab",
  Cond.fieldLinkNest "EndingsLab$Machine" 154 "EndingsLab$Frame" "caught" "I" "EndingsLab",
  Cond.fieldLinkNest "EndingsLab" 34 "EndingsLab$Machine" "texts" "[LEndingsLab$Text;" "EndingsLab",
  Cond.fieldLinkNest "EndingsLab" 64 "EndingsLab$Machine" "faults" "LEndingsLab$Faults;" "EndingsLab",
  Cond.fieldLinkNest "EndingsLab" 94 "EndingsLab$Machine" "locks" "LEndingsLab$Locks;" "EndingsLab",
  Cond.fieldLinkNest "EndingsLab" 82 "EndingsLab$Machine" "log" "LEndingsLab$EventLog;" "EndingsLab",
  Cond.fieldLinkNest "EndingsLab" 79 "EndingsLab$Machine" "begun" "I" "EndingsLab",
  Cond.fieldLinkNest "EndingsLab" 61 "EndingsLab$Machine" "cameTo" "I" "EndingsLab",
  Cond.fieldLinkNest "EndingsLab" 68 "EndingsLab$Machine" "endedBy" "I" "EndingsLab",
  Cond.methodLinkNest "EndingsLab" 18 y_CH_init "EndingsLab",
  Cond.methodLinkNest "EndingsLab$Faults" 22 y_LB_isBelow "EndingsLab",
  Cond.methodLinkNest "EndingsLab$Machine" 200 y_LB_isOfKind "EndingsLab",
  Cond.methodLinkNest "EndingsLab$EventLog" 25 y_LB_isBelow "EndingsLab"]
theorem k_MA_25 : Cond.methodLinkNest "EndingsLab$Machine" 25 y_FA_init "EndingsLab" ∈ NW := List.mem_of_getElem? (i := 0) rfl
theorem k_MA_32 : Cond.methodLinkNest "EndingsLab$Machine" 32 y_LO_init "EndingsLab" ∈ NW := List.mem_of_getElem? (i := 1) rfl
theorem k_LB_98 : Cond.fieldLinkNest "EndingsLab" 98 "EndingsLab$Locks" "greatest" "I" "EndingsLab" ∈ NW := List.mem_of_getElem? (i := 2) rfl
theorem k_MA_39 : Cond.methodLinkNest "EndingsLab$Machine" 39 y_EV_init "EndingsLab" ∈ NW := List.mem_of_getElem? (i := 3) rfl
theorem k_LB_86 : Cond.fieldLinkNest "EndingsLab" 86 "EndingsLab$EventLog" "noted" "I" "EndingsLab" ∈ NW := List.mem_of_getElem? (i := 4) rfl
theorem k_MA_48 : Cond.methodLinkNest "EndingsLab$Machine" 48 y_TE_init "EndingsLab" ∈ NW := List.mem_of_getElem? (i := 5) rfl
theorem k_CH_38 : Cond.fieldLinkNest "EndingsLab$Checker" 38 "EndingsLab$Text" "ops" "[I" "EndingsLab" ∈ NW := List.mem_of_getElem? (i := 6) rfl
theorem k_MA_133 : Cond.fieldLinkNest "EndingsLab$Machine" 133 "EndingsLab$Text" "ops" "[I" "EndingsLab" ∈ NW := List.mem_of_getElem? (i := 7) rfl
theorem k_CH_55 : Cond.fieldLinkNest "EndingsLab$Checker" 55 "EndingsLab$Text" "numbers" "[I" "EndingsLab" ∈ NW := List.mem_of_getElem? (i := 8) rfl
theorem k_MA_130 : Cond.fieldLinkNest "EndingsLab$Machine" 130 "EndingsLab$Text" "numbers" "[I" "EndingsLab" ∈ NW := List.mem_of_getElem? (i := 9) rfl
theorem k_CH_49 : Cond.fieldLinkNest "EndingsLab$Checker" 49 "EndingsLab$Text" "ends" "[I" "EndingsLab" ∈ NW := List.mem_of_getElem? (i := 10) rfl
theorem k_MA_120 : Cond.fieldLinkNest "EndingsLab$Machine" 120 "EndingsLab$Text" "ends" "[I" "EndingsLab" ∈ NW := List.mem_of_getElem? (i := 11) rfl
theorem k_CH_33 : Cond.fieldLinkNest "EndingsLab$Checker" 33 "EndingsLab$Text" "size" "I" "EndingsLab" ∈ NW := List.mem_of_getElem? (i := 12) rfl
theorem k_LB_43 : Cond.fieldLinkNest "EndingsLab" 43 "EndingsLab$Text" "size" "I" "EndingsLab" ∈ NW := List.mem_of_getElem? (i := 13) rfl
theorem k_MA_117 : Cond.fieldLinkNest "EndingsLab$Machine" 117 "EndingsLab$Text" "size" "I" "EndingsLab" ∈ NW := List.mem_of_getElem? (i := 14) rfl
theorem k_MA_49 : Cond.methodLinkNest "EndingsLab$Machine" 49 y_FR_init "EndingsLab" ∈ NW := List.mem_of_getElem? (i := 15) rfl
theorem k_MA_103 : Cond.fieldLinkNest "EndingsLab$Machine" 103 "EndingsLab$Frame" "entered" "[I" "EndingsLab" ∈ NW := List.mem_of_getElem? (i := 16) rfl
theorem k_MA_110 : Cond.fieldLinkNest "EndingsLab$Machine" 110 "EndingsLab$Frame" "procedure" "I" "EndingsLab" ∈ NW := List.mem_of_getElem? (i := 17) rfl
theorem k_MA_89 : Cond.fieldLinkNest "EndingsLab$Machine" 89 "EndingsLab$Frame" "account" "I" "EndingsLab" ∈ NW := List.mem_of_getElem? (i := 18) rfl
theorem k_MA_76 : Cond.fieldLinkNest "EndingsLab$Machine" 76 "EndingsLab$Frame" "carried" "I" "EndingsLab" ∈ NW := List.mem_of_getElem? (i := 19) rfl
theorem k_MA_154 : Cond.fieldLinkNest "EndingsLab$Machine" 154 "EndingsLab$Frame" "caught" "I" "EndingsLab" ∈ NW := List.mem_of_getElem? (i := 20) rfl
theorem k_LB_34 : Cond.fieldLinkNest "EndingsLab" 34 "EndingsLab$Machine" "texts" "[LEndingsLab$Text;" "EndingsLab" ∈ NW := List.mem_of_getElem? (i := 21) rfl
theorem k_LB_64 : Cond.fieldLinkNest "EndingsLab" 64 "EndingsLab$Machine" "faults" "LEndingsLab$Faults;" "EndingsLab" ∈ NW := List.mem_of_getElem? (i := 22) rfl
theorem k_LB_94 : Cond.fieldLinkNest "EndingsLab" 94 "EndingsLab$Machine" "locks" "LEndingsLab$Locks;" "EndingsLab" ∈ NW := List.mem_of_getElem? (i := 23) rfl
theorem k_LB_82 : Cond.fieldLinkNest "EndingsLab" 82 "EndingsLab$Machine" "log" "LEndingsLab$EventLog;" "EndingsLab" ∈ NW := List.mem_of_getElem? (i := 24) rfl
theorem k_LB_79 : Cond.fieldLinkNest "EndingsLab" 79 "EndingsLab$Machine" "begun" "I" "EndingsLab" ∈ NW := List.mem_of_getElem? (i := 25) rfl
theorem k_LB_61 : Cond.fieldLinkNest "EndingsLab" 61 "EndingsLab$Machine" "cameTo" "I" "EndingsLab" ∈ NW := List.mem_of_getElem? (i := 26) rfl
theorem k_LB_68 : Cond.fieldLinkNest "EndingsLab" 68 "EndingsLab$Machine" "endedBy" "I" "EndingsLab" ∈ NW := List.mem_of_getElem? (i := 27) rfl
theorem k_LB_18 : Cond.methodLinkNest "EndingsLab" 18 y_CH_init "EndingsLab" ∈ NW := List.mem_of_getElem? (i := 28) rfl
theorem k_FA_22 : Cond.methodLinkNest "EndingsLab$Faults" 22 y_LB_isBelow "EndingsLab" ∈ NW := List.mem_of_getElem? (i := 29) rfl
theorem k_MA_200 : Cond.methodLinkNest "EndingsLab$Machine" 200 y_LB_isOfKind "EndingsLab" ∈ NW := List.mem_of_getElem? (i := 30) rfl
theorem k_EV_25 : Cond.methodLinkNest "EndingsLab$EventLog" 25 y_LB_isBelow "EndingsLab" ∈ NW := List.mem_of_getElem? (i := 31) rfl
theorem nw_in_0 : Cond.methodLinkNest "EndingsLab$Machine" 25 y_FA_init "EndingsLab" ∈ lw_tbl := List.mem_append_right _ (List.mem_of_getElem? (i := 33) rfl)
theorem nw_in_1 : Cond.methodLinkNest "EndingsLab$Machine" 32 y_LO_init "EndingsLab" ∈ lw_tbl := List.mem_append_right _ (List.mem_of_getElem? (i := 50) rfl)
theorem nw_in_2 : Cond.fieldLinkNest "EndingsLab" 98 "EndingsLab$Locks" "greatest" "I" "EndingsLab" ∈ lw_tbl := List.mem_append_right _ (List.mem_of_getElem? (i := 57) rfl)
theorem nw_in_3 : Cond.methodLinkNest "EndingsLab$Machine" 39 y_EV_init "EndingsLab" ∈ lw_tbl := List.mem_append_right _ (List.mem_of_getElem? (i := 67) rfl)
theorem nw_in_4 : Cond.fieldLinkNest "EndingsLab" 86 "EndingsLab$EventLog" "noted" "I" "EndingsLab" ∈ lw_tbl := List.mem_append_right _ (List.mem_of_getElem? (i := 73) rfl)
theorem nw_in_5 : Cond.methodLinkNest "EndingsLab$Machine" 48 y_TE_init "EndingsLab" ∈ lw_tbl := List.mem_append_right _ (List.mem_of_getElem? (i := 80) rfl)
theorem nw_in_6 : Cond.fieldLinkNest "EndingsLab$Checker" 38 "EndingsLab$Text" "ops" "[I" "EndingsLab" ∈ lw_tbl := List.mem_append_right _ (List.mem_of_getElem? (i := 85) rfl)
theorem nw_in_7 : Cond.fieldLinkNest "EndingsLab$Machine" 133 "EndingsLab$Text" "ops" "[I" "EndingsLab" ∈ lw_tbl := List.mem_append_right _ (List.mem_of_getElem? (i := 86) rfl)
theorem nw_in_8 : Cond.fieldLinkNest "EndingsLab$Checker" 55 "EndingsLab$Text" "numbers" "[I" "EndingsLab" ∈ lw_tbl := List.mem_append_right _ (List.mem_of_getElem? (i := 88) rfl)
theorem nw_in_9 : Cond.fieldLinkNest "EndingsLab$Machine" 130 "EndingsLab$Text" "numbers" "[I" "EndingsLab" ∈ lw_tbl := List.mem_append_right _ (List.mem_of_getElem? (i := 89) rfl)
theorem nw_in_10 : Cond.fieldLinkNest "EndingsLab$Checker" 49 "EndingsLab$Text" "ends" "[I" "EndingsLab" ∈ lw_tbl := List.mem_append_right _ (List.mem_of_getElem? (i := 91) rfl)
theorem nw_in_11 : Cond.fieldLinkNest "EndingsLab$Machine" 120 "EndingsLab$Text" "ends" "[I" "EndingsLab" ∈ lw_tbl := List.mem_append_right _ (List.mem_of_getElem? (i := 92) rfl)
theorem nw_in_12 : Cond.fieldLinkNest "EndingsLab$Checker" 33 "EndingsLab$Text" "size" "I" "EndingsLab" ∈ lw_tbl := List.mem_append_right _ (List.mem_of_getElem? (i := 94) rfl)
theorem nw_in_13 : Cond.fieldLinkNest "EndingsLab" 43 "EndingsLab$Text" "size" "I" "EndingsLab" ∈ lw_tbl := List.mem_append_right _ (List.mem_of_getElem? (i := 95) rfl)
theorem nw_in_14 : Cond.fieldLinkNest "EndingsLab$Machine" 117 "EndingsLab$Text" "size" "I" "EndingsLab" ∈ lw_tbl := List.mem_append_right _ (List.mem_of_getElem? (i := 96) rfl)
theorem nw_in_15 : Cond.methodLinkNest "EndingsLab$Machine" 49 y_FR_init "EndingsLab" ∈ lw_tbl := List.mem_append_right _ (List.mem_of_getElem? (i := 107) rfl)
theorem nw_in_16 : Cond.fieldLinkNest "EndingsLab$Machine" 103 "EndingsLab$Frame" "entered" "[I" "EndingsLab" ∈ lw_tbl := List.mem_append_right _ (List.mem_of_getElem? (i := 112) rfl)
theorem nw_in_17 : Cond.fieldLinkNest "EndingsLab$Machine" 110 "EndingsLab$Frame" "procedure" "I" "EndingsLab" ∈ lw_tbl := List.mem_append_right _ (List.mem_of_getElem? (i := 114) rfl)
theorem nw_in_18 : Cond.fieldLinkNest "EndingsLab$Machine" 89 "EndingsLab$Frame" "account" "I" "EndingsLab" ∈ lw_tbl := List.mem_append_right _ (List.mem_of_getElem? (i := 116) rfl)
theorem nw_in_19 : Cond.fieldLinkNest "EndingsLab$Machine" 76 "EndingsLab$Frame" "carried" "I" "EndingsLab" ∈ lw_tbl := List.mem_append_right _ (List.mem_of_getElem? (i := 118) rfl)
theorem nw_in_20 : Cond.fieldLinkNest "EndingsLab$Machine" 154 "EndingsLab$Frame" "caught" "I" "EndingsLab" ∈ lw_tbl := List.mem_append_right _ (List.mem_of_getElem? (i := 120) rfl)
theorem nw_in_21 : Cond.fieldLinkNest "EndingsLab" 34 "EndingsLab$Machine" "texts" "[LEndingsLab$Text;" "EndingsLab" ∈ lw_tbl := List.mem_append_right _ (List.mem_of_getElem? (i := 133) rfl)
theorem nw_in_22 : Cond.fieldLinkNest "EndingsLab" 64 "EndingsLab$Machine" "faults" "LEndingsLab$Faults;" "EndingsLab" ∈ lw_tbl := List.mem_append_right _ (List.mem_of_getElem? (i := 136) rfl)
theorem nw_in_23 : Cond.fieldLinkNest "EndingsLab" 94 "EndingsLab$Machine" "locks" "LEndingsLab$Locks;" "EndingsLab" ∈ lw_tbl := List.mem_append_right _ (List.mem_of_getElem? (i := 138) rfl)
theorem nw_in_24 : Cond.fieldLinkNest "EndingsLab" 82 "EndingsLab$Machine" "log" "LEndingsLab$EventLog;" "EndingsLab" ∈ lw_tbl := List.mem_append_right _ (List.mem_of_getElem? (i := 140) rfl)
theorem nw_in_25 : Cond.fieldLinkNest "EndingsLab" 79 "EndingsLab$Machine" "begun" "I" "EndingsLab" ∈ lw_tbl := List.mem_append_right _ (List.mem_of_getElem? (i := 142) rfl)
theorem nw_in_26 : Cond.fieldLinkNest "EndingsLab" 61 "EndingsLab$Machine" "cameTo" "I" "EndingsLab" ∈ lw_tbl := List.mem_append_right _ (List.mem_of_getElem? (i := 144) rfl)
theorem nw_in_27 : Cond.fieldLinkNest "EndingsLab" 68 "EndingsLab$Machine" "endedBy" "I" "EndingsLab" ∈ lw_tbl := List.mem_append_right _ (List.mem_of_getElem? (i := 146) rfl)
theorem nw_in_28 : Cond.methodLinkNest "EndingsLab" 18 y_CH_init "EndingsLab" ∈ lw_tbl := List.mem_append_right _ (List.mem_of_getElem? (i := 166) rfl)
set_option maxRecDepth 20000 in
theorem nw_in_29 : Cond.methodLinkNest "EndingsLab$Faults" 22 y_LB_isBelow "EndingsLab" ∈ lw_tbl := List.mem_append_right _ (List.mem_of_getElem? (i := 342) rfl)
set_option maxRecDepth 20000 in
theorem nw_in_30 : Cond.methodLinkNest "EndingsLab$Machine" 200 y_LB_isOfKind "EndingsLab" ∈ lw_tbl := List.mem_append_right _ (List.mem_of_getElem? (i := 343) rfl)
set_option maxRecDepth 20000 in
theorem nw_in_31 : Cond.methodLinkNest "EndingsLab$EventLog" 25 y_LB_isBelow "EndingsLab" ∈ lw_tbl := List.mem_append_right _ (List.mem_of_getElem? (i := 428) rfl)
theorem nw_in : ∀ w ∈ NW, w ∈ lw_tbl := List.forall_mem_cons.mpr ⟨nw_in_0, List.forall_mem_cons.mpr ⟨nw_in_1, List.forall_mem_cons.mpr ⟨nw_in_2, List.forall_mem_cons.mpr ⟨nw_in_3, List.forall_mem_cons.mpr ⟨nw_in_4, List.forall_mem_cons.mpr ⟨nw_in_5, List.forall_mem_cons.mpr ⟨nw_in_6, List.forall_mem_cons.mpr ⟨nw_in_7, List.forall_mem_cons.mpr ⟨nw_in_8, List.forall_mem_cons.mpr ⟨nw_in_9, List.forall_mem_cons.mpr ⟨nw_in_10, List.forall_mem_cons.mpr ⟨nw_in_11, List.forall_mem_cons.mpr ⟨nw_in_12, List.forall_mem_cons.mpr ⟨nw_in_13, List.forall_mem_cons.mpr ⟨nw_in_14, List.forall_mem_cons.mpr ⟨nw_in_15, List.forall_mem_cons.mpr ⟨nw_in_16, List.forall_mem_cons.mpr ⟨nw_in_17, List.forall_mem_cons.mpr ⟨nw_in_18, List.forall_mem_cons.mpr ⟨nw_in_19, List.forall_mem_cons.mpr ⟨nw_in_20, List.forall_mem_cons.mpr ⟨nw_in_21, List.forall_mem_cons.mpr ⟨nw_in_22, List.forall_mem_cons.mpr ⟨nw_in_23, List.forall_mem_cons.mpr ⟨nw_in_24, List.forall_mem_cons.mpr ⟨nw_in_25, List.forall_mem_cons.mpr ⟨nw_in_26, List.forall_mem_cons.mpr ⟨nw_in_27, List.forall_mem_cons.mpr ⟨nw_in_28, List.forall_mem_cons.mpr ⟨nw_in_29, List.forall_mem_cons.mpr ⟨nw_in_30, List.forall_mem_cons.mpr ⟨nw_in_31, fun _ h => absurd h List.not_mem_nil⟩⟩⟩⟩⟩⟩⟩⟩⟩⟩⟩⟩⟩⟩⟩⟩⟩⟩⟩⟩⟩⟩⟩⟩⟩⟩⟩⟩⟩⟩⟩⟩
theorem ao_TE : Cond.arrayOver (.object "EndingsLab$Text") ∈ lw_tbl := List.mem_append_right _ (List.mem_of_getElem? (i := 28) rfl)
theorem ao_FR : Cond.arrayOver (.object "EndingsLab$Frame") ∈ lw_tbl := List.mem_append_right _ (List.mem_of_getElem? (i := 30) rfl)
theorem ls_TOO_LATE : Cond.laysStatic "EndingsLab$Ending" "TOO_LATE" "LEndingsLab$Ending;" ∈ lw_tbl := List.mem_append_right _ (List.mem_of_getElem? (i := 292) rfl)
set_option maxRecDepth 20000 in
theorem ls_ON : Cond.laysStatic "EndingsLab$Ending" "ON" "LEndingsLab$Ending;" ∈ lw_tbl := List.mem_append_right _ (List.mem_of_getElem? (i := 301) rfl)
set_option maxRecDepth 20000 in
theorem ls_FAULT : Cond.laysStatic "EndingsLab$Ending" "FAULT" "LEndingsLab$Ending;" ∈ lw_tbl := List.mem_append_right _ (List.mem_of_getElem? (i := 315) rfl)
set_option maxRecDepth 20000 in
theorem ls_BROKEN : Cond.laysStatic "EndingsLab$Ending" "BROKEN" "LEndingsLab$Ending;" ∈ lw_tbl := List.mem_append_right _ (List.mem_of_getElem? (i := 321) rfl)
set_option maxRecDepth 20000 in
theorem ls_NEXT_TIME : Cond.laysStatic "EndingsLab$Ending" "NEXT_TIME" "LEndingsLab$Ending;" ∈ lw_tbl := List.mem_append_right _ (List.mem_of_getElem? (i := 323) rfl)
set_option maxRecDepth 20000 in
theorem ls_VALUE : Cond.laysStatic "EndingsLab$Ending" "VALUE" "LEndingsLab$Ending;" ∈ lw_tbl := List.mem_append_right _ (List.mem_of_getElem? (i := 325) rfl)
