def T_F : u_T := fun k => match k with
  | 0 => ("FleetWaves", "cars", "Ljava/util/ArrayList;", true)
  | 1 => ("FleetWaves", "campaigns", "Ljava/util/ArrayList;", true)
  | _ => ("FleetWaves", "now", "J", false)
def ty_F : Nat → FieldType := fun k => match k with
  | 0 => (.object "java/util/ArrayList")
  | 1 => (.object "java/util/ArrayList")
  | _ => .long
theorem nm_F : ∀ a, a < 3 → ∀ b, b < 3 → a ≠ b → (T_F a).2.1 ≠ (T_F b).2.1 := by decide +kernel
theorem ty_F_ok : ∀ k, k < 3 → parseFieldDescriptor (T_F k).2.2.1 = some (ty_F k) := by decide +kernel
def T_C : u_T := fun k => match k with
  | 0 => ("FleetWaves$Car", "number", "J", true)
  | 1 => ("FleetWaves$Car", "editions", "[I", true)
  | 2 => ("FleetWaves$Car", "consents", "Z", false)
  | 3 => ("FleetWaves$Car", "begun", "I", false)
  | _ => ("FleetWaves$Car", "failures", "LFleetWaves$Failure;", false)
def ty_C : Nat → FieldType := fun k => match k with
  | 0 => .long
  | 1 => (.array .int)
  | 2 => .boolean
  | 3 => .int
  | _ => (.object "FleetWaves$Failure")
theorem nm_C : ∀ a, a < 5 → ∀ b, b < 5 → a ≠ b → (T_C a).2.1 ≠ (T_C b).2.1 := by decide +kernel
theorem ty_C_ok : ∀ k, k < 5 → parseFieldDescriptor (T_C k).2.2.1 = some (ty_C k) := by decide +kernel
def T_K : u_T := fun k => match k with
  | 0 => ("FleetWaves$Campaign", "number", "I", true)
  | 1 => ("FleetWaves$Campaign", "part", "I", true)
  | 2 => ("FleetWaves$Campaign", "modulus", "I", true)
  | 3 => ("FleetWaves$Campaign", "k", "I", true)
  | 4 => ("FleetWaves$Campaign", "edition", "I", true)
  | 5 => ("FleetWaves$Campaign", "waves", "Ljava/util/ArrayList;", true)
  | 6 => ("FleetWaves$Campaign", "state", "I", false)
  | 7 => ("FleetWaves$Campaign", "before", "J", false)
  | 8 => ("FleetWaves$Campaign", "ruleUp", "J", false)
  | 9 => ("FleetWaves$Campaign", "ruleDown", "J", false)
  | 10 => ("FleetWaves$Campaign", "reports", "I", false)
  | _ => ("FleetWaves$Campaign", "badReports", "I", false)
def ty_K : Nat → FieldType := fun k => match k with
  | 0 => .int
  | 1 => .int
  | 2 => .int
  | 3 => .int
  | 4 => .int
  | 5 => (.object "java/util/ArrayList")
  | 6 => .int
  | 7 => .long
  | 8 => .long
  | 9 => .long
  | 10 => .int
  | _ => .int
theorem nm_K : ∀ a, a < 12 → ∀ b, b < 12 → a ≠ b → (T_K a).2.1 ≠ (T_K b).2.1 := by decide +kernel
theorem ty_K_ok : ∀ k, k < 12 → parseFieldDescriptor (T_K k).2.2.1 = some (ty_K k) := by decide +kernel
def T_V : u_T := fun k => match k with
  | 0 => ("FleetWaves$Wave", "up", "J", true)
  | 1 => ("FleetWaves$Wave", "down", "J", true)
  | _ => ("FleetWaves$Wave", "since", "J", true)
def ty_V : Nat → FieldType := fun k => match k with
  | 0 => .long
  | 1 => .long
  | _ => .long
theorem nm_V : ∀ a, a < 3 → ∀ b, b < 3 → a ≠ b → (T_V a).2.1 ≠ (T_V b).2.1 := by decide +kernel
theorem ty_V_ok : ∀ k, k < 3 → parseFieldDescriptor (T_V k).2.2.1 = some (ty_V k) := by decide +kernel
def T_E : u_T := fun k => match k with
  | 0 => ("FleetWaves$Failure", "campaign", "I", true)
  | 1 => ("FleetWaves$Failure", "next", "LFleetWaves$Failure;", true)
  | 2 => ("FleetWaves$Failure", "times", "I", false)
  | _ => ("FleetWaves$Failure", "last", "J", false)
def ty_E : Nat → FieldType := fun k => match k with
  | 0 => .int
  | 1 => (.object "FleetWaves$Failure")
  | 2 => .int
  | _ => .long
theorem nm_E : ∀ a, a < 4 → ∀ b, b < 4 → a ≠ b → (T_E a).2.1 ≠ (T_E b).2.1 := by decide +kernel
theorem ty_E_ok : ∀ k, k < 4 → parseFieldDescriptor (T_E k).2.2.1 = some (ty_E k) := by decide +kernel
def T_M : u_T := fun k => match k with
  | 0 => ("FleetWavesModel", "code", "I", false)
  | 1 => ("FleetWavesModel", "cars", "I", false)
  | 2 => ("FleetWavesModel", "number", "[J", true)
  | 3 => ("FleetWavesModel", "edition", "[I", true)
  | 4 => ("FleetWavesModel", "refuses", "[Z", true)
  | 5 => ("FleetWavesModel", "campaigns", "I", false)
  | 6 => ("FleetWavesModel", "formula", "[I", true)
  | 7 => ("FleetWavesModel", "to", "[I", true)
  | 8 => ("FleetWavesModel", "state", "[I", true)
  | 9 => ("FleetWavesModel", "waves", "[I", true)
  | 10 => ("FleetWavesModel", "up", "[J", true)
  | 11 => ("FleetWavesModel", "down", "[J", true)
  | 12 => ("FleetWavesModel", "from", "[J", true)
  | 13 => ("FleetWavesModel", "ruleUp", "[J", true)
  | 14 => ("FleetWavesModel", "ruleDown", "[J", true)
  | 15 => ("FleetWavesModel", "good", "[I", true)
  | 16 => ("FleetWavesModel", "bad", "[I", true)
  | 17 => ("FleetWavesModel", "told", "[Z", true)
  | 18 => ("FleetWavesModel", "reached", "[Z", true)
  | 19 => ("FleetWavesModel", "fails", "[I", true)
  | 20 => ("FleetWavesModel", "last", "[J", true)
  | 21 => ("FleetWavesModel", "begun", "[Z", true)
  | _ => ("FleetWavesModel", "now", "J", false)
def ty_M : Nat → FieldType := fun k => match k with
  | 0 => .int
  | 1 => .int
  | 2 => (.array .long)
  | 3 => (.array .int)
  | 4 => (.array .boolean)
  | 5 => .int
  | 6 => (.array .int)
  | 7 => (.array .int)
  | 8 => (.array .int)
  | 9 => (.array .int)
  | 10 => (.array .long)
  | 11 => (.array .long)
  | 12 => (.array .long)
  | 13 => (.array .long)
  | 14 => (.array .long)
  | 15 => (.array .int)
  | 16 => (.array .int)
  | 17 => (.array .boolean)
  | 18 => (.array .boolean)
  | 19 => (.array .int)
  | 20 => (.array .long)
  | 21 => (.array .boolean)
  | _ => .long
theorem nm_M : ∀ a, a < 23 → ∀ b, b < 23 → a ≠ b → (T_M a).2.1 ≠ (T_M b).2.1 := by decide +kernel
theorem ty_M_ok : ∀ k, k < 23 → parseFieldDescriptor (T_M k).2.2.1 = some (ty_M k) := by decide +kernel
def T_A : u_T := fun k => match k with
  | 0 => ("java/util/ArrayList", "elementData", "[Ljava/lang/Object;", false)
  | 1 => ("java/util/ArrayList", "size", "I", false)
  | _ => ("java/util/AbstractList", "modCount", "I", false)
def ty_A : Nat → FieldType := fun k => match k with
  | 0 => (.array (.object "java/lang/Object"))
  | 1 => .int
  | _ => .int
theorem nm_A : ∀ a, a < 3 → ∀ b, b < 3 → a ≠ b → (T_A a).2.1 ≠ (T_A b).2.1 := by decide +kernel
theorem ty_A_ok : ∀ k, k < 3 → parseFieldDescriptor (T_A k).2.2.1 = some (ty_A k) := by decide +kernel
abbrev xcls : List vw_C := [("FleetWaves", T_F, 3), ("FleetWaves$Car", T_C, 5), ("FleetWaves$Campaign", T_K, 12), ("FleetWaves$Wave", T_V, 3), ("FleetWaves$Failure", T_E, 4), ("FleetWavesModel", T_M, 23), ("java/util/ArrayList", T_A, 3)]
def xT : List Cond := lw_tbl.filter goodWord
theorem xT_good {ws : List Cond} (h : ∀ w ∈ ws, w ∈ xT) : GoodIn xT ws := fun w hw => ⟨h w hw, good_of_word (List.mem_filter.mp (h w hw)).2⟩
theorem xT_in {w : Cond} (h : w ∈ tables_1) (hg : goodWord w = true) : w ∈ xT := List.mem_filter.mpr ⟨List.mem_append_right _ h, hg⟩
theorem xT_sel {w : Cond} (h : w ∈ k2_sels lw_privs) (hg : goodWord w = true) : w ∈ xT := List.mem_filter.mpr ⟨List.mem_append_left _ h, hg⟩
set_option maxRecDepth 20000 in
theorem in_F : ∀ w ∈ u_ws "FleetWaves" T_F 3, w ∈ xT := by decide +kernel
set_option maxRecDepth 20000 in
theorem in_C : ∀ w ∈ u_ws "FleetWaves$Car" T_C 5, w ∈ xT := by decide +kernel
set_option maxRecDepth 20000 in
theorem in_K : ∀ w ∈ u_ws "FleetWaves$Campaign" T_K 12, w ∈ xT := by decide +kernel
set_option maxRecDepth 20000 in
theorem in_V : ∀ w ∈ u_ws "FleetWaves$Wave" T_V 3, w ∈ xT := by decide +kernel
set_option maxRecDepth 20000 in
theorem in_E : ∀ w ∈ u_ws "FleetWaves$Failure" T_E 4, w ∈ xT := by decide +kernel
set_option maxRecDepth 20000 in
theorem in_M : ∀ w ∈ u_ws "FleetWavesModel" T_M 23, w ∈ xT := by decide +kernel
set_option maxRecDepth 20000 in
theorem in_A : ∀ w ∈ u_ws "java/util/ArrayList" T_A 3, w ∈ xT := by decide +kernel
