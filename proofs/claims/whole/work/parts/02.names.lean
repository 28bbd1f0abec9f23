def lw_gd : List Cond := lw_tbl.filter goodWord
theorem zwd {w : Cond} (i : Nat) (h : tables_1[i]? = some w) (hg : goodWord w = true) : w ∈ lw_gd := List.mem_filter.mpr ⟨List.mem_append_right _ (List.mem_of_getElem? h), hg⟩
theorem zws {w : Cond} (i : Nat) (h : (k2_sels lw_privs)[i]? = some w) (hg : goodWord w = true) : w ∈ lw_gd := List.mem_filter.mpr ⟨List.mem_append_left _ (List.mem_of_getElem? h), hg⟩
theorem lw_gdIn : GoodIn lw_gd lw_gd := fun w hw => ⟨hw, good_of_word (List.mem_filter.mp hw).2⟩
/-! names: classes, fields, methods (printed by wip/whole/gen/emit_names.py out of the Statement) -/
def R0 : String := "GlassTax$Glass"
def T0 : u_T := fun k => match k with
  | 0 => ("GlassTax$Glass", "kind", "I", false)
  | 1 => ("GlassTax$Glass", "m", "I", false)
  | 2 => ("GlassTax$Glass", "cell", "I", false)
  | 3 => ("GlassTax$Glass", "turn", "I", false)
  | _ => ("GlassTax$Glass", "seen", "I", false)
def ty0 : Nat → FieldType := fun k => match k with
  | 0 => .int
  | 1 => .int
  | 2 => .int
  | 3 => .int
  | _ => .int
theorem nm0 : ∀ a, a < 5 → ∀ b, b < 5 → a ≠ b → (T0 a).2.1 ≠ (T0 b).2.1 := by decide +kernel
theorem ty0_ok : ∀ k, k < 5 → parseFieldDescriptor (T0 k).2.2.1 = some (ty0 k) := by decide +kernel
theorem hu0_0 : u_lay R0 T0 0 ∈ lw_gd := zwd 63 (by decide +kernel) (by decide +kernel)
theorem hu0_1 : u_lay R0 T0 1 ∈ lw_gd := zwd 65 (by decide +kernel) (by decide +kernel)
theorem hu0_2 : u_lay R0 T0 2 ∈ lw_gd := zwd 67 (by decide +kernel) (by decide +kernel)
theorem hu0_3 : u_lay R0 T0 3 ∈ lw_gd := zwd 69 (by decide +kernel) (by decide +kernel)
theorem hu0_4 : u_lay R0 T0 4 ∈ lw_gd := zwd 71 (by decide +kernel) (by decide +kernel)
theorem hu0 : ∀ w ∈ u_ws R0 T0 5, w ∈ lw_gd := by
  intro w hw
  obtain ⟨k, hk, rfl⟩ := List.mem_map.mp hw
  have hk := List.mem_range.mp hk
  match k, hk with
  | 0, _ => exact hu0_0
  | 1, _ => exact hu0_1
  | 2, _ => exact hu0_2
  | 3, _ => exact hu0_3
  | 4, _ => exact hu0_4
  | k + 5, h => exact absurd h (by omega)
def R1 : String := "GlassTax$Look"
def T1 : u_T := fun k => match k with
  | 0 => ("GlassTax$Look", "cells", "[I", true)
  | 1 => ("GlassTax$Look", "met", "[I", true)
  | 2 => ("GlassTax$Look", "length", "I", false)
  | 3 => ("GlassTax$Look", "meetings", "I", false)
  | _ => ("GlassTax$Look", "isEver", "Z", false)
def ty1 : Nat → FieldType := fun k => match k with
  | 0 => .array .int
  | 1 => .array .int
  | 2 => .int
  | 3 => .int
  | _ => .boolean
theorem nm1 : ∀ a, a < 5 → ∀ b, b < 5 → a ≠ b → (T1 a).2.1 ≠ (T1 b).2.1 := by decide +kernel
theorem ty1_ok : ∀ k, k < 5 → parseFieldDescriptor (T1 k).2.2.1 = some (ty1 k) := by decide +kernel
theorem hu1_0 : u_lay R1 T1 0 ∈ lw_gd := zwd 178 (by decide +kernel) (by decide +kernel)
theorem hu1_1 : u_lay R1 T1 1 ∈ lw_gd := zwd 180 (by decide +kernel) (by decide +kernel)
theorem hu1_2 : u_lay R1 T1 2 ∈ lw_gd := zwd 182 (by decide +kernel) (by decide +kernel)
theorem hu1_3 : u_lay R1 T1 3 ∈ lw_gd := zwd 184 (by decide +kernel) (by decide +kernel)
theorem hu1_4 : u_lay R1 T1 4 ∈ lw_gd := zwd 186 (by decide +kernel) (by decide +kernel)
theorem hu1 : ∀ w ∈ u_ws R1 T1 5, w ∈ lw_gd := by
  intro w hw
  obtain ⟨k, hk, rfl⟩ := List.mem_map.mp hw
  have hk := List.mem_range.mp hk
  match k, hk with
  | 0, _ => exact hu1_0
  | 1, _ => exact hu1_1
  | 2, _ => exact hu1_2
  | 3, _ => exact hu1_3
  | 4, _ => exact hu1_4
  | k + 5, h => exact absurd h (by omega)
def R2 : String := "GlassTax$Person"
def T2 : u_T := fun k => match k with
  | 0 => ("GlassTax$Person", "cell", "I", false)
  | 1 => ("GlassTax$Person", "way", "I", false)
  | _ => ("GlassTax$Person", "owes", "I", false)
def ty2 : Nat → FieldType := fun k => match k with
  | 0 => .int
  | 1 => .int
  | _ => .int
theorem nm2 : ∀ a, a < 3 → ∀ b, b < 3 → a ≠ b → (T2 a).2.1 ≠ (T2 b).2.1 := by decide +kernel
theorem ty2_ok : ∀ k, k < 3 → parseFieldDescriptor (T2 k).2.2.1 = some (ty2 k) := by decide +kernel
theorem hu2_0 : u_lay R2 T2 0 ∈ lw_gd := zwd 89 (by decide +kernel) (by decide +kernel)
theorem hu2_1 : u_lay R2 T2 1 ∈ lw_gd := zwd 91 (by decide +kernel) (by decide +kernel)
theorem hu2_2 : u_lay R2 T2 2 ∈ lw_gd := zwd 93 (by decide +kernel) (by decide +kernel)
theorem hu2 : ∀ w ∈ u_ws R2 T2 3, w ∈ lw_gd := by
  intro w hw
  obtain ⟨k, hk, rfl⟩ := List.mem_map.mp hw
  have hk := List.mem_range.mp hk
  match k, hk with
  | 0, _ => exact hu2_0
  | 1, _ => exact hu2_1
  | 2, _ => exact hu2_2
  | k + 3, h => exact absurd h (by omega)
def R3 : String := "GlassTax$Reader"
def T3 : u_T := fun k => match k with
  | 0 => ("GlassTax$Reader", "draft", "LGlassTax$Text;", true)
  | 1 => ("GlassTax$Reader", "tape", "[I", false)
  | 2 => ("GlassTax$Reader", "length", "I", false)
  | 3 => ("GlassTax$Reader", "place", "I", false)
  | _ => ("GlassTax$Reader", "use", "I", false)
def ty3 : Nat → FieldType := fun k => match k with
  | 0 => .object "GlassTax$Text"
  | 1 => .array .int
  | 2 => .int
  | 3 => .int
  | _ => .int
theorem nm3 : ∀ a, a < 5 → ∀ b, b < 5 → a ≠ b → (T3 a).2.1 ≠ (T3 b).2.1 := by decide +kernel
theorem ty3_ok : ∀ k, k < 5 → parseFieldDescriptor (T3 k).2.2.1 = some (ty3 k) := by decide +kernel
theorem hu3_0 : u_lay R3 T3 0 ∈ lw_gd := zwd 203 (by decide +kernel) (by decide +kernel)
theorem hu3_1 : u_lay R3 T3 1 ∈ lw_gd := zwd 205 (by decide +kernel) (by decide +kernel)
theorem hu3_2 : u_lay R3 T3 2 ∈ lw_gd := zwd 207 (by decide +kernel) (by decide +kernel)
theorem hu3_3 : u_lay R3 T3 3 ∈ lw_gd := zwd 209 (by decide +kernel) (by decide +kernel)
theorem hu3_4 : u_lay R3 T3 4 ∈ lw_gd := zwd 211 (by decide +kernel) (by decide +kernel)
theorem hu3 : ∀ w ∈ u_ws R3 T3 5, w ∈ lw_gd := by
  intro w hw
  obtain ⟨k, hk, rfl⟩ := List.mem_map.mp hw
  have hk := List.mem_range.mp hk
  match k, hk with
  | 0, _ => exact hu3_0
  | 1, _ => exact hu3_1
  | 2, _ => exact hu3_2
  | 3, _ => exact hu3_3
  | 4, _ => exact hu3_4
  | k + 5, h => exact absurd h (by omega)
def R4 : String := "GlassTax$Sheet"
def T4 : u_T := fun k => match k with
  | 0 => ("GlassTax$Sheet", "numbers", "[I", true)
  | 1 => ("GlassTax$Sheet", "bits", "I", false)
  | _ => ("GlassTax$Sheet", "length", "I", false)
def ty4 : Nat → FieldType := fun k => match k with
  | 0 => .array .int
  | 1 => .int
  | _ => .int
theorem nm4 : ∀ a, a < 3 → ∀ b, b < 3 → a ≠ b → (T4 a).2.1 ≠ (T4 b).2.1 := by decide +kernel
theorem ty4_ok : ∀ k, k < 3 → parseFieldDescriptor (T4 k).2.2.1 = some (ty4 k) := by decide +kernel
theorem hu4_0 : u_lay R4 T4 0 ∈ lw_gd := zwd 254 (by decide +kernel) (by decide +kernel)
theorem hu4_1 : u_lay R4 T4 1 ∈ lw_gd := zwd 256 (by decide +kernel) (by decide +kernel)
theorem hu4_2 : u_lay R4 T4 2 ∈ lw_gd := zwd 258 (by decide +kernel) (by decide +kernel)
theorem hu4 : ∀ w ∈ u_ws R4 T4 3, w ∈ lw_gd := by
  intro w hw
  obtain ⟨k, hk, rfl⟩ := List.mem_map.mp hw
  have hk := List.mem_range.mp hk
  match k, hk with
  | 0, _ => exact hu4_0
  | 1, _ => exact hu4_1
  | 2, _ => exact hu4_2
  | k + 3, h => exact absurd h (by omega)
def R5 : String := "GlassTax$Street"
def T5 : u_T := fun k => match k with
  | 0 => ("GlassTax$Street", "glasses", "[LGlassTax$Glass;", true)
  | 1 => ("GlassTax$Street", "people", "[LGlassTax$Person;", true)
  | 2 => ("GlassTax$Street", "texts", "[LGlassTax$Text;", true)
  | 3 => ("GlassTax$Street", "glassIn", "[I", true)
  | 4 => ("GlassTax$Street", "tape", "[I", true)
  | 5 => ("GlassTax$Street", "waiting", "[I", true)
  | 6 => ("GlassTax$Street", "glassCount", "I", false)
  | 7 => ("GlassTax$Street", "peopleCount", "I", false)
  | 8 => ("GlassTax$Street", "taped", "I", false)
  | 9 => ("GlassTax$Street", "waits", "I", false)
  | 10 => ("GlassTax$Street", "hour", "I", false)
  | _ => ("GlassTax$Street", "z", "I", false)
def ty5 : Nat → FieldType := fun k => match k with
  | 0 => .array (.object "GlassTax$Glass")
  | 1 => .array (.object "GlassTax$Person")
  | 2 => .array (.object "GlassTax$Text")
  | 3 => .array .int
  | 4 => .array .int
  | 5 => .array .int
  | 6 => .int
  | 7 => .int
  | 8 => .int
  | 9 => .int
  | 10 => .int
  | _ => .int
theorem nm5 : ∀ a, a < 12 → ∀ b, b < 12 → a ≠ b → (T5 a).2.1 ≠ (T5 b).2.1 := by decide +kernel
theorem ty5_ok : ∀ k, k < 12 → parseFieldDescriptor (T5 k).2.2.1 = some (ty5 k) := by decide +kernel
theorem hu5_0 : u_lay R5 T5 0 ∈ lw_gd := zwd 137 (by decide +kernel) (by decide +kernel)
theorem hu5_1 : u_lay R5 T5 1 ∈ lw_gd := zwd 139 (by decide +kernel) (by decide +kernel)
theorem hu5_2 : u_lay R5 T5 2 ∈ lw_gd := zwd 141 (by decide +kernel) (by decide +kernel)
theorem hu5_3 : u_lay R5 T5 3 ∈ lw_gd := zwd 143 (by decide +kernel) (by decide +kernel)
theorem hu5_4 : u_lay R5 T5 4 ∈ lw_gd := zwd 145 (by decide +kernel) (by decide +kernel)
theorem hu5_5 : u_lay R5 T5 5 ∈ lw_gd := zwd 147 (by decide +kernel) (by decide +kernel)
theorem hu5_6 : u_lay R5 T5 6 ∈ lw_gd := zwd 149 (by decide +kernel) (by decide +kernel)
theorem hu5_7 : u_lay R5 T5 7 ∈ lw_gd := zwd 151 (by decide +kernel) (by decide +kernel)
theorem hu5_8 : u_lay R5 T5 8 ∈ lw_gd := zwd 153 (by decide +kernel) (by decide +kernel)
theorem hu5_9 : u_lay R5 T5 9 ∈ lw_gd := zwd 155 (by decide +kernel) (by decide +kernel)
theorem hu5_10 : u_lay R5 T5 10 ∈ lw_gd := zwd 157 (by decide +kernel) (by decide +kernel)
theorem hu5_11 : u_lay R5 T5 11 ∈ lw_gd := zwd 159 (by decide +kernel) (by decide +kernel)
theorem hu5 : ∀ w ∈ u_ws R5 T5 12, w ∈ lw_gd := by
  intro w hw
  obtain ⟨k, hk, rfl⟩ := List.mem_map.mp hw
  have hk := List.mem_range.mp hk
  match k, hk with
  | 0, _ => exact hu5_0
  | 1, _ => exact hu5_1
  | 2, _ => exact hu5_2
  | 3, _ => exact hu5_3
  | 4, _ => exact hu5_4
  | 5, _ => exact hu5_5
  | 6, _ => exact hu5_6
  | 7, _ => exact hu5_7
  | 8, _ => exact hu5_8
  | 9, _ => exact hu5_9
  | 10, _ => exact hu5_10
  | 11, _ => exact hu5_11
  | k + 12, h => exact absurd h (by omega)
def R6 : String := "GlassTax$Text"
def T6 : u_T := fun k => match k with
  | 0 => ("GlassTax$Text", "steps", "[I", true)
  | 1 => ("GlassTax$Text", "stack", "[I", true)
  | 2 => ("GlassTax$Text", "length", "I", false)
  | _ => ("GlassTax$Text", "isThere", "Z", false)
def ty6 : Nat → FieldType := fun k => match k with
  | 0 => .array .int
  | 1 => .array .int
  | 2 => .int
  | _ => .boolean
theorem nm6 : ∀ a, a < 4 → ∀ b, b < 4 → a ≠ b → (T6 a).2.1 ≠ (T6 b).2.1 := by decide +kernel
theorem ty6_ok : ∀ k, k < 4 → parseFieldDescriptor (T6 k).2.2.1 = some (ty6 k) := by decide +kernel
theorem hu6_0 : u_lay R6 T6 0 ∈ lw_gd := zwd 109 (by decide +kernel) (by decide +kernel)
theorem hu6_1 : u_lay R6 T6 1 ∈ lw_gd := zwd 111 (by decide +kernel) (by decide +kernel)
theorem hu6_2 : u_lay R6 T6 2 ∈ lw_gd := zwd 113 (by decide +kernel) (by decide +kernel)
theorem hu6_3 : u_lay R6 T6 3 ∈ lw_gd := zwd 115 (by decide +kernel) (by decide +kernel)
theorem hu6 : ∀ w ∈ u_ws R6 T6 4, w ∈ lw_gd := by
  intro w hw
  obtain ⟨k, hk, rfl⟩ := List.mem_map.mp hw
  have hk := List.mem_range.mp hk
  match k, hk with
  | 0, _ => exact hu6_0
  | 1, _ => exact hu6_1
  | 2, _ => exact hu6_2
  | 3, _ => exact hu6_3
  | k + 4, h => exact absurd h (by omega)
def R7 : String := "GlassTax$Voices"
def T7 : u_T := fun k => match k with
  | 0 => ("GlassTax$Voices", "trace", "[I", true)
  | 1 => ("GlassTax$Voices", "traced", "I", false)
  | 2 => ("GlassTax$Voices", "isParted", "Z", false)
  | 3 => ("GlassTax$Voices", "kind", "I", false)
  | 4 => ("GlassTax$Voices", "number", "I", false)
  | _ => ("GlassTax$Voices", "m", "I", false)
def ty7 : Nat → FieldType := fun k => match k with
  | 0 => .array .int
  | 1 => .int
  | 2 => .boolean
  | 3 => .int
  | 4 => .int
  | _ => .int
theorem nm7 : ∀ a, a < 6 → ∀ b, b < 6 → a ≠ b → (T7 a).2.1 ≠ (T7 b).2.1 := by decide +kernel
theorem ty7_ok : ∀ k, k < 6 → parseFieldDescriptor (T7 k).2.2.1 = some (ty7 k) := by decide +kernel
theorem hu7_0 : u_lay R7 T7 0 ∈ lw_gd := zwd 228 (by decide +kernel) (by decide +kernel)
theorem hu7_1 : u_lay R7 T7 1 ∈ lw_gd := zwd 230 (by decide +kernel) (by decide +kernel)
theorem hu7_2 : u_lay R7 T7 2 ∈ lw_gd := zwd 232 (by decide +kernel) (by decide +kernel)
theorem hu7_3 : u_lay R7 T7 3 ∈ lw_gd := zwd 234 (by decide +kernel) (by decide +kernel)
theorem hu7_4 : u_lay R7 T7 4 ∈ lw_gd := zwd 236 (by decide +kernel) (by decide +kernel)
theorem hu7_5 : u_lay R7 T7 5 ∈ lw_gd := zwd 238 (by decide +kernel) (by decide +kernel)
theorem hu7 : ∀ w ∈ u_ws R7 T7 6, w ∈ lw_gd := by
  intro w hw
  obtain ⟨k, hk, rfl⟩ := List.mem_map.mp hw
  have hk := List.mem_range.mp hk
  match k, hk with
  | 0, _ => exact hu7_0
  | 1, _ => exact hu7_1
  | 2, _ => exact hu7_2
  | 3, _ => exact hu7_3
  | 4, _ => exact hu7_4
  | 5, _ => exact hu7_5
  | k + 6, h => exact absurd h (by omega)
def R8 : String := "GlassTax"
def T8 : u_T := fun k => match k with
  | 0 => ("GlassTax", "now", "LGlassTax$Street;", true)
  | 1 => ("GlassTax", "kept", "LGlassTax$Street;", true)
  | 2 => ("GlassTax", "thought", "LGlassTax$Street;", true)
  | 3 => ("GlassTax", "gaze", "LGlassTax$Look;", true)
  | 4 => ("GlassTax", "reader", "LGlassTax$Reader;", true)
  | 5 => ("GlassTax", "voices", "LGlassTax$Voices;", true)
  | 6 => ("GlassTax", "sheets", "[LGlassTax$Sheet;", true)
  | 7 => ("GlassTax", "spinRow", "[I", true)
  | 8 => ("GlassTax", "errors", "[I", true)
  | 9 => ("GlassTax", "hasImage", "Z", false)
  | _ => ("GlassTax", "images", "I", false)
def ty8 : Nat → FieldType := fun k => match k with
  | 0 => .object "GlassTax$Street"
  | 1 => .object "GlassTax$Street"
  | 2 => .object "GlassTax$Street"
  | 3 => .object "GlassTax$Look"
  | 4 => .object "GlassTax$Reader"
  | 5 => .object "GlassTax$Voices"
  | 6 => .array (.object "GlassTax$Sheet")
  | 7 => .array .int
  | 8 => .array .int
  | 9 => .boolean
  | _ => .int
theorem nm8 : ∀ a, a < 11 → ∀ b, b < 11 → a ≠ b → (T8 a).2.1 ≠ (T8 b).2.1 := by decide +kernel
theorem ty8_ok : ∀ k, k < 11 → parseFieldDescriptor (T8 k).2.2.1 = some (ty8 k) := by decide +kernel
theorem hu8_0 : u_lay R8 T8 0 ∈ lw_gd := zwd 272 (by decide +kernel) (by decide +kernel)
theorem hu8_1 : u_lay R8 T8 1 ∈ lw_gd := zwd 274 (by decide +kernel) (by decide +kernel)
theorem hu8_2 : u_lay R8 T8 2 ∈ lw_gd := zwd 276 (by decide +kernel) (by decide +kernel)
theorem hu8_3 : u_lay R8 T8 3 ∈ lw_gd := zwd 278 (by decide +kernel) (by decide +kernel)
theorem hu8_4 : u_lay R8 T8 4 ∈ lw_gd := zwd 280 (by decide +kernel) (by decide +kernel)
theorem hu8_5 : u_lay R8 T8 5 ∈ lw_gd := zwd 282 (by decide +kernel) (by decide +kernel)
theorem hu8_6 : u_lay R8 T8 6 ∈ lw_gd := zwd 284 (by decide +kernel) (by decide +kernel)
theorem hu8_7 : u_lay R8 T8 7 ∈ lw_gd := zwd 286 (by decide +kernel) (by decide +kernel)
theorem hu8_8 : u_lay R8 T8 8 ∈ lw_gd := zwd 288 (by decide +kernel) (by decide +kernel)
theorem hu8_9 : u_lay R8 T8 9 ∈ lw_gd := zwd 290 (by decide +kernel) (by decide +kernel)
theorem hu8_10 : u_lay R8 T8 10 ∈ lw_gd := zwd 292 (by decide +kernel) (by decide +kernel)
theorem hu8 : ∀ w ∈ u_ws R8 T8 11, w ∈ lw_gd := by
  intro w hw
  obtain ⟨k, hk, rfl⟩ := List.mem_map.mp hw
  have hk := List.mem_range.mp hk
  match k, hk with
  | 0, _ => exact hu8_0
  | 1, _ => exact hu8_1
  | 2, _ => exact hu8_2
  | 3, _ => exact hu8_3
  | 4, _ => exact hu8_4
  | 5, _ => exact hu8_5
  | 6, _ => exact hu8_6
  | 7, _ => exact hu8_7
  | 8, _ => exact hu8_8
  | 9, _ => exact hu8_9
  | 10, _ => exact hu8_10
  | k + 11, h => exact absurd h (by omega)
def R9 : String := "GlassTaxModel"
def T9 : u_T := fun k => match k with
  | 0 => ("GlassTaxModel", "row", "[I", true)
  | 1 => ("GlassTaxModel", "kept", "[I", true)
  | 2 => ("GlassTaxModel", "before", "[I", true)
  | 3 => ("GlassTaxModel", "images", "I", false)
  | 4 => ("GlassTaxModel", "errors", "[I", true)
  | 5 => ("GlassTaxModel", "bitsOf", "[I", true)
  | 6 => ("GlassTaxModel", "sizeOf", "[I", true)
  | 7 => ("GlassTaxModel", "cells", "[I", true)
  | 8 => ("GlassTaxModel", "path", "[I", true)
  | 9 => ("GlassTaxModel", "many", "I", false)
  | 10 => ("GlassTaxModel", "meets", "I", false)
  | 11 => ("GlassTaxModel", "met", "[I", true)
  | 12 => ("GlassTaxModel", "tax", "I", false)
  | 13 => ("GlassTaxModel", "isEver", "Z", false)
  | 14 => ("GlassTaxModel", "act", "[I", true)
  | 15 => ("GlassTaxModel", "with", "[I", true)
  | 16 => ("GlassTaxModel", "facts", "[I", true)
  | 17 => ("GlassTaxModel", "pile", "[I", true)
  | 18 => ("GlassTaxModel", "laid", "I", false)
  | 19 => ("GlassTaxModel", "here", "I", false)
  | 20 => ("GlassTaxModel", "opened", "I", false)
  | 21 => ("GlassTaxModel", "bad", "Z", false)
  | 22 => ("GlassTaxModel", "using", "I", false)
  | 23 => ("GlassTaxModel", "spun", "[I", true)
  | 24 => ("GlassTaxModel", "trace", "[I", true)
  | 25 => ("GlassTaxModel", "traced", "I", false)
  | _ => ("GlassTaxModel", "isParted", "Z", false)
def ty9 : Nat → FieldType := fun k => match k with
  | 0 => .array .int
  | 1 => .array .int
  | 2 => .array .int
  | 3 => .int
  | 4 => .array .int
  | 5 => .array .int
  | 6 => .array .int
  | 7 => .array .int
  | 8 => .array .int
  | 9 => .int
  | 10 => .int
  | 11 => .array .int
  | 12 => .int
  | 13 => .boolean
  | 14 => .array .int
  | 15 => .array .int
  | 16 => .array .int
  | 17 => .array .int
  | 18 => .int
  | 19 => .int
  | 20 => .int
  | 21 => .boolean
  | 22 => .int
  | 23 => .array .int
  | 24 => .array .int
  | 25 => .int
  | _ => .boolean
theorem nm9 : ∀ a, a < 27 → ∀ b, b < 27 → a ≠ b → (T9 a).2.1 ≠ (T9 b).2.1 := by decide +kernel
theorem ty9_ok : ∀ k, k < 27 → parseFieldDescriptor (T9 k).2.2.1 = some (ty9 k) := by decide +kernel
theorem hu9_0 : u_lay R9 T9 0 ∈ lw_gd := zwd 844 (by decide +kernel) (by decide +kernel)
theorem hu9_1 : u_lay R9 T9 1 ∈ lw_gd := zwd 846 (by decide +kernel) (by decide +kernel)
theorem hu9_2 : u_lay R9 T9 2 ∈ lw_gd := zwd 848 (by decide +kernel) (by decide +kernel)
theorem hu9_3 : u_lay R9 T9 3 ∈ lw_gd := zwd 850 (by decide +kernel) (by decide +kernel)
theorem hu9_4 : u_lay R9 T9 4 ∈ lw_gd := zwd 852 (by decide +kernel) (by decide +kernel)
theorem hu9_5 : u_lay R9 T9 5 ∈ lw_gd := zwd 854 (by decide +kernel) (by decide +kernel)
theorem hu9_6 : u_lay R9 T9 6 ∈ lw_gd := zwd 856 (by decide +kernel) (by decide +kernel)
theorem hu9_7 : u_lay R9 T9 7 ∈ lw_gd := zwd 858 (by decide +kernel) (by decide +kernel)
theorem hu9_8 : u_lay R9 T9 8 ∈ lw_gd := zwd 860 (by decide +kernel) (by decide +kernel)
theorem hu9_9 : u_lay R9 T9 9 ∈ lw_gd := zwd 862 (by decide +kernel) (by decide +kernel)
theorem hu9_10 : u_lay R9 T9 10 ∈ lw_gd := zwd 864 (by decide +kernel) (by decide +kernel)
theorem hu9_11 : u_lay R9 T9 11 ∈ lw_gd := zwd 866 (by decide +kernel) (by decide +kernel)
theorem hu9_12 : u_lay R9 T9 12 ∈ lw_gd := zwd 868 (by decide +kernel) (by decide +kernel)
theorem hu9_13 : u_lay R9 T9 13 ∈ lw_gd := zwd 870 (by decide +kernel) (by decide +kernel)
theorem hu9_14 : u_lay R9 T9 14 ∈ lw_gd := zwd 872 (by decide +kernel) (by decide +kernel)
theorem hu9_15 : u_lay R9 T9 15 ∈ lw_gd := zwd 874 (by decide +kernel) (by decide +kernel)
theorem hu9_16 : u_lay R9 T9 16 ∈ lw_gd := zwd 876 (by decide +kernel) (by decide +kernel)
theorem hu9_17 : u_lay R9 T9 17 ∈ lw_gd := zwd 878 (by decide +kernel) (by decide +kernel)
theorem hu9_18 : u_lay R9 T9 18 ∈ lw_gd := zwd 880 (by decide +kernel) (by decide +kernel)
theorem hu9_19 : u_lay R9 T9 19 ∈ lw_gd := zwd 882 (by decide +kernel) (by decide +kernel)
theorem hu9_20 : u_lay R9 T9 20 ∈ lw_gd := zwd 884 (by decide +kernel) (by decide +kernel)
theorem hu9_21 : u_lay R9 T9 21 ∈ lw_gd := zwd 886 (by decide +kernel) (by decide +kernel)
theorem hu9_22 : u_lay R9 T9 22 ∈ lw_gd := zwd 888 (by decide +kernel) (by decide +kernel)
theorem hu9_23 : u_lay R9 T9 23 ∈ lw_gd := zwd 890 (by decide +kernel) (by decide +kernel)
theorem hu9_24 : u_lay R9 T9 24 ∈ lw_gd := zwd 892 (by decide +kernel) (by decide +kernel)
theorem hu9_25 : u_lay R9 T9 25 ∈ lw_gd := zwd 894 (by decide +kernel) (by decide +kernel)
theorem hu9_26 : u_lay R9 T9 26 ∈ lw_gd := zwd 896 (by decide +kernel) (by decide +kernel)
theorem hu9 : ∀ w ∈ u_ws R9 T9 27, w ∈ lw_gd := by
  intro w hw
  obtain ⟨k, hk, rfl⟩ := List.mem_map.mp hw
  have hk := List.mem_range.mp hk
  match k, hk with
  | 0, _ => exact hu9_0
  | 1, _ => exact hu9_1
  | 2, _ => exact hu9_2
  | 3, _ => exact hu9_3
  | 4, _ => exact hu9_4
  | 5, _ => exact hu9_5
  | 6, _ => exact hu9_6
  | 7, _ => exact hu9_7
  | 8, _ => exact hu9_8
  | 9, _ => exact hu9_9
  | 10, _ => exact hu9_10
  | 11, _ => exact hu9_11
  | 12, _ => exact hu9_12
  | 13, _ => exact hu9_13
  | 14, _ => exact hu9_14
  | 15, _ => exact hu9_15
  | 16, _ => exact hu9_16
  | 17, _ => exact hu9_17
  | 18, _ => exact hu9_18
  | 19, _ => exact hu9_19
  | 20, _ => exact hu9_20
  | 21, _ => exact hu9_21
  | 22, _ => exact hu9_22
  | 23, _ => exact hu9_23
  | 24, _ => exact hu9_24
  | 25, _ => exact hu9_25
  | 26, _ => exact hu9_26
  | k + 27, h => exact absurd h (by omega)
abbrev zcl : List vw_C := [(R0, T0, 5), (R1, T1, 5), (R2, T2, 3), (R3, T3, 5), (R4, T4, 3), (R5, T5, 12), (R6, T6, 4), (R7, T7, 6), (R8, T8, 11), (R9, T9, 27)]
def zshL : List Nat := [0, 9, 6, 11, 12, 13, 15, 15, 15, 1, 1, 1, 1, 1, 1, 1, 1, 3, 3, 3, 3, 3, 3, 7, 15, 15, 7, 15, 15, 6, 11, 12, 13, 15, 15, 15, 1, 1, 1, 1, 1, 1, 1, 1, 3, 3, 3, 3, 3, 3, 7, 15, 15, 7, 15, 15, 6, 11, 12, 13, 15, 15, 15, 1, 1, 1, 1, 1, 1, 1, 1, 3, 3, 3, 3, 3, 3, 7, 15, 15, 7, 15, 15, 2, 15, 15, 4, 7, 15, 15, 8, 15, 14, 15, 15, 5, 15, 5, 15, 5, 15, 5, 15, 10, 15, 15, 15, 15, 15, 15, 15, 15, 15, 15, 15, 15, 15, 15, 15]
def zlnL : List Nat := [0, 0, 0, 8, 6, 2, 64, 60, 24, 0, 0, 0, 0, 0, 0, 0, 0, 0, 0, 0, 0, 0, 0, 0, 60, 60, 0, 60, 60, 0, 8, 6, 2, 64, 60, 24, 0, 0, 0, 0, 0, 0, 0, 0, 0, 0, 0, 0, 0, 0, 0, 60, 60, 0, 60, 60, 0, 8, 6, 2, 64, 60, 24, 0, 0, 0, 0, 0, 0, 0, 0, 0, 0, 0, 0, 0, 0, 0, 60, 60, 0, 60, 60, 0, 257, 257, 0, 0, 60, 60, 0, 30, 4, 4, 7, 0, 24, 0, 24, 0, 24, 0, 24, 0, 390, 390, 390, 7, 4, 4, 96, 257, 8, 60, 60, 3, 60, 4, 30]
def zfsL : List (List (Option Nat)) := [[], 
  [none, none, none, none, none],
  [some 1, some 2, none, none, none],
  [none, none, none],
  [some 1, some 0, none, none, none],
  [some 1, none, none],
  [some 1, some 2, some 3, some 4, some 5, some 6, none, none, none, none, none, none],
  [some 1, some 2, none, none],
  [some 1, none, none, none, none, none],
  [some 1, some 28, some 55, some 82, some 85, some 89, some 91, some 92, some 93, none, none],
  [some 1, some 2, some 3, none, some 4, some 5, some 6, some 7, some 8, none, none, some 9, none, none, some 10, some 11, some 12, some 13, none, none, none, none, none, some 14, some 15, none, none]]
