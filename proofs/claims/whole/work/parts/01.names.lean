/-- the tables' words that a call may take along -/
def wG : List Cond := lw_tbl.filter goodWord
theorem wG_in {w : Cond} (h : w ∈ tables_1) (hg : goodWord w = true) : w ∈ wG := List.mem_filter.mpr ⟨List.mem_append_right _ h, hg⟩
theorem wG_sel {w : Cond} (h : w ∈ k2_sels lw_privs) (hg : goodWord w = true) : w ∈ wG := List.mem_filter.mpr ⟨List.mem_append_left _ h, hg⟩
theorem wG_all {ws : List Cond} (h : ws.all (fun w => decide (w ∈ tables_1) && goodWord w) = true) : ∀ w ∈ ws, w ∈ wG := by
  intro w hw
  have h1 := List.all_eq_true.mp h w hw
  rw [Bool.and_eq_true] at h1
  exact wG_in (of_decide_eq_true h1.1) h1.2
theorem wT1 {w : Cond} (h : w ∈ tables_1_1) : w ∈ tables_1 := (List.mem_append_left _ h)
theorem wT2 {w : Cond} (h : w ∈ tables_1_2) : w ∈ tables_1 := (List.mem_append_right _ (List.mem_append_left _ h))
theorem wT3 {w : Cond} (h : w ∈ tables_1_3) : w ∈ tables_1 := (List.mem_append_right _ (List.mem_append_right _ (List.mem_append_left _ h)))
theorem wT4 {w : Cond} (h : w ∈ tables_1_4) : w ∈ tables_1 := (List.mem_append_right _ (List.mem_append_right _ (List.mem_append_right _ h)))
theorem gG {x w : Cond} (h : w ∈ wG) (hg : goodWord w = true) : GoodIn (x :: wG) (w :: wG) := fun v hv => (List.mem_cons.mp hv).elim (fun e => by rw [e]; exact ⟨List.mem_cons_of_mem _ h, good_of_word hg⟩) (fun hv => ⟨List.mem_cons_of_mem _ hv, good_of_word (List.mem_filter.mp hv).2⟩)
def RX0 : String := "ClassFileIndex$ClassFile"
def TX0 : u_T := fun k => match k with
  | 0 => ("ClassFileIndex$ClassFile", "name", "I", true)
  | 1 => ("ClassFileIndex$ClassFile", "flags", "I", true)
  | 2 => ("ClassFileIndex$ClassFile", "superName", "I", true)
  | 3 => ("ClassFileIndex$ClassFile", "container", "I", true)
  | 4 => ("ClassFileIndex$ClassFile", "annotations", "[LClassFileIndex$Value;", true)
  | 5 => ("ClassFileIndex$ClassFile", "defaults", "LClassFileIndex$Parts;", true)
  | 6 => ("ClassFileIndex$ClassFile", "supertypes", "[I", true)
  | _ => ("ClassFileIndex$ClassFile", "annotationTypes", "[I", true)
def tyX0 : Nat → FieldType := fun k => match k with
  | 0 => .int
  | 1 => .int
  | 2 => .int
  | 3 => .int
  | 4 => .array (.object "ClassFileIndex$Value")
  | 5 => .object "ClassFileIndex$Parts"
  | 6 => .array .int
  | _ => .array .int
theorem nmX0 : ∀ a, a < 8 → ∀ b, b < 8 → a ≠ b → (TX0 a).2.1 ≠ (TX0 b).2.1 := by decide +kernel
theorem tyX0_ok : ∀ k, k < 8 → parseFieldDescriptor (TX0 k).2.2.1 = some (tyX0 k) := by decide +kernel
set_option maxRecDepth 20000 in
theorem wlX0 : ∀ w ∈ u_ws RX0 TX0 8, w ∈ wG := wG_all (by decide +kernel)
def RX1 : String := "ClassFileIndex$Classes"
def TX1 : u_T := fun k => match k with
  | 0 => ("ClassFileIndex$Classes", "files", "[LClassFileIndex$ClassFile;", true)
  | 1 => ("ClassFileIndex$Classes", "size", "I", false)
  | 2 => ("ClassFileIndex$Classes", "classOfText", "[I", true)
  | 3 => ("ClassFileIndex$Classes", "queue", "[I", true)
  | _ => ("ClassFileIndex$Classes", "queued", "[Z", true)
def tyX1 : Nat → FieldType := fun k => match k with
  | 0 => .array (.object "ClassFileIndex$ClassFile")
  | 1 => .int
  | 2 => .array .int
  | 3 => .array .int
  | _ => .array .boolean
theorem nmX1 : ∀ a, a < 5 → ∀ b, b < 5 → a ≠ b → (TX1 a).2.1 ≠ (TX1 b).2.1 := by decide +kernel
theorem tyX1_ok : ∀ k, k < 5 → parseFieldDescriptor (TX1 k).2.2.1 = some (tyX1 k) := by decide +kernel
set_option maxRecDepth 20000 in
theorem wlX1 : ∀ w ∈ u_ws RX1 TX1 5, w ∈ wG := wG_all (by decide +kernel)
def RX2 : String := "ClassFileIndex$Parts"
def TX2 : u_T := fun k => match k with
  | 0 => ("ClassFileIndex$Parts", "names", "[I", true)
  | _ => ("ClassFileIndex$Parts", "values", "[LClassFileIndex$Value;", true)
def tyX2 : Nat → FieldType := fun k => match k with
  | 0 => .array .int
  | _ => .array (.object "ClassFileIndex$Value")
theorem nmX2 : ∀ a, a < 2 → ∀ b, b < 2 → a ≠ b → (TX2 a).2.1 ≠ (TX2 b).2.1 := by decide +kernel
theorem tyX2_ok : ∀ k, k < 2 → parseFieldDescriptor (TX2 k).2.2.1 = some (tyX2 k) := by decide +kernel
set_option maxRecDepth 20000 in
theorem wlX2 : ∀ w ∈ u_ws RX2 TX2 2, w ∈ wG := wG_all (by decide +kernel)
def RX3 : String := "ClassFileIndex$Reader"
def TX3 : u_T := fun k => match k with
  | 0 => ("ClassFileIndex$Reader", "fault", "I", false)
  | 1 => ("ClassFileIndex$Reader", "bytes", "[I", false)
  | 2 => ("ClassFileIndex$Reader", "end", "I", false)
  | 3 => ("ClassFileIndex$Reader", "place", "I", false)
  | 4 => ("ClassFileIndex$Reader", "texts", "LClassFileIndex$Texts;", false)
  | 5 => ("ClassFileIndex$Reader", "classes", "LClassFileIndex$Classes;", false)
  | 6 => ("ClassFileIndex$Reader", "constants", "I", false)
  | 7 => ("ClassFileIndex$Reader", "kinds", "[I", true)
  | 8 => ("ClassFileIndex$Reader", "numbers", "[I", true)
  | 9 => ("ClassFileIndex$Reader", "places", "[I", true)
  | _ => ("ClassFileIndex$Reader", "noParts", "LClassFileIndex$Parts;", true)
def tyX3 : Nat → FieldType := fun k => match k with
  | 0 => .int
  | 1 => .array .int
  | 2 => .int
  | 3 => .int
  | 4 => .object "ClassFileIndex$Texts"
  | 5 => .object "ClassFileIndex$Classes"
  | 6 => .int
  | 7 => .array .int
  | 8 => .array .int
  | 9 => .array .int
  | _ => .object "ClassFileIndex$Parts"
theorem nmX3 : ∀ a, a < 11 → ∀ b, b < 11 → a ≠ b → (TX3 a).2.1 ≠ (TX3 b).2.1 := by decide +kernel
theorem tyX3_ok : ∀ k, k < 11 → parseFieldDescriptor (TX3 k).2.2.1 = some (tyX3 k) := by decide +kernel
set_option maxRecDepth 20000 in
theorem wlX3 : ∀ w ∈ u_ws RX3 TX3 11, w ∈ wG := wG_all (by decide +kernel)
def RX4 : String := "ClassFileIndex$Texts"
def TX4 : u_T := fun k => match k with
  | 0 => ("ClassFileIndex$Texts", "letters", "[B", true)
  | 1 => ("ClassFileIndex$Texts", "lengths", "[I", true)
  | _ => ("ClassFileIndex$Texts", "size", "I", false)
def tyX4 : Nat → FieldType := fun k => match k with
  | 0 => .array .byte
  | 1 => .array .int
  | _ => .int
theorem nmX4 : ∀ a, a < 3 → ∀ b, b < 3 → a ≠ b → (TX4 a).2.1 ≠ (TX4 b).2.1 := by decide +kernel
theorem tyX4_ok : ∀ k, k < 3 → parseFieldDescriptor (TX4 k).2.2.1 = some (tyX4 k) := by decide +kernel
set_option maxRecDepth 20000 in
theorem wlX4 : ∀ w ∈ u_ws RX4 TX4 3, w ∈ wG := wG_all (by decide +kernel)
def RX5 : String := "ClassFileIndex$Value"
def TX5 : u_T := fun k => match k with
  | 0 => ("ClassFileIndex$Value", "kind", "I", true)
  | 1 => ("ClassFileIndex$Value", "number", "I", true)
  | _ => ("ClassFileIndex$Value", "parts", "LClassFileIndex$Parts;", true)
def tyX5 : Nat → FieldType := fun k => match k with
  | 0 => .int
  | 1 => .int
  | _ => .object "ClassFileIndex$Parts"
theorem nmX5 : ∀ a, a < 3 → ∀ b, b < 3 → a ≠ b → (TX5 a).2.1 ≠ (TX5 b).2.1 := by decide +kernel
theorem tyX5_ok : ∀ k, k < 3 → parseFieldDescriptor (TX5 k).2.2.1 = some (tyX5 k) := by decide +kernel
set_option maxRecDepth 20000 in
theorem wlX5 : ∀ w ∈ u_ws RX5 TX5 3, w ∈ wG := wG_all (by decide +kernel)
def RX6 : String := "ClassFileIndex"
def TX6 : u_T := fun k => match k with
  | 0 => ("ClassFileIndex", "buffer", "[I", true)
  | 1 => ("ClassFileIndex", "held", "I", false)
  | 2 => ("ClassFileIndex", "knownTexts", "LClassFileIndex$Texts;", true)
  | 3 => ("ClassFileIndex", "knownClasses", "LClassFileIndex$Classes;", true)
  | _ => ("ClassFileIndex", "reader", "LClassFileIndex$Reader;", true)
def tyX6 : Nat → FieldType := fun k => match k with
  | 0 => .array .int
  | 1 => .int
  | 2 => .object "ClassFileIndex$Texts"
  | 3 => .object "ClassFileIndex$Classes"
  | _ => .object "ClassFileIndex$Reader"
theorem nmX6 : ∀ a, a < 5 → ∀ b, b < 5 → a ≠ b → (TX6 a).2.1 ≠ (TX6 b).2.1 := by decide +kernel
theorem tyX6_ok : ∀ k, k < 5 → parseFieldDescriptor (TX6 k).2.2.1 = some (tyX6 k) := by decide +kernel
set_option maxRecDepth 20000 in
theorem wlX6 : ∀ w ∈ u_ws RX6 TX6 5, w ∈ wG := wG_all (by decide +kernel)
def RX7 : String := "ClassFileIndexModel"
def TX7 : u_T := fun k => match k with
  | 0 => ("ClassFileIndexModel", "buffer", "[I", true)
  | 1 => ("ClassFileIndexModel", "held", "I", false)
  | 2 => ("ClassFileIndexModel", "bytes", "[I", true)
  | 3 => ("ClassFileIndexModel", "classes", "I", false)
  | 4 => ("ClassFileIndexModel", "textAt", "[I", true)
  | 5 => ("ClassFileIndexModel", "texts", "I", false)
  | 6 => ("ClassFileIndexModel", "sort", "[I", true)
  | 7 => ("ClassFileIndexModel", "place", "[I", true)
  | 8 => ("ClassFileIndexModel", "text", "[I", true)
  | 9 => ("ClassFileIndexModel", "flag", "[I", true)
  | 10 => ("ClassFileIndexModel", "self", "[I", true)
  | 11 => ("ClassFileIndexModel", "above", "[I", true)
  | 12 => ("ClassFileIndexModel", "box", "[I", true)
  | 13 => ("ClassFileIndexModel", "faceCount", "[I", true)
  | 14 => ("ClassFileIndexModel", "face", "[I", true)
  | 15 => ("ClassFileIndexModel", "noteCount", "[I", true)
  | 16 => ("ClassFileIndexModel", "note", "[I", true)
  | 17 => ("ClassFileIndexModel", "rest", "[I", true)
  | 18 => ("ClassFileIndexModel", "now", "I", false)
  | 19 => ("ClassFileIndexModel", "base", "I", false)
  | 20 => ("ClassFileIndexModel", "end", "I", false)
  | 21 => ("ClassFileIndexModel", "at", "I", false)
  | 22 => ("ClassFileIndexModel", "constants", "I", false)
  | 23 => ("ClassFileIndexModel", "reason", "I", false)
  | 24 => ("ClassFileIndexModel", "spot", "I", false)
  | 25 => ("ClassFileIndexModel", "left", "[I", true)
  | 26 => ("ClassFileIndexModel", "named", "[Z", true)
  | _ => ("ClassFileIndexModel", "marked", "[Z", true)
def tyX7 : Nat → FieldType := fun k => match k with
  | 0 => .array .int
  | 1 => .int
  | 2 => .array .int
  | 3 => .int
  | 4 => .array .int
  | 5 => .int
  | 6 => .array .int
  | 7 => .array .int
  | 8 => .array .int
  | 9 => .array .int
  | 10 => .array .int
  | 11 => .array .int
  | 12 => .array .int
  | 13 => .array .int
  | 14 => .array .int
  | 15 => .array .int
  | 16 => .array .int
  | 17 => .array .int
  | 18 => .int
  | 19 => .int
  | 20 => .int
  | 21 => .int
  | 22 => .int
  | 23 => .int
  | 24 => .int
  | 25 => .array .int
  | 26 => .array .boolean
  | _ => .array .boolean
theorem nmX7 : ∀ a, a < 28 → ∀ b, b < 28 → a ≠ b → (TX7 a).2.1 ≠ (TX7 b).2.1 := by decide +kernel
theorem tyX7_ok : ∀ k, k < 28 → parseFieldDescriptor (TX7 k).2.2.1 = some (tyX7 k) := by decide +kernel
set_option maxRecDepth 20000 in
theorem wlX7 : ∀ w ∈ u_ws RX7 TX7 28, w ∈ wG := wG_all (by decide +kernel)
abbrev vwCl : List vw_C := [(RX0, TX0, 8), (RX1, TX1, 5), (RX2, TX2, 2), (RX3, TX3, 11), (RX4, TX4, 3), (RX5, TX5, 3), (RX6, TX6, 5), (RX7, TX7, 28)]
theorem gW {x : Cond} {ws : List Cond} (h : ∀ w ∈ ws, w ∈ wG) : GoodIn (x :: wG) ws := fun w hw => ⟨List.mem_cons_of_mem _ (h w hw), good_of_word (List.mem_filter.mp (h w hw)).2⟩
