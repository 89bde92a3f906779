def RX0 : String := "ClinicBooks$Book"
def TX0 : u_T := fun k => match k with
  | 0 => ("ClinicBooks$Book", "kinds", "[I", true)
  | 1 => ("ClinicBooks$Book", "numbers", "[I", true)
  | _ => ("ClinicBooks$Book", "size", "I", false)
def tyX0 : Nat → FieldType := fun k => match k with
  | 0 => .array .int
  | 1 => .array .int
  | _ => .int
theorem nmX0 : ∀ a, a < 3 → ∀ b, b < 3 → a ≠ b → (TX0 a).2.1 ≠ (TX0 b).2.1 := by decide +kernel
theorem tyX0_ok : ∀ k, k < 3 → parseFieldDescriptor (TX0 k).2.2.1 = some (tyX0 k) := by decide +kernel
theorem inX0 : ∀ w ∈ u_ws RX0 TX0 3, w ∈ lw_tbl := by decide +kernel
def RX1 : String := "ClinicBooks$Clinic"
def TX1 : u_T := fun k => match k with
  | 0 => ("ClinicBooks$Clinic", "self", "I", true)
  | 1 => ("ClinicBooks$Clinic", "known", "[I", true)
  | _ => ("ClinicBooks$Clinic", "heard", "[I", true)
def tyX1 : Nat → FieldType := fun k => match k with
  | 0 => .int
  | 1 => .array .int
  | _ => .array .int
theorem nmX1 : ∀ a, a < 3 → ∀ b, b < 3 → a ≠ b → (TX1 a).2.1 ≠ (TX1 b).2.1 := by decide +kernel
theorem tyX1_ok : ∀ k, k < 3 → parseFieldDescriptor (TX1 k).2.2.1 = some (tyX1 k) := by decide +kernel
theorem inX1 : ∀ w ∈ u_ws RX1 TX1 3, w ∈ lw_tbl := by decide +kernel
def RX2 : String := "ClinicBooks$Course"
def TX2 : u_T := fun k => match k with
  | 0 => ("ClinicBooks$Course", "days", "[I", true)
  | 1 => ("ClinicBooks$Course", "size", "I", false)
  | 2 => ("ClinicBooks$Course", "counted", "I", false)
  | _ => ("ClinicBooks$Course", "lastDay", "I", false)
def tyX2 : Nat → FieldType := fun k => match k with
  | 0 => .array .int
  | 1 => .int
  | 2 => .int
  | _ => .int
theorem nmX2 : ∀ a, a < 4 → ∀ b, b < 4 → a ≠ b → (TX2 a).2.1 ≠ (TX2 b).2.1 := by decide +kernel
theorem tyX2_ok : ∀ k, k < 4 → parseFieldDescriptor (TX2 k).2.2.1 = some (tyX2 k) := by decide +kernel
theorem inX2 : ∀ w ∈ u_ws RX2 TX2 4, w ∈ lw_tbl := by decide +kernel
def RX3 : String := "ClinicBooks$Names"
def TX3 : u_T := fun k => match k with
  | _ => ("ClinicBooks$Names", "least", "[I", true)
def tyX3 : Nat → FieldType := fun k => match k with
  | _ => .array .int
theorem nmX3 : ∀ a, a < 1 → ∀ b, b < 1 → a ≠ b → (TX3 a).2.1 ≠ (TX3 b).2.1 := by decide +kernel
theorem tyX3_ok : ∀ k, k < 1 → parseFieldDescriptor (TX3 k).2.2.1 = some (tyX3 k) := by decide +kernel
theorem inX3 : ∀ w ∈ u_ws RX3 TX3 1, w ∈ lw_tbl := by decide +kernel
def RX4 : String := "ClinicBooks$Schedule"
def TX4 : u_T := fun k => match k with
  | 0 => ("ClinicBooks$Schedule", "doses", "I", false)
  | 1 => ("ClinicBooks$Schedule", "gap1", "I", false)
  | 2 => ("ClinicBooks$Schedule", "gap2", "I", false)
  | _ => ("ClinicBooks$Schedule", "gap3", "I", false)
def tyX4 : Nat → FieldType := fun k => match k with
  | 0 => .int
  | 1 => .int
  | 2 => .int
  | _ => .int
theorem nmX4 : ∀ a, a < 4 → ∀ b, b < 4 → a ≠ b → (TX4 a).2.1 ≠ (TX4 b).2.1 := by decide +kernel
theorem tyX4_ok : ∀ k, k < 4 → parseFieldDescriptor (TX4 k).2.2.1 = some (tyX4 k) := by decide +kernel
theorem inX4 : ∀ w ∈ u_ws RX4 TX4 4, w ∈ lw_tbl := by decide +kernel
def RX5 : String := "ClinicBooks$Stick"
def TX5 : u_T := fun k => match k with
  | 0 => ("ClinicBooks$Stick", "writerKnew", "[I", true)
  | 1 => ("ClinicBooks$Stick", "entryBooks", "[I", true)
  | 2 => ("ClinicBooks$Stick", "entryNumbers", "[I", true)
  | 3 => ("ClinicBooks$Stick", "writer", "I", false)
  | 4 => ("ClinicBooks$Stick", "entryCount", "I", false)
  | _ => ("ClinicBooks$Stick", "wholePages", "I", false)
def tyX5 : Nat → FieldType := fun k => match k with
  | 0 => .array .int
  | 1 => .array .int
  | 2 => .array .int
  | 3 => .int
  | 4 => .int
  | _ => .int
theorem nmX5 : ∀ a, a < 6 → ∀ b, b < 6 → a ≠ b → (TX5 a).2.1 ≠ (TX5 b).2.1 := by decide +kernel
theorem tyX5_ok : ∀ k, k < 6 → parseFieldDescriptor (TX5 k).2.2.1 = some (tyX5 k) := by decide +kernel
theorem inX5 : ∀ w ∈ u_ws RX5 TX5 6, w ∈ lw_tbl := by decide +kernel
def RX6 : String := "ClinicBooks"
def TX6 : u_T := fun k => match k with
  | 0 => ("ClinicBooks", "schedules", "[LClinicBooks$Schedule;", true)
  | 1 => ("ClinicBooks", "books", "[LClinicBooks$Book;", true)
  | 2 => ("ClinicBooks", "clinics", "[LClinicBooks$Clinic;", true)
  | 3 => ("ClinicBooks", "sticks", "[LClinicBooks$Stick;", true)
  | 4 => ("ClinicBooks", "names", "LClinicBooks$Names;", true)
  | _ => ("ClinicBooks", "course", "LClinicBooks$Course;", true)
def tyX6 : Nat → FieldType := fun k => match k with
  | 0 => .array (.object "ClinicBooks$Schedule")
  | 1 => .array (.object "ClinicBooks$Book")
  | 2 => .array (.object "ClinicBooks$Clinic")
  | 3 => .array (.object "ClinicBooks$Stick")
  | 4 => .object "ClinicBooks$Names"
  | _ => .object "ClinicBooks$Course"
theorem nmX6 : ∀ a, a < 6 → ∀ b, b < 6 → a ≠ b → (TX6 a).2.1 ≠ (TX6 b).2.1 := by decide +kernel
theorem tyX6_ok : ∀ k, k < 6 → parseFieldDescriptor (TX6 k).2.2.1 = some (tyX6 k) := by decide +kernel
theorem inX6 : ∀ w ∈ u_ws RX6 TX6 6, w ∈ lw_tbl := by decide +kernel
def RX7 : String := "ClinicBooksModel"
def TX7 : u_T := fun k => match k with
  | 0 => ("ClinicBooksModel", "thrown", "I", false)
  | 1 => ("ClinicBooksModel", "doses", "[I", true)
  | 2 => ("ClinicBooksModel", "gap", "[I", true)
  | 3 => ("ClinicBooksModel", "entries", "[I", true)
  | 4 => ("ClinicBooksModel", "kind", "[I", true)
  | 5 => ("ClinicBooksModel", "numbers", "[I", true)
  | 6 => ("ClinicBooksModel", "knows", "[I", true)
  | 7 => ("ClinicBooksModel", "hears", "[I", true)
  | 8 => ("ClinicBooksModel", "whole", "[I", true)
  | 9 => ("ClinicBooksModel", "writer", "[I", true)
  | 10 => ("ClinicBooksModel", "says", "[I", true)
  | 11 => ("ClinicBooksModel", "many", "[I", true)
  | 12 => ("ClinicBooksModel", "which", "[I", true)
  | 13 => ("ClinicBooksModel", "name", "[I", true)
  | 14 => ("ClinicBooksModel", "counted", "I", false)
  | 15 => ("ClinicBooksModel", "latest", "I", false)
  | _ => ("ClinicBooksModel", "guarded", "I", false)
def tyX7 : Nat → FieldType := fun k => match k with
  | 0 => .int
  | 1 => .array .int
  | 2 => .array .int
  | 3 => .array .int
  | 4 => .array .int
  | 5 => .array .int
  | 6 => .array .int
  | 7 => .array .int
  | 8 => .array .int
  | 9 => .array .int
  | 10 => .array .int
  | 11 => .array .int
  | 12 => .array .int
  | 13 => .array .int
  | 14 => .int
  | 15 => .int
  | _ => .int
theorem nmX7 : ∀ a, a < 17 → ∀ b, b < 17 → a ≠ b → (TX7 a).2.1 ≠ (TX7 b).2.1 := by decide +kernel
theorem tyX7_ok : ∀ k, k < 17 → parseFieldDescriptor (TX7 k).2.2.1 = some (tyX7 k) := by decide +kernel
theorem inX7 : ∀ w ∈ u_ws RX7 TX7 17, w ∈ lw_tbl := by decide +kernel
def RL : String := "ClinicBooksLaw"
abbrev vwCl : List vw_C := [(RX0, TX0, 3), (RX1, TX1, 3), (RX2, TX2, 4), (RX3, TX3, 1), (RX4, TX4, 4), (RX5, TX5, 6), (RX6, TX6, 6), (RX7, TX7, 17)]
