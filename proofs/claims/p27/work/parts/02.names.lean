noncomputable def RX0 : String := "ThreadBank$Clearing"
noncomputable def TX0 : u_T := fun k => match k with
  | 0 => ("ThreadBank$Clearing", "sums", "[I", true)
  | 1 => ("ThreadBank$Clearing", "best", "I", false)
  | _ => ("ThreadBank$Clearing", "gain", "I", false)
noncomputable def tyX0 : Nat → FieldType := fun k => match k with
  | 0 => .array .int
  | 1 => .int
  | _ => .int
noncomputable abbrev wsX00 : List Cond := u_ws RX0 TX0 3
theorem nmX0 : ∀ a, a < 3 → ∀ b, b < 3 → a ≠ b → (TX0 a).2.1 ≠ (TX0 b).2.1 := by decide +kernel
theorem tyX0_ok : ∀ k, k < 3 → parseFieldDescriptor (TX0 k).2.2.1 = some (tyX0 k) := by decide +kernel
noncomputable def RX1 : String := "ThreadBank$Memory"
noncomputable def TX1 : u_T := fun k => match k with
  | 0 => ("ThreadBank$Memory", "kinds", "[I", true)
  | 1 => ("ThreadBank$Memory", "places", "[I", true)
  | 2 => ("ThreadBank$Memory", "pairs", "[I", true)
  | 3 => ("ThreadBank$Memory", "knots", "[I", true)
  | 4 => ("ThreadBank$Memory", "seenPairs", "[I", true)
  | 5 => ("ThreadBank$Memory", "seenSums", "[I", true)
  | 6 => ("ThreadBank$Memory", "clerks", "I", false)
  | 7 => ("ThreadBank$Memory", "threads", "I", false)
  | 8 => ("ThreadBank$Memory", "today", "I", false)
  | _ => ("ThreadBank$Memory", "seen", "I", false)
noncomputable def tyX1 : Nat → FieldType := fun k => match k with
  | 0 => .array .int
  | 1 => .array .int
  | 2 => .array .int
  | 3 => .array .int
  | 4 => .array .int
  | 5 => .array .int
  | 6 => .int
  | 7 => .int
  | 8 => .int
  | _ => .int
noncomputable abbrev wsX10 : List Cond := u_ws RX1 TX1 10
theorem nmX1 : ∀ a, a < 10 → ∀ b, b < 10 → a ≠ b → (TX1 a).2.1 ≠ (TX1 b).2.1 := by decide +kernel
theorem tyX1_ok : ∀ k, k < 10 → parseFieldDescriptor (TX1 k).2.2.1 = some (tyX1 k) := by decide +kernel
noncomputable def RX2 : String := "ThreadBank$Sheets"
noncomputable def TX2 : u_T := fun k => match k with
  | 0 => ("ThreadBank$Sheets", "cells", "[I", true)
  | 1 => ("ThreadBank$Sheets", "lanes", "[I", true)
  | _ => ("ThreadBank$Sheets", "sizes", "[I", true)
noncomputable def tyX2 : Nat → FieldType := fun k => match k with
  | 0 => .array .int
  | 1 => .array .int
  | _ => .array .int
noncomputable abbrev wsX20 : List Cond := u_ws RX2 TX2 3
theorem nmX2 : ∀ a, a < 3 → ∀ b, b < 3 → a ≠ b → (TX2 a).2.1 ≠ (TX2 b).2.1 := by decide +kernel
theorem tyX2_ok : ∀ k, k < 3 → parseFieldDescriptor (TX2 k).2.2.1 = some (tyX2 k) := by decide +kernel
noncomputable def RX3 : String := "ThreadBank$TextReader"
noncomputable def TX3 : u_T := fun k => match k with
  | 0 => ("ThreadBank$TextReader", "tape", "[B", true)
  | 1 => ("ThreadBank$TextReader", "told", "LThreadBank$Memory;", true)
  | 2 => ("ThreadBank$TextReader", "length", "I", false)
  | 3 => ("ThreadBank$TextReader", "lines", "I", false)
  | 4 => ("ThreadBank$TextReader", "faultKind", "I", false)
  | 5 => ("ThreadBank$TextReader", "faultPlace", "I", false)
  | 6 => ("ThreadBank$TextReader", "at", "I", false)
  | 7 => ("ThreadBank$TextReader", "token", "I", false)
  | 8 => ("ThreadBank$TextReader", "start", "I", false)
  | 9 => ("ThreadBank$TextReader", "number", "I", false)
  | _ => ("ThreadBank$TextReader", "dayTold", "Z", false)
noncomputable def tyX3 : Nat → FieldType := fun k => match k with
  | 0 => .array .byte
  | 1 => .object "ThreadBank$Memory"
  | 2 => .int
  | 3 => .int
  | 4 => .int
  | 5 => .int
  | 6 => .int
  | 7 => .int
  | 8 => .int
  | 9 => .int
  | _ => .boolean
noncomputable abbrev wsX30 : List Cond := u_ws RX3 TX3 11
theorem nmX3 : ∀ a, a < 11 → ∀ b, b < 11 → a ≠ b → (TX3 a).2.1 ≠ (TX3 b).2.1 := by decide +kernel
theorem tyX3_ok : ∀ k, k < 11 → parseFieldDescriptor (TX3 k).2.2.1 = some (tyX3 k) := by decide +kernel
noncomputable def RX4 : String := "ThreadBank"
noncomputable def TX4 : u_T := fun k => match k with
  | 0 => ("ThreadBank", "now", "LThreadBank$Memory;", true)
  | 1 => ("ThreadBank", "firstImage", "LThreadBank$Memory;", true)
  | 2 => ("ThreadBank", "secondImage", "LThreadBank$Memory;", true)
  | 3 => ("ThreadBank", "imageThere", "[Z", true)
  | 4 => ("ThreadBank", "reader", "LThreadBank$TextReader;", true)
  | 5 => ("ThreadBank", "clearing", "LThreadBank$Clearing;", true)
  | 6 => ("ThreadBank", "sheets", "LThreadBank$Sheets;", true)
  | 7 => ("ThreadBank", "originals", "[I", true)
  | _ => ("ThreadBank", "latestTorn", "I", false)
noncomputable def tyX4 : Nat → FieldType := fun k => match k with
  | 0 => .object "ThreadBank$Memory"
  | 1 => .object "ThreadBank$Memory"
  | 2 => .object "ThreadBank$Memory"
  | 3 => .array .boolean
  | 4 => .object "ThreadBank$TextReader"
  | 5 => .object "ThreadBank$Clearing"
  | 6 => .object "ThreadBank$Sheets"
  | 7 => .array .int
  | _ => .int
noncomputable abbrev wsX40 : List Cond := u_ws RX4 TX4 9
theorem nmX4 : ∀ a, a < 9 → ∀ b, b < 9 → a ≠ b → (TX4 a).2.1 ≠ (TX4 b).2.1 := by decide +kernel
theorem tyX4_ok : ∀ k, k < 9 → parseFieldDescriptor (TX4 k).2.2.1 = some (tyX4 k) := by decide +kernel
noncomputable def RX5 : String := "ThreadBankModel"
noncomputable def TX5 : u_T := fun k => match k with
  | 0 => ("ThreadBankModel", "st", "[I", true)
  | 1 => ("ThreadBankModel", "at", "[I", true)
  | 2 => ("ThreadBankModel", "isKept", "[Z", true)
  | 3 => ("ThreadBankModel", "clerks", "I", false)
  | 4 => ("ThreadBankModel", "draft", "[I", true)
  | 5 => ("ThreadBankModel", "dClerks", "I", false)
  | 6 => ("ThreadBankModel", "hasDay", "Z", false)
  | 7 => ("ThreadBankModel", "highest", "I", false)
  | 8 => ("ThreadBankModel", "tape", "[I", true)
  | 9 => ("ThreadBankModel", "taped", "I", false)
  | 10 => ("ThreadBankModel", "pos", "I", false)
  | 11 => ("ThreadBankModel", "from", "I", false)
  | 12 => ("ThreadBankModel", "sort", "I", false)
  | 13 => ("ThreadBankModel", "value", "I", false)
  | 14 => ("ThreadBankModel", "fault", "I", false)
  | 15 => ("ThreadBankModel", "wrongAt", "I", false)
  | 16 => ("ThreadBankModel", "owes", "[I", true)
  | 17 => ("ThreadBankModel", "row", "[I", true)
  | 18 => ("ThreadBankModel", "ringLess", "I", false)
  | 19 => ("ThreadBankModel", "ringSize", "I", false)
  | 20 => ("ThreadBankModel", "ringCode", "I", false)
  | 21 => ("ThreadBankModel", "groups", "[I", true)
  | 22 => ("ThreadBankModel", "lanes", "[I", true)
  | 23 => ("ThreadBankModel", "sizes", "[I", true)
  | 24 => ("ThreadBankModel", "cells", "[I", true)
  | _ => ("ThreadBankModel", "torn", "I", false)
noncomputable def tyX5 : Nat → FieldType := fun k => match k with
  | 0 => .array .int
  | 1 => .array .int
  | 2 => .array .boolean
  | 3 => .int
  | 4 => .array .int
  | 5 => .int
  | 6 => .boolean
  | 7 => .int
  | 8 => .array .int
  | 9 => .int
  | 10 => .int
  | 11 => .int
  | 12 => .int
  | 13 => .int
  | 14 => .int
  | 15 => .int
  | 16 => .array .int
  | 17 => .array .int
  | 18 => .int
  | 19 => .int
  | 20 => .int
  | 21 => .array .int
  | 22 => .array .int
  | 23 => .array .int
  | 24 => .array .int
  | _ => .int
noncomputable abbrev wsX50 : List Cond := u_ws RX5 TX5 26
theorem nmX5 : ∀ a, a < 26 → ∀ b, b < 26 → a ≠ b → (TX5 a).2.1 ≠ (TX5 b).2.1 := by decide +kernel
theorem tyX5_ok : ∀ k, k < 26 → parseFieldDescriptor (TX5 k).2.2.1 = some (tyX5 k) := by decide +kernel
noncomputable abbrev vwCl : List vw_C := [(RX0, TX0, 3), (RX1, TX1, 10), (RX2, TX2, 3), (RX3, TX3, 11), (RX4, TX4, 9), (RX5, TX5, 26)]
