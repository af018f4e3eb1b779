/-! the classes: names, fields in the order of the slots, types (as printed) -/
def RX0 : String := "RangingStation$Line"
def TX0 : u_T := fun k => match k with
  | 0 => ("RangingStation$Line", "points", "D", false)
  | 1 => ("RangingStation$Line", "t", "D", false)
  | 2 => ("RangingStation$Line", "y", "D", false)
  | 3 => ("RangingStation$Line", "tt", "D", false)
  | _ => ("RangingStation$Line", "ty", "D", false)
def tyX0 : Nat → FieldType := fun k => match k with
  | 0 => .double
  | 1 => .double
  | 2 => .double
  | 3 => .double
  | _ => .double
abbrev wsX00 : List Cond := u_ws RX0 TX0 5
theorem nmX0 : ∀ a, a < 5 → ∀ b, b < 5 → a ≠ b → (TX0 a).2.1 ≠ (TX0 b).2.1 := by decide +kernel
theorem tyX0_ok : ∀ k, k < 5 → parseFieldDescriptor (TX0 k).2.2.1 = some (tyX0 k) := by decide +kernel
def RX1 : String := "RangingStation$Motion"
def TX1 : u_T := fun k => match k with
  | 0 => ("RangingStation$Motion", "range", "J", false)
  | 1 => ("RangingStation$Motion", "rate", "I", false)
  | 2 => ("RangingStation$Motion", "segments", "I", false)
  | 3 => ("RangingStation$Motion", "seconds", "[I", true)
  | _ => ("RangingStation$Motion", "accelerations", "[I", true)
def tyX1 : Nat → FieldType := fun k => match k with
  | 0 => .long
  | 1 => .int
  | 2 => .int
  | 3 => .array .int
  | _ => .array .int
abbrev wsX10 : List Cond := u_ws RX1 TX1 5
theorem nmX1 : ∀ a, a < 5 → ∀ b, b < 5 → a ≠ b → (TX1 a).2.1 ≠ (TX1 b).2.1 := by decide +kernel
theorem tyX1_ok : ∀ k, k < 5 → parseFieldDescriptor (TX1 k).2.2.1 = some (tyX1 k) := by decide +kernel
def RX2 : String := "RangingStation$Noise"
def TX2 : u_T := fun k => match k with
  | 0 => ("RangingStation$Noise", "state", "I", false)
  | _ => ("RangingStation$Noise", "amplitude", "I", false)
def tyX2 : Nat → FieldType := fun k => match k with
  | 0 => .int
  | _ => .int
abbrev wsX20 : List Cond := u_ws RX2 TX2 2
theorem nmX2 : ∀ a, a < 2 → ∀ b, b < 2 → a ≠ b → (TX2 a).2.1 ≠ (TX2 b).2.1 := by decide +kernel
theorem tyX2_ok : ∀ k, k < 2 → parseFieldDescriptor (TX2 k).2.2.1 = some (tyX2 k) := by decide +kernel
def RX3 : String := "RangingStation$Observation"
def TX3 : u_T := fun k => match k with
  | 0 => ("RangingStation$Observation", "pass", "LRangingStation$Pass;", true)
  | 1 => ("RangingStation$Observation", "time", "I", true)
  | 2 => ("RangingStation$Observation", "place", "I", true)
  | 3 => ("RangingStation$Observation", "cycles", "J", true)
  | 4 => ("RangingStation$Observation", "dopplerChange", "J", true)
  | 5 => ("RangingStation$Observation", "reading", "LRangingStation$Reading;", true)
  | 6 => ("RangingStation$Observation", "before", "LRangingStation$Observation;", true)
  | _ => ("RangingStation$Observation", "next", "LRangingStation$Observation;", false)
def tyX3 : Nat → FieldType := fun k => match k with
  | 0 => .object "RangingStation$Pass"
  | 1 => .int
  | 2 => .int
  | 3 => .long
  | 4 => .long
  | 5 => .object "RangingStation$Reading"
  | 6 => .object "RangingStation$Observation"
  | _ => .object "RangingStation$Observation"
abbrev wsX30 : List Cond := u_ws RX3 TX3 8
theorem nmX3 : ∀ a, a < 8 → ∀ b, b < 8 → a ≠ b → (TX3 a).2.1 ≠ (TX3 b).2.1 := by decide +kernel
theorem tyX3_ok : ∀ k, k < 8 → parseFieldDescriptor (TX3 k).2.2.1 = some (tyX3 k) := by decide +kernel
def RX4 : String := "RangingStation$Pass"
def TX4 : u_T := fun k => match k with
  | 0 => ("RangingStation$Pass", "number", "I", true)
  | 1 => ("RangingStation$Pass", "station", "LRangingStation$Station;", true)
  | 2 => ("RangingStation$Pass", "wavelengths", "[J", true)
  | 3 => ("RangingStation$Pass", "longest", "J", true)
  | 4 => ("RangingStation$Pass", "dopplerWavelength", "I", true)
  | 5 => ("RangingStation$Pass", "cyclesAtBegin", "J", false)
  | 6 => ("RangingStation$Pass", "slipSum", "J", false)
  | 7 => ("RangingStation$Pass", "first", "LRangingStation$Observation;", false)
  | 8 => ("RangingStation$Pass", "last", "LRangingStation$Observation;", false)
  | 9 => ("RangingStation$Pass", "count", "I", false)
  | 10 => ("RangingStation$Pass", "multiple", "J", false)
  | _ => ("RangingStation$Pass", "isJoined", "Z", false)
def tyX4 : Nat → FieldType := fun k => match k with
  | 0 => .int
  | 1 => .object "RangingStation$Station"
  | 2 => .array .long
  | 3 => .long
  | 4 => .int
  | 5 => .long
  | 6 => .long
  | 7 => .object "RangingStation$Observation"
  | 8 => .object "RangingStation$Observation"
  | 9 => .int
  | 10 => .long
  | _ => .boolean
abbrev wsX40 : List Cond := u_ws RX4 TX4 12
theorem nmX4 : ∀ a, a < 12 → ∀ b, b < 12 → a ≠ b → (TX4 a).2.1 ≠ (TX4 b).2.1 := by decide +kernel
theorem tyX4_ok : ∀ k, k < 12 → parseFieldDescriptor (TX4 k).2.2.1 = some (tyX4 k) := by decide +kernel
def RX5 : String := "RangingStation$Reading"
def TX5 : u_T := fun k => match k with
  | 0 => ("RangingStation$Reading", "wavelengths", "[J", true)
  | 1 => ("RangingStation$Reading", "phases", "[I", true)
  | _ => ("RangingStation$Reading", "estimates", "[J", true)
def tyX5 : Nat → FieldType := fun k => match k with
  | 0 => .array .long
  | 1 => .array .int
  | _ => .array .long
abbrev wsX50 : List Cond := u_ws RX5 TX5 3
theorem nmX5 : ∀ a, a < 3 → ∀ b, b < 3 → a ≠ b → (TX5 a).2.1 ≠ (TX5 b).2.1 := by decide +kernel
theorem tyX5_ok : ∀ k, k < 3 → parseFieldDescriptor (TX5 k).2.2.1 = some (tyX5 k) := by decide +kernel
def RX6 : String := "RangingStation$Station"
def TX6 : u_T := fun k => match k with
  | 0 => ("RangingStation$Station", "number", "I", true)
  | 1 => ("RangingStation$Station", "delay", "J", false)
  | 2 => ("RangingStation$Station", "estimate", "J", false)
  | _ => ("RangingStation$Station", "isCalibrated", "Z", false)
def tyX6 : Nat → FieldType := fun k => match k with
  | 0 => .int
  | 1 => .long
  | 2 => .long
  | _ => .boolean
abbrev wsX60 : List Cond := u_ws RX6 TX6 4
theorem nmX6 : ∀ a, a < 4 → ∀ b, b < 4 → a ≠ b → (TX6 a).2.1 ≠ (TX6 b).2.1 := by decide +kernel
theorem tyX6_ok : ∀ k, k < 4 → parseFieldDescriptor (TX6 k).2.2.1 = some (tyX6 k) := by decide +kernel
def RX7 : String := "RangingStation"
def TX7 : u_T := fun k => match k with
  | 0 => ("RangingStation", "motion", "LRangingStation$Motion;", true)
  | 1 => ("RangingStation", "preview", "LRangingStation$Motion;", true)
  | 2 => ("RangingStation", "clock", "I", false)
  | 3 => ("RangingStation", "stations", "[LRangingStation$Station;", true)
  | 4 => ("RangingStation", "calibrated", "[LRangingStation$Station;", true)
  | 5 => ("RangingStation", "calibratedCount", "I", false)
  | 6 => ("RangingStation", "present", "LRangingStation$Station;", false)
  | 7 => ("RangingStation", "wavelengths", "[J", false)
  | 8 => ("RangingStation", "dopplerWavelength", "I", false)
  | 9 => ("RangingStation", "noise", "LRangingStation$Noise;", true)
  | 10 => ("RangingStation", "passes", "[LRangingStation$Pass;", true)
  | 11 => ("RangingStation", "passesBegun", "I", false)
  | 12 => ("RangingStation", "running", "LRangingStation$Pass;", false)
  | 13 => ("RangingStation", "observations", "[LRangingStation$Observation;", true)
  | 14 => ("RangingStation", "observationsMade", "I", false)
  | 15 => ("RangingStation", "aPriori", "J", false)
  | 16 => ("RangingStation", "slipThreshold", "J", false)
  | _ => ("RangingStation", "window", "I", false)
def tyX7 : Nat → FieldType := fun k => match k with
  | 0 => .object "RangingStation$Motion"
  | 1 => .object "RangingStation$Motion"
  | 2 => .int
  | 3 => .array (.object "RangingStation$Station")
  | 4 => .array (.object "RangingStation$Station")
  | 5 => .int
  | 6 => .object "RangingStation$Station"
  | 7 => .array .long
  | 8 => .int
  | 9 => .object "RangingStation$Noise"
  | 10 => .array (.object "RangingStation$Pass")
  | 11 => .int
  | 12 => .object "RangingStation$Pass"
  | 13 => .array (.object "RangingStation$Observation")
  | 14 => .int
  | 15 => .long
  | 16 => .long
  | _ => .int
abbrev wsX70 : List Cond := u_ws RX7 TX7 18
theorem nmX7 : ∀ a, a < 18 → ∀ b, b < 18 → a ≠ b → (TX7 a).2.1 ≠ (TX7 b).2.1 := by decide +kernel
theorem tyX7_ok : ∀ k, k < 18 → parseFieldDescriptor (TX7 k).2.2.1 = some (tyX7 k) := by decide +kernel
def RX8 : String := "RangingStationModel"
def TX8 : u_T := fun k => match k with
  | 0 => ("RangingStationModel", "thrown", "I", false)
  | 1 => ("RangingStationModel", "range", "J", false)
  | 2 => ("RangingStationModel", "rate", "I", false)
  | 3 => ("RangingStationModel", "time", "I", false)
  | 4 => ("RangingStationModel", "seconds", "[I", true)
  | 5 => ("RangingStationModel", "acceleration", "[I", true)
  | 6 => ("RangingStationModel", "segments", "I", false)
  | 7 => ("RangingStationModel", "aheadRange", "J", false)
  | 8 => ("RangingStationModel", "aheadRate", "I", false)
  | 9 => ("RangingStationModel", "aheadSegment", "I", false)
  | 10 => ("RangingStationModel", "aheadUsed", "I", false)
  | 11 => ("RangingStationModel", "delay", "[J", true)
  | 12 => ("RangingStationModel", "estimate", "[J", true)
  | 13 => ("RangingStationModel", "tone", "[J", true)
  | 14 => ("RangingStationModel", "calibrated", "[I", true)
  | 15 => ("RangingStationModel", "calibrations", "I", false)
  | 16 => ("RangingStationModel", "station", "I", false)
  | 17 => ("RangingStationModel", "tones", "I", false)
  | 18 => ("RangingStationModel", "doppler", "I", false)
  | 19 => ("RangingStationModel", "noise", "I", false)
  | 20 => ("RangingStationModel", "seed", "I", false)
  | 21 => ("RangingStationModel", "lengths", "[J", true)
  | 22 => ("RangingStationModel", "estimates", "[J", true)
  | 23 => ("RangingStationModel", "phases", "[I", true)
  | 24 => ("RangingStationModel", "running", "I", false)
  | 25 => ("RangingStationModel", "passMany", "I", false)
  | 26 => ("RangingStationModel", "observed", "I", false)
  | 27 => ("RangingStationModel", "passStation", "[I", true)
  | 28 => ("RangingStationModel", "passTones", "[I", true)
  | 29 => ("RangingStationModel", "passDoppler", "[I", true)
  | 30 => ("RangingStationModel", "passTone", "[J", true)
  | 31 => ("RangingStationModel", "passBegin", "[J", true)
  | 32 => ("RangingStationModel", "passSlips", "[J", true)
  | 33 => ("RangingStationModel", "passAmbiguity", "[J", true)
  | 34 => ("RangingStationModel", "isJoined", "[Z", true)
  | 35 => ("RangingStationModel", "passOf", "[I", true)
  | 36 => ("RangingStationModel", "timeOf", "[I", true)
  | 37 => ("RangingStationModel", "phaseOf", "[I", true)
  | 38 => ("RangingStationModel", "countOf", "[J", true)
  | 39 => ("RangingStationModel", "prior", "J", false)
  | 40 => ("RangingStationModel", "threshold", "J", false)
  | 41 => ("RangingStationModel", "window", "I", false)
  | 42 => ("RangingStationModel", "lineRate", "D", false)
  | _ => ("RangingStationModel", "lineOffset", "D", false)
def tyX8 : Nat → FieldType := fun k => match k with
  | 0 => .int
  | 1 => .long
  | 2 => .int
  | 3 => .int
  | 4 => .array .int
  | 5 => .array .int
  | 6 => .int
  | 7 => .long
  | 8 => .int
  | 9 => .int
  | 10 => .int
  | 11 => .array .long
  | 12 => .array .long
  | 13 => .array .long
  | 14 => .array .int
  | 15 => .int
  | 16 => .int
  | 17 => .int
  | 18 => .int
  | 19 => .int
  | 20 => .int
  | 21 => .array .long
  | 22 => .array .long
  | 23 => .array .int
  | 24 => .int
  | 25 => .int
  | 26 => .int
  | 27 => .array .int
  | 28 => .array .int
  | 29 => .array .int
  | 30 => .array .long
  | 31 => .array .long
  | 32 => .array .long
  | 33 => .array .long
  | 34 => .array .boolean
  | 35 => .array .int
  | 36 => .array .int
  | 37 => .array .int
  | 38 => .array .long
  | 39 => .long
  | 40 => .long
  | 41 => .int
  | 42 => .double
  | _ => .double
abbrev wsX80 : List Cond := u_ws RX8 TX8 44
theorem nmX8 : ∀ a, a < 44 → ∀ b, b < 44 → a ≠ b → (TX8 a).2.1 ≠ (TX8 b).2.1 := by decide +kernel
theorem tyX8_ok : ∀ k, k < 44 → parseFieldDescriptor (TX8 k).2.2.1 = some (tyX8 k) := by decide +kernel
abbrev cL_law : ByteArray := code
/-- the classes of the worlds, by their kinds -/
abbrev am_cls : List vw_C := [(RX0, TX0, 5), (RX1, TX1, 5), (RX2, TX2, 2), (RX3, TX3, 8), (RX4, TX4, 12), (RX5, TX5, 3), (RX6, TX6, 4), (RX7, TX7, 18), (RX8, TX8, 44)]
