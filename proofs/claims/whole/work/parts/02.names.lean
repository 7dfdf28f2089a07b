def RX0 : String := "MudBoot$Land"
def TX0 : u_T := fun k => match k with
  | 0 => ("MudBoot$Land", "wide", "I", true)
  | 1 => ("MudBoot$Land", "high", "I", true)
  | 2 => ("MudBoot$Land", "cells", "I", true)
  | 3 => ("MudBoot$Land", "dug", "[I", true)
  | 4 => ("MudBoot$Land", "isDug", "[Z", true)
  | 5 => ("MudBoot$Land", "origin", "[I", true)
  | 6 => ("MudBoot$Land", "barred", "[Z", true)
  | _ => ("MudBoot$Land", "dugCount", "I", false)
def tyX0 : Nat → FieldType := fun k => match k with
  | 0 => .int
  | 1 => .int
  | 2 => .int
  | 3 => .array .int
  | 4 => .array .boolean
  | 5 => .array .int
  | 6 => .array .boolean
  | _ => .int
theorem nmX0 : ∀ a, a < 8 → ∀ b, b < 8 → a ≠ b → (TX0 a).2.1 ≠ (TX0 b).2.1 := by decide +kernel
theorem tyX0_ok : ∀ k, k < 8 → parseFieldDescriptor (TX0 k).2.2.1 = some (tyX0 k) := by decide +kernel
def RX1 : String := "MudBoot$Laws"
def TX1 : u_T := fun k => match k with
  | 0 => ("MudBoot$Laws", "tape", "[C", true)
  | 1 => ("MudBoot$Laws", "code", "[I", true)
  | 2 => ("MudBoot$Laws", "codeLengths", "[I", true)
  | 3 => ("MudBoot$Laws", "length", "I", false)
  | 4 => ("MudBoot$Laws", "hasRead", "Z", false)
  | 5 => ("MudBoot$Laws", "flaw", "I", false)
  | 6 => ("MudBoot$Laws", "place", "I", false)
  | 7 => ("MudBoot$Laws", "kinds", "[I", true)
  | 8 => ("MudBoot$Laws", "begins", "[I", true)
  | 9 => ("MudBoot$Laws", "numbers", "[I", true)
  | 10 => ("MudBoot$Laws", "tokens", "I", false)
  | 11 => ("MudBoot$Laws", "next", "I", false)
  | 12 => ("MudBoot$Laws", "kind", "I", false)
  | 13 => ("MudBoot$Laws", "law", "I", false)
  | 14 => ("MudBoot$Laws", "hasTake", "Z", false)
  | _ => ("MudBoot$Laws", "hasLose", "Z", false)
def tyX1 : Nat → FieldType := fun k => match k with
  | 0 => .array .char
  | 1 => .array .int
  | 2 => .array .int
  | 3 => .int
  | 4 => .boolean
  | 5 => .int
  | 6 => .int
  | 7 => .array .int
  | 8 => .array .int
  | 9 => .array .int
  | 10 => .int
  | 11 => .int
  | 12 => .int
  | 13 => .int
  | 14 => .boolean
  | _ => .boolean
theorem nmX1 : ∀ a, a < 16 → ∀ b, b < 16 → a ≠ b → (TX1 a).2.1 ≠ (TX1 b).2.1 := by decide +kernel
theorem tyX1_ok : ∀ k, k < 16 → parseFieldDescriptor (TX1 k).2.2.1 = some (tyX1 k) := by decide +kernel
def RX2 : String := "MudBoot$Layers"
def TX2 : u_T := fun k => match k with
  | 0 => ("MudBoot$Layers", "amounts", "[I", true)
  | _ => ("MudBoot$Layers", "count", "I", false)
def tyX2 : Nat → FieldType := fun k => match k with
  | 0 => .array .int
  | _ => .int
theorem nmX2 : ∀ a, a < 2 → ∀ b, b < 2 → a ≠ b → (TX2 a).2.1 ≠ (TX2 b).2.1 := by decide +kernel
theorem tyX2_ok : ∀ k, k < 2 → parseFieldDescriptor (TX2 k).2.2.1 = some (tyX2 k) := by decide +kernel
def RX3 : String := "MudBoot$Pairing"
def TX3 : u_T := fun k => match k with
  | 0 => ("MudBoot$Pairing", "partners", "[I", true)
  | 1 => ("MudBoot$Pairing", "costs", "[I", true)
  | 2 => ("MudBoot$Pairing", "least", "I", false)
  | 3 => ("MudBoot$Pairing", "walkedAlone", "I", false)
  | _ => ("MudBoot$Pairing", "bootAlone", "I", false)
def tyX3 : Nat → FieldType := fun k => match k with
  | 0 => .array .int
  | 1 => .array .int
  | 2 => .int
  | 3 => .int
  | _ => .int
theorem nmX3 : ∀ a, a < 5 → ∀ b, b < 5 → a ≠ b → (TX3 a).2.1 ≠ (TX3 b).2.1 := by decide +kernel
theorem tyX3_ok : ∀ k, k < 5 → parseFieldDescriptor (TX3 k).2.2.1 = some (tyX3 k) := by decide +kernel
def RX4 : String := "MudBoot$Roads"
def TX4 : u_T := fun k => match k with
  | 0 => ("MudBoot$Roads", "distances", "[I", true)
  | 1 => ("MudBoot$Roads", "queue", "[I", true)
  | 2 => ("MudBoot$Roads", "costs", "[I", true)
  | 3 => ("MudBoot$Roads", "chosen", "[I", true)
  | _ => ("MudBoot$Roads", "leastCost", "I", false)
def tyX4 : Nat → FieldType := fun k => match k with
  | 0 => .array .int
  | 1 => .array .int
  | 2 => .array .int
  | 3 => .array .int
  | _ => .int
theorem nmX4 : ∀ a, a < 5 → ∀ b, b < 5 → a ≠ b → (TX4 a).2.1 ≠ (TX4 b).2.1 := by decide +kernel
theorem tyX4_ok : ∀ k, k < 5 → parseFieldDescriptor (TX4 k).2.2.1 = some (tyX4 k) := by decide +kernel
def RX5 : String := "MudBoot$Rules"
def TX5 : u_T := fun k => match k with
  | 0 => ("MudBoot$Rules", "bound", "I", false)
  | 1 => ("MudBoot$Rules", "pace", "I", false)
  | 2 => ("MudBoot$Rules", "keep", "I", false)
  | 3 => ("MudBoot$Rules", "missing", "I", false)
  | 4 => ("MudBoot$Rules", "odd", "I", false)
  | 5 => ("MudBoot$Rules", "beginning", "I", false)
  | 6 => ("MudBoot$Rules", "flowersFrom", "[I", true)
  | _ => ("MudBoot$Rules", "flowersTo", "[I", true)
def tyX5 : Nat → FieldType := fun k => match k with
  | 0 => .int
  | 1 => .int
  | 2 => .int
  | 3 => .int
  | 4 => .int
  | 5 => .int
  | 6 => .array .int
  | _ => .array .int
theorem nmX5 : ∀ a, a < 8 → ∀ b, b < 8 → a ≠ b → (TX5 a).2.1 ≠ (TX5 b).2.1 := by decide +kernel
theorem tyX5_ok : ∀ k, k < 8 → parseFieldDescriptor (TX5 k).2.2.1 = some (tyX5 k) := by decide +kernel
def RX6 : String := "MudBoot$State"
def TX6 : u_T := fun k => match k with
  | 0 => ("MudBoot$State", "land", "LMudBoot$Land;", true)
  | 1 => ("MudBoot$State", "boot", "LMudBoot$Layers;", true)
  | 2 => ("MudBoot$State", "told", "LMudBoot$Rules;", true)
  | 3 => ("MudBoot$State", "stories", "LMudBoot$Stories;", true)
  | 4 => ("MudBoot$State", "verdicts", "LMudBoot$Verdicts;", true)
  | 5 => ("MudBoot$State", "lawCount", "I", false)
  | _ => ("MudBoot$State", "theLaw", "I", false)
def tyX6 : Nat → FieldType := fun k => match k with
  | 0 => .object "MudBoot$Land"
  | 1 => .object "MudBoot$Layers"
  | 2 => .object "MudBoot$Rules"
  | 3 => .object "MudBoot$Stories"
  | 4 => .object "MudBoot$Verdicts"
  | 5 => .int
  | _ => .int
theorem nmX6 : ∀ a, a < 7 → ∀ b, b < 7 → a ≠ b → (TX6 a).2.1 ≠ (TX6 b).2.1 := by decide +kernel
theorem tyX6_ok : ∀ k, k < 7 → parseFieldDescriptor (TX6 k).2.2.1 = some (tyX6 k) := by decide +kernel
def RX7 : String := "MudBoot$Stories"
def TX7 : u_T := fun k => match k with
  | 0 => ("MudBoot$Stories", "steps", "[I", true)
  | _ => ("MudBoot$Stories", "counts", "[I", true)
def tyX7 : Nat → FieldType := fun k => match k with
  | 0 => .array .int
  | _ => .array .int
theorem nmX7 : ∀ a, a < 2 → ∀ b, b < 2 → a ≠ b → (TX7 a).2.1 ≠ (TX7 b).2.1 := by decide +kernel
theorem tyX7_ok : ∀ k, k < 2 → parseFieldDescriptor (TX7 k).2.2.1 = some (tyX7 k) := by decide +kernel
def RX8 : String := "MudBoot$Survey"
def TX8 : u_T := fun k => match k with
  | 0 => ("MudBoot$Survey", "soils", "[I", true)
  | 1 => ("MudBoot$Survey", "totals", "[I", true)
  | 2 => ("MudBoot$Survey", "fars", "[I", true)
  | 3 => ("MudBoot$Survey", "twins", "[I", true)
  | 4 => ("MudBoot$Survey", "parting", "[I", true)
  | 5 => ("MudBoot$Survey", "firstLayers", "[I", true)
  | 6 => ("MudBoot$Survey", "cells", "I", false)
  | 7 => ("MudBoot$Survey", "layers", "I", false)
  | 8 => ("MudBoot$Survey", "bound", "I", false)
  | 9 => ("MudBoot$Survey", "trowelCell", "I", false)
  | _ => ("MudBoot$Survey", "trowelWorth", "I", false)
def tyX8 : Nat → FieldType := fun k => match k with
  | 0 => .array .int
  | 1 => .array .int
  | 2 => .array .int
  | 3 => .array .int
  | 4 => .array .int
  | 5 => .array .int
  | 6 => .int
  | 7 => .int
  | 8 => .int
  | 9 => .int
  | _ => .int
theorem nmX8 : ∀ a, a < 11 → ∀ b, b < 11 → a ≠ b → (TX8 a).2.1 ≠ (TX8 b).2.1 := by decide +kernel
theorem tyX8_ok : ∀ k, k < 11 → parseFieldDescriptor (TX8 k).2.2.1 = some (tyX8 k) := by decide +kernel
def RX9 : String := "MudBoot$Verdicts"
def TX9 : u_T := fun k => match k with
  | 0 => ("MudBoot$Verdicts", "lookers", "[I", true)
  | 1 => ("MudBoot$Verdicts", "places", "[I", true)
  | 2 => ("MudBoot$Verdicts", "said", "[Z", true)
  | 3 => ("MudBoot$Verdicts", "knowing", "[Z", true)
  | _ => ("MudBoot$Verdicts", "count", "I", false)
def tyX9 : Nat → FieldType := fun k => match k with
  | 0 => .array .int
  | 1 => .array .int
  | 2 => .array .boolean
  | 3 => .array .boolean
  | _ => .int
theorem nmX9 : ∀ a, a < 5 → ∀ b, b < 5 → a ≠ b → (TX9 a).2.1 ≠ (TX9 b).2.1 := by decide +kernel
theorem tyX9_ok : ∀ k, k < 5 → parseFieldDescriptor (TX9 k).2.2.1 = some (tyX9 k) := by decide +kernel
def RX10 : String := "MudBoot$Walk"
def TX10 : u_T := fun k => match k with
  | 0 => ("MudBoot$Walk", "mud", "LMudBoot$Layers;", true)
  | 1 => ("MudBoot$Walk", "soil", "[I", true)
  | 2 => ("MudBoot$Walk", "soilAll", "I", false)
  | 3 => ("MudBoot$Walk", "words", "[I", true)
  | 4 => ("MudBoot$Walk", "stack", "[I", true)
  | 5 => ("MudBoot$Walk", "top", "I", false)
  | 6 => ("MudBoot$Walk", "laws", "LMudBoot$Laws;", false)
  | _ => ("MudBoot$Walk", "law", "I", false)
def tyX10 : Nat → FieldType := fun k => match k with
  | 0 => .object "MudBoot$Layers"
  | 1 => .array .int
  | 2 => .int
  | 3 => .array .int
  | 4 => .array .int
  | 5 => .int
  | 6 => .object "MudBoot$Laws"
  | _ => .int
theorem nmX10 : ∀ a, a < 8 → ∀ b, b < 8 → a ≠ b → (TX10 a).2.1 ≠ (TX10 b).2.1 := by decide +kernel
theorem tyX10_ok : ∀ k, k < 8 → parseFieldDescriptor (TX10 k).2.2.1 = some (tyX10 k) := by decide +kernel
def RX11 : String := "MudBoot"
def TX11 : u_T := fun k => match k with
  | 0 => ("MudBoot", "now", "LMudBoot$State;", true)
  | 1 => ("MudBoot", "kept", "LMudBoot$State;", true)
  | 2 => ("MudBoot", "survey", "LMudBoot$Survey;", true)
  | 3 => ("MudBoot", "roads", "LMudBoot$Roads;", true)
  | 4 => ("MudBoot", "laws", "LMudBoot$Laws;", true)
  | 5 => ("MudBoot", "walk", "LMudBoot$Walk;", true)
  | _ => ("MudBoot", "pairing", "LMudBoot$Pairing;", true)
def tyX11 : Nat → FieldType := fun k => match k with
  | 0 => .object "MudBoot$State"
  | 1 => .object "MudBoot$State"
  | 2 => .object "MudBoot$Survey"
  | 3 => .object "MudBoot$Roads"
  | 4 => .object "MudBoot$Laws"
  | 5 => .object "MudBoot$Walk"
  | _ => .object "MudBoot$Pairing"
theorem nmX11 : ∀ a, a < 7 → ∀ b, b < 7 → a ≠ b → (TX11 a).2.1 ≠ (TX11 b).2.1 := by decide +kernel
theorem tyX11_ok : ∀ k, k < 7 → parseFieldDescriptor (TX11 k).2.2.1 = some (tyX11 k) := by decide +kernel
def RX12 : String := "MudBootModel"
def TX12 : u_T := fun k => match k with
  | 0 => ("MudBootModel", "wide", "I", true)
  | 1 => ("MudBootModel", "cells", "I", true)
  | 2 => ("MudBootModel", "a", "[I", true)
  | 3 => ("MudBootModel", "image", "[I", true)
  | 4 => ("MudBootModel", "tape", "[B", true)
  | 5 => ("MudBootModel", "taped", "I", false)
  | 6 => ("MudBootModel", "fault", "I", false)
  | 7 => ("MudBootModel", "faultAt", "I", false)
  | 8 => ("MudBootModel", "clauses", "[I", true)
  | 9 => ("MudBootModel", "clauseWord", "[I", true)
  | 10 => ("MudBootModel", "clauseAt", "[I", true)
  | 11 => ("MudBootModel", "order", "[I", true)
  | 12 => ("MudBootModel", "value", "[I", true)
  | 13 => ("MudBootModel", "ground", "[I", true)
  | 14 => ("MudBootModel", "groundAll", "I", false)
  | 15 => ("MudBootModel", "one", "[J", true)
  | 16 => ("MudBootModel", "other", "[J", true)
  | 17 => ("MudBootModel", "soils", "[J", true)
  | 18 => ("MudBootModel", "paces", "[I", true)
  | 19 => ("MudBootModel", "least", "[I", true)
  | 20 => ("MudBootModel", "rows", "[I", true)
  | 21 => ("MudBootModel", "fars", "[I", true)
  | 22 => ("MudBootModel", "early", "[I", true)
  | 23 => ("MudBootModel", "late", "[I", true)
  | 24 => ("MudBootModel", "length", "I", false)
  | 25 => ("MudBootModel", "at", "I", false)
  | 26 => ("MudBootModel", "token", "I", false)
  | 27 => ("MudBootModel", "sort", "I", false)
  | 28 => ("MudBootModel", "told", "I", false)
  | 29 => ("MudBootModel", "wrong", "I", false)
  | 30 => ("MudBootModel", "wrongAt", "I", false)
  | 31 => ("MudBootModel", "open", "I", false)
  | 32 => ("MudBootModel", "frames", "I", false)
  | 33 => ("MudBootModel", "frame", "[I", true)
  | 34 => ("MudBootModel", "compare", "[I", true)
  | 35 => ("MudBootModel", "waits", "I", false)
  | 36 => ("MudBootModel", "wait", "[I", true)
  | 37 => ("MudBootModel", "waitFrame", "[I", true)
  | 38 => ("MudBootModel", "state", "I", false)
  | 39 => ("MudBootModel", "newClauses", "I", false)
  | 40 => ("MudBootModel", "newWord", "[I", true)
  | 41 => ("MudBootModel", "newAt", "[I", true)
  | 42 => ("MudBootModel", "newOrders", "I", false)
  | 43 => ("MudBootModel", "newOrder", "[I", true)
  | 44 => ("MudBootModel", "newValue", "[I", true)
  | 45 => ("MudBootModel", "name", "[I", true)
  | 46 => ("MudBootModel", "pile", "[J", true)
  | 47 => ("MudBootModel", "walkedLayers", "I", false)
  | 48 => ("MudBootModel", "walked", "[I", true)
  | 49 => ("MudBootModel", "held", "[I", true)
  | _ => ("MudBootModel", "pairFar", "[I", true)
def tyX12 : Nat → FieldType := fun k => match k with
  | 0 => .int
  | 1 => .int
  | 2 => .array .int
  | 3 => .array .int
  | 4 => .array .byte
  | 5 => .int
  | 6 => .int
  | 7 => .int
  | 8 => .array .int
  | 9 => .array .int
  | 10 => .array .int
  | 11 => .array .int
  | 12 => .array .int
  | 13 => .array .int
  | 14 => .int
  | 15 => .array .long
  | 16 => .array .long
  | 17 => .array .long
  | 18 => .array .int
  | 19 => .array .int
  | 20 => .array .int
  | 21 => .array .int
  | 22 => .array .int
  | 23 => .array .int
  | 24 => .int
  | 25 => .int
  | 26 => .int
  | 27 => .int
  | 28 => .int
  | 29 => .int
  | 30 => .int
  | 31 => .int
  | 32 => .int
  | 33 => .array .int
  | 34 => .array .int
  | 35 => .int
  | 36 => .array .int
  | 37 => .array .int
  | 38 => .int
  | 39 => .int
  | 40 => .array .int
  | 41 => .array .int
  | 42 => .int
  | 43 => .array .int
  | 44 => .array .int
  | 45 => .array .int
  | 46 => .array .long
  | 47 => .int
  | 48 => .array .int
  | 49 => .array .int
  | _ => .array .int
theorem nmX12 : ∀ a, a < 51 → ∀ b, b < 51 → a ≠ b → (TX12 a).2.1 ≠ (TX12 b).2.1 := by decide +kernel
theorem tyX12_ok : ∀ k, k < 51 → parseFieldDescriptor (TX12 k).2.2.1 = some (tyX12 k) := by decide +kernel
abbrev vwCl : List vw_C := [(RX0, TX0, 8), (RX1, TX1, 16), (RX2, TX2, 2), (RX3, TX3, 5), (RX4, TX4, 5), (RX5, TX5, 8), (RX6, TX6, 7), (RX7, TX7, 2), (RX8, TX8, 11), (RX9, TX9, 5), (RX10, TX10, 8), (RX11, TX11, 7), (RX12, TX12, 51)]
theorem inX0 : ∀ w ∈ u_ws RX0 TX0 8, w ∈ lw_tbl ∧ goodWord w = true := fun w h => ⟨by
  have e : u_ws RX0 TX0 8 = ([152, 154, 156, 158, 160, 162, 164, 166] : List Nat).filterMap (fun i => lw_tbl[i]?) := by decide +kernel
  rw [e] at h
  obtain ⟨i, -, hi⟩ := List.mem_filterMap.mp h
  exact List.mem_of_getElem? hi, List.all_eq_true.mp (show (u_ws RX0 TX0 8).all goodWord = true by decide +kernel) w h⟩
theorem inX1 : ∀ w ∈ u_ws RX1 TX1 16, w ∈ lw_tbl ∧ goodWord w = true := fun w h => ⟨by
  have e : u_ws RX1 TX1 16 = ([408, 410, 412, 414, 416, 418, 420, 422, 424, 426, 428, 430, 432, 434, 436, 438] : List Nat).filterMap (fun i => lw_tbl[i]?) := by decide +kernel
  rw [e] at h
  obtain ⟨i, -, hi⟩ := List.mem_filterMap.mp h
  exact List.mem_of_getElem? hi, List.all_eq_true.mp (show (u_ws RX1 TX1 16).all goodWord = true by decide +kernel) w h⟩
theorem inX2 : ∀ w ∈ u_ws RX2 TX2 2, w ∈ lw_tbl ∧ goodWord w = true := fun w h => ⟨by
  have e : u_ws RX2 TX2 2 = ([188, 190] : List Nat).filterMap (fun i => lw_tbl[i]?) := by decide +kernel
  rw [e] at h
  obtain ⟨i, -, hi⟩ := List.mem_filterMap.mp h
  exact List.mem_of_getElem? hi, List.all_eq_true.mp (show (u_ws RX2 TX2 2).all goodWord = true by decide +kernel) w h⟩
theorem inX3 : ∀ w ∈ u_ws RX3 TX3 5, w ∈ lw_tbl ∧ goodWord w = true := fun w h => ⟨by
  have e : u_ws RX3 TX3 5 = ([491, 493, 495, 497, 499] : List Nat).filterMap (fun i => lw_tbl[i]?) := by decide +kernel
  rw [e] at h
  obtain ⟨i, -, hi⟩ := List.mem_filterMap.mp h
  exact List.mem_of_getElem? hi, List.all_eq_true.mp (show (u_ws RX3 TX3 5).all goodWord = true by decide +kernel) w h⟩
theorem inX4 : ∀ w ∈ u_ws RX4 TX4 5, w ∈ lw_tbl ∧ goodWord w = true := fun w h => ⟨by
  have e : u_ws RX4 TX4 5 = ([369, 371, 373, 375, 377] : List Nat).filterMap (fun i => lw_tbl[i]?) := by decide +kernel
  rw [e] at h
  obtain ⟨i, -, hi⟩ := List.mem_filterMap.mp h
  exact List.mem_of_getElem? hi, List.all_eq_true.mp (show (u_ws RX4 TX4 5).all goodWord = true by decide +kernel) w h⟩
theorem inX5 : ∀ w ∈ u_ws RX5 TX5 8, w ∈ lw_tbl ∧ goodWord w = true := fun w h => ⟨by
  have e : u_ws RX5 TX5 8 = ([218, 220, 222, 224, 226, 228, 230, 232] : List Nat).filterMap (fun i => lw_tbl[i]?) := by decide +kernel
  rw [e] at h
  obtain ⟨i, -, hi⟩ := List.mem_filterMap.mp h
  exact List.mem_of_getElem? hi, List.all_eq_true.mp (show (u_ws RX5 TX5 8).all goodWord = true by decide +kernel) w h⟩
theorem inX6 : ∀ w ∈ u_ws RX6 TX6 7, w ∈ lw_tbl ∧ goodWord w = true := fun w h => ⟨by
  have e : u_ws RX6 TX6 7 = ([296, 298, 300, 302, 304, 306, 308] : List Nat).filterMap (fun i => lw_tbl[i]?) := by decide +kernel
  rw [e] at h
  obtain ⟨i, -, hi⟩ := List.mem_filterMap.mp h
  exact List.mem_of_getElem? hi, List.all_eq_true.mp (show (u_ws RX6 TX6 7).all goodWord = true by decide +kernel) w h⟩
theorem inX7 : ∀ w ∈ u_ws RX7 TX7 2, w ∈ lw_tbl ∧ goodWord w = true := fun w h => ⟨by
  have e : u_ws RX7 TX7 2 = ([245, 247] : List Nat).filterMap (fun i => lw_tbl[i]?) := by decide +kernel
  rw [e] at h
  obtain ⟨i, -, hi⟩ := List.mem_filterMap.mp h
  exact List.mem_of_getElem? hi, List.all_eq_true.mp (show (u_ws RX7 TX7 2).all goodWord = true by decide +kernel) w h⟩
theorem inX8 : ∀ w ∈ u_ws RX8 TX8 11, w ∈ lw_tbl ∧ goodWord w = true := fun w h => ⟨by
  have e : u_ws RX8 TX8 11 = ([333, 335, 337, 339, 341, 343, 345, 347, 349, 351, 353] : List Nat).filterMap (fun i => lw_tbl[i]?) := by decide +kernel
  rw [e] at h
  obtain ⟨i, -, hi⟩ := List.mem_filterMap.mp h
  exact List.mem_of_getElem? hi, List.all_eq_true.mp (show (u_ws RX8 TX8 11).all goodWord = true by decide +kernel) w h⟩
theorem inX9 : ∀ w ∈ u_ws RX9 TX9 5, w ∈ lw_tbl ∧ goodWord w = true := fun w h => ⟨by
  have e : u_ws RX9 TX9 5 = ([262, 264, 266, 268, 270] : List Nat).filterMap (fun i => lw_tbl[i]?) := by decide +kernel
  rw [e] at h
  obtain ⟨i, -, hi⟩ := List.mem_filterMap.mp h
  exact List.mem_of_getElem? hi, List.all_eq_true.mp (show (u_ws RX9 TX9 5).all goodWord = true by decide +kernel) w h⟩
theorem inX10 : ∀ w ∈ u_ws RX10 TX10 8, w ∈ lw_tbl ∧ goodWord w = true := fun w h => ⟨by
  have e : u_ws RX10 TX10 8 = ([459, 461, 463, 465, 467, 469, 471, 473] : List Nat).filterMap (fun i => lw_tbl[i]?) := by decide +kernel
  rw [e] at h
  obtain ⟨i, -, hi⟩ := List.mem_filterMap.mp h
  exact List.mem_of_getElem? hi, List.all_eq_true.mp (show (u_ws RX10 TX10 8).all goodWord = true by decide +kernel) w h⟩
theorem inX11 : ∀ w ∈ u_ws RX11 TX11 7, w ∈ lw_tbl ∧ goodWord w = true := fun w h => ⟨by
  have e : u_ws RX11 TX11 7 = ([509, 511, 513, 515, 517, 519, 521] : List Nat).filterMap (fun i => lw_tbl[i]?) := by decide +kernel
  rw [e] at h
  obtain ⟨i, -, hi⟩ := List.mem_filterMap.mp h
  exact List.mem_of_getElem? hi, List.all_eq_true.mp (show (u_ws RX11 TX11 7).all goodWord = true by decide +kernel) w h⟩
theorem inX12 : ∀ w ∈ u_ws RX12 TX12 51, w ∈ lw_tbl ∧ goodWord w = true := fun w h => ⟨by
  have e : u_ws RX12 TX12 51 = ([1296, 1298, 1300, 1302, 1304, 1306, 1308, 1310, 1312, 1314, 1316, 1318, 1320, 1322, 1324, 1326, 1328, 1330, 1332, 1334, 1336, 1338, 1340, 1342, 1344, 1346, 1348, 1350, 1352, 1354, 1356, 1358, 1360, 1362, 1364, 1366, 1368, 1370, 1372, 1374, 1376, 1378, 1380, 1382, 1384, 1386, 1388, 1390, 1392, 1394, 1396] : List Nat).filterMap (fun i => lw_tbl[i]?) := by decide +kernel
  rw [e] at h
  obtain ⟨i, -, hi⟩ := List.mem_filterMap.mp h
  exact List.mem_of_getElem? hi, List.all_eq_true.mp (show (u_ws RX12 TX12 51).all goodWord = true by decide +kernel) w h⟩
