def R_World : String := "TurtleWorld"
def F_World : u_T := fun k => match k with
  | 0 => ("TurtleWorld", "heap", "LTurtleWorld$Heap;", true)
  | 1 => ("TurtleWorld", "names", "LTurtleWorld$Names;", true)
  | 2 => ("TurtleWorld", "procedures", "LTurtleWorld$Procedures;", true)
  | 3 => ("TurtleWorld", "turtles", "LTurtleWorld$Turtles;", true)
  | 4 => ("TurtleWorld", "output", "LTurtleWorld$Output;", true)
  | 5 => ("TurtleWorld", "reader", "LTurtleWorld$Reader;", true)
  | 6 => ("TurtleWorld", "line", "LTurtleWorld$Line;", true)
  | 7 => ("TurtleWorld", "deeds", "LTurtleWorld$Deeds;", true)
  | 8 => ("TurtleWorld", "machine", "LTurtleWorld$Machine;", true)
  | 9 => ("TurtleWorld", "lineList", "I", false)
  | 10 => ("TurtleWorld", "keptTop", "I", false)
  | 11 => ("TurtleWorld", "keptSeed", "I", false)
  | _ => ("TurtleWorld", "canGoBack", "Z", false)
def t_World : Nat → FieldType := fun k => match k with
  | 0 => .object "TurtleWorld$Heap"
  | 1 => .object "TurtleWorld$Names"
  | 2 => .object "TurtleWorld$Procedures"
  | 3 => .object "TurtleWorld$Turtles"
  | 4 => .object "TurtleWorld$Output"
  | 5 => .object "TurtleWorld$Reader"
  | 6 => .object "TurtleWorld$Line"
  | 7 => .object "TurtleWorld$Deeds"
  | 8 => .object "TurtleWorld$Machine"
  | 9 => .int
  | 10 => .int
  | 11 => .int
  | _ => .boolean
theorem n_World : ∀ a, a < 13 → ∀ b, b < 13 → a ≠ b → (F_World a).2.1 ≠ (F_World b).2.1 := by decide +kernel
theorem t_World_ok : ∀ k, k < 13 → parseFieldDescriptor (F_World k).2.2.1 = some (t_World k) := by decide +kernel
theorem iw_World : ∀ w ∈ u_ws R_World F_World 13, w ∈ tw_T := by
  intro w hw
  obtain ⟨k, hk, rfl⟩ := List.mem_map.mp hw
  have hk := List.mem_range.mp hk
  match k, hk with
  | 0, _ => exact tw_i3 207 (by decide +kernel) (by decide +kernel)
  | 1, _ => exact tw_i3 209 (by decide +kernel) (by decide +kernel)
  | 2, _ => exact tw_i3 211 (by decide +kernel) (by decide +kernel)
  | 3, _ => exact tw_i3 213 (by decide +kernel) (by decide +kernel)
  | 4, _ => exact tw_i3 215 (by decide +kernel) (by decide +kernel)
  | 5, _ => exact tw_i3 217 (by decide +kernel) (by decide +kernel)
  | 6, _ => exact tw_i3 219 (by decide +kernel) (by decide +kernel)
  | 7, _ => exact tw_i3 221 (by decide +kernel) (by decide +kernel)
  | 8, _ => exact tw_i3 223 (by decide +kernel) (by decide +kernel)
  | 9, _ => exact tw_i3 225 (by decide +kernel) (by decide +kernel)
  | 10, _ => exact tw_i3 227 (by decide +kernel) (by decide +kernel)
  | 11, _ => exact tw_i3 229 (by decide +kernel) (by decide +kernel)
  | 12, _ => exact tw_i3 231 (by decide +kernel) (by decide +kernel)
  | k + 13, h => exact absurd h (by omega)
def R_Heap : String := "TurtleWorld$Heap"
def F_Heap : u_T := fun k => match k with
  | 0 => ("TurtleWorld$Heap", "lexicon", "LTurtleWorld$Lexicon;", true)
  | 1 => ("TurtleWorld$Heap", "yes", "I", true)
  | 2 => ("TurtleWorld$Heap", "no", "I", true)
  | 3 => ("TurtleWorld$Heap", "errorTag", "I", true)
  | 4 => ("TurtleWorld$Heap", "fixed", "I", true)
  | 5 => ("TurtleWorld$Heap", "cells", "[I", false)
  | 6 => ("TurtleWorld$Heap", "spare", "[I", false)
  | 7 => ("TurtleWorld$Heap", "top", "I", false)
  | 8 => ("TurtleWorld$Heap", "spareTop", "I", false)
  | 9 => ("TurtleWorld$Heap", "leftLists", "[I", true)
  | 10 => ("TurtleWorld$Heap", "rightLists", "[I", true)
  | _ => ("TurtleWorld$Heap", "nextMembers", "[I", true)
def t_Heap : Nat → FieldType := fun k => match k with
  | 0 => .object "TurtleWorld$Lexicon"
  | 1 => .int
  | 2 => .int
  | 3 => .int
  | 4 => .int
  | 5 => .array .int
  | 6 => .array .int
  | 7 => .int
  | 8 => .int
  | 9 => .array .int
  | 10 => .array .int
  | _ => .array .int
theorem n_Heap : ∀ a, a < 12 → ∀ b, b < 12 → a ≠ b → (F_Heap a).2.1 ≠ (F_Heap b).2.1 := by decide +kernel
theorem t_Heap_ok : ∀ k, k < 12 → parseFieldDescriptor (F_Heap k).2.2.1 = some (t_Heap k) := by decide +kernel
theorem iw_Heap : ∀ w ∈ u_ws R_Heap F_Heap 12, w ∈ tw_T := by
  intro w hw
  obtain ⟨k, hk, rfl⟩ := List.mem_map.mp hw
  have hk := List.mem_range.mp hk
  match k, hk with
  | 0, _ => exact tw_i1 217 (by decide +kernel) (by decide +kernel)
  | 1, _ => exact tw_i1 219 (by decide +kernel) (by decide +kernel)
  | 2, _ => exact tw_i1 221 (by decide +kernel) (by decide +kernel)
  | 3, _ => exact tw_i1 223 (by decide +kernel) (by decide +kernel)
  | 4, _ => exact tw_i1 225 (by decide +kernel) (by decide +kernel)
  | 5, _ => exact tw_i1 227 (by decide +kernel) (by decide +kernel)
  | 6, _ => exact tw_i1 229 (by decide +kernel) (by decide +kernel)
  | 7, _ => exact tw_i1 231 (by decide +kernel) (by decide +kernel)
  | 8, _ => exact tw_i1 233 (by decide +kernel) (by decide +kernel)
  | 9, _ => exact tw_i1 235 (by decide +kernel) (by decide +kernel)
  | 10, _ => exact tw_i1 237 (by decide +kernel) (by decide +kernel)
  | 11, _ => exact tw_i1 239 (by decide +kernel) (by decide +kernel)
  | k + 12, h => exact absurd h (by omega)
def R_Lexicon : String := "TurtleWorld$Lexicon"
def F_Lexicon : u_T := fun k => match k with
  | 0 => ("TurtleWorld$Lexicon", "letters", "[I", true)
  | 1 => ("TurtleWorld$Lexicon", "starts", "[I", true)
  | 2 => ("TurtleWorld$Lexicon", "arities", "[I", true)
  | 3 => ("TurtleWorld$Lexicon", "kinds", "[I", true)
  | 4 => ("TurtleWorld$Lexicon", "slots", "[I", true)
  | 5 => ("TurtleWorld$Lexicon", "words", "I", false)
  | _ => ("TurtleWorld$Lexicon", "used", "I", false)
def t_Lexicon : Nat → FieldType := fun k => match k with
  | 0 => .array .int
  | 1 => .array .int
  | 2 => .array .int
  | 3 => .array .int
  | 4 => .array .int
  | 5 => .int
  | _ => .int
theorem n_Lexicon : ∀ a, a < 7 → ∀ b, b < 7 → a ≠ b → (F_Lexicon a).2.1 ≠ (F_Lexicon b).2.1 := by decide +kernel
theorem t_Lexicon_ok : ∀ k, k < 7 → parseFieldDescriptor (F_Lexicon k).2.2.1 = some (t_Lexicon k) := by decide +kernel
theorem iw_Lexicon : ∀ w ∈ u_ws R_Lexicon F_Lexicon 7, w ∈ tw_T := by
  intro w hw
  obtain ⟨k, hk, rfl⟩ := List.mem_map.mp hw
  have hk := List.mem_range.mp hk
  match k, hk with
  | 0, _ => exact tw_i1 129 (by decide +kernel) (by decide +kernel)
  | 1, _ => exact tw_i1 131 (by decide +kernel) (by decide +kernel)
  | 2, _ => exact tw_i1 133 (by decide +kernel) (by decide +kernel)
  | 3, _ => exact tw_i1 135 (by decide +kernel) (by decide +kernel)
  | 4, _ => exact tw_i1 137 (by decide +kernel) (by decide +kernel)
  | 5, _ => exact tw_i1 139 (by decide +kernel) (by decide +kernel)
  | 6, _ => exact tw_i1 141 (by decide +kernel) (by decide +kernel)
  | k + 7, h => exact absurd h (by omega)
def R_Names : String := "TurtleWorld$Names"
def F_Names : u_T := fun k => match k with
  | 0 => ("TurtleWorld$Names", "heap", "LTurtleWorld$Heap;", true)
  | 1 => ("TurtleWorld$Names", "globalNames", "[I", true)
  | 2 => ("TurtleWorld$Names", "globalValues", "[I", true)
  | 3 => ("TurtleWorld$Names", "globals", "I", false)
  | 4 => ("TurtleWorld$Names", "localNames", "[I", true)
  | 5 => ("TurtleWorld$Names", "localValues", "[I", true)
  | 6 => ("TurtleWorld$Names", "locals", "I", false)
  | 7 => ("TurtleWorld$Names", "keptValues", "[I", true)
  | _ => ("TurtleWorld$Names", "keptGlobals", "I", false)
def t_Names : Nat → FieldType := fun k => match k with
  | 0 => .object "TurtleWorld$Heap"
  | 1 => .array .int
  | 2 => .array .int
  | 3 => .int
  | 4 => .array .int
  | 5 => .array .int
  | 6 => .int
  | 7 => .array .int
  | _ => .int
theorem n_Names : ∀ a, a < 9 → ∀ b, b < 9 → a ≠ b → (F_Names a).2.1 ≠ (F_Names b).2.1 := by decide +kernel
theorem t_Names_ok : ∀ k, k < 9 → parseFieldDescriptor (F_Names k).2.2.1 = some (t_Names k) := by decide +kernel
theorem iw_Names : ∀ w ∈ u_ws R_Names F_Names 9, w ∈ tw_T := by
  intro w hw
  obtain ⟨k, hk, rfl⟩ := List.mem_map.mp hw
  have hk := List.mem_range.mp hk
  match k, hk with
  | 0, _ => exact tw_i2 21 (by decide +kernel) (by decide +kernel)
  | 1, _ => exact tw_i2 23 (by decide +kernel) (by decide +kernel)
  | 2, _ => exact tw_i2 25 (by decide +kernel) (by decide +kernel)
  | 3, _ => exact tw_i2 27 (by decide +kernel) (by decide +kernel)
  | 4, _ => exact tw_i2 29 (by decide +kernel) (by decide +kernel)
  | 5, _ => exact tw_i2 31 (by decide +kernel) (by decide +kernel)
  | 6, _ => exact tw_i2 33 (by decide +kernel) (by decide +kernel)
  | 7, _ => exact tw_i2 35 (by decide +kernel) (by decide +kernel)
  | 8, _ => exact tw_i2 37 (by decide +kernel) (by decide +kernel)
  | k + 9, h => exact absurd h (by omega)
def R_Procedures : String := "TurtleWorld$Procedures"
def F_Procedures : u_T := fun k => match k with
  | 0 => ("TurtleWorld$Procedures", "heap", "LTurtleWorld$Heap;", true)
  | 1 => ("TurtleWorld$Procedures", "names", "[I", true)
  | 2 => ("TurtleWorld$Procedures", "inputs", "[I", true)
  | 3 => ("TurtleWorld$Procedures", "bodies", "[I", true)
  | 4 => ("TurtleWorld$Procedures", "count", "I", false)
  | 5 => ("TurtleWorld$Procedures", "keptInputs", "[I", true)
  | 6 => ("TurtleWorld$Procedures", "keptBodies", "[I", true)
  | _ => ("TurtleWorld$Procedures", "keptCount", "I", false)
def t_Procedures : Nat → FieldType := fun k => match k with
  | 0 => .object "TurtleWorld$Heap"
  | 1 => .array .int
  | 2 => .array .int
  | 3 => .array .int
  | 4 => .int
  | 5 => .array .int
  | 6 => .array .int
  | _ => .int
theorem n_Procedures : ∀ a, a < 8 → ∀ b, b < 8 → a ≠ b → (F_Procedures a).2.1 ≠ (F_Procedures b).2.1 := by decide +kernel
theorem t_Procedures_ok : ∀ k, k < 8 → parseFieldDescriptor (F_Procedures k).2.2.1 = some (t_Procedures k) := by decide +kernel
theorem iw_Procedures : ∀ w ∈ u_ws R_Procedures F_Procedures 8, w ∈ tw_T := by
  intro w hw
  obtain ⟨k, hk, rfl⟩ := List.mem_map.mp hw
  have hk := List.mem_range.mp hk
  match k, hk with
  | 0, _ => exact tw_i2 63 (by decide +kernel) (by decide +kernel)
  | 1, _ => exact tw_i2 65 (by decide +kernel) (by decide +kernel)
  | 2, _ => exact tw_i2 67 (by decide +kernel) (by decide +kernel)
  | 3, _ => exact tw_i2 69 (by decide +kernel) (by decide +kernel)
  | 4, _ => exact tw_i2 71 (by decide +kernel) (by decide +kernel)
  | 5, _ => exact tw_i2 73 (by decide +kernel) (by decide +kernel)
  | 6, _ => exact tw_i2 75 (by decide +kernel) (by decide +kernel)
  | 7, _ => exact tw_i2 77 (by decide +kernel) (by decide +kernel)
  | k + 8, h => exact absurd h (by omega)
def R_Turtles : String := "TurtleWorld$Turtles"
def F_Turtles : u_T := fun k => match k with
  | 0 => ("TurtleWorld$Turtles", "parts", "[I", true)
  | 1 => ("TurtleWorld$Turtles", "dots", "[I", true)
  | 2 => ("TurtleWorld$Turtles", "told", "I", false)
  | 3 => ("TurtleWorld$Turtles", "start", "[I", true)
  | 4 => ("TurtleWorld$Turtles", "goal", "[I", true)
  | 5 => ("TurtleWorld$Turtles", "keptParts", "[I", true)
  | 6 => ("TurtleWorld$Turtles", "keptDots", "[I", true)
  | _ => ("TurtleWorld$Turtles", "keptTold", "I", false)
def t_Turtles : Nat → FieldType := fun k => match k with
  | 0 => .array .int
  | 1 => .array .int
  | 2 => .int
  | 3 => .array .int
  | 4 => .array .int
  | 5 => .array .int
  | 6 => .array .int
  | _ => .int
theorem n_Turtles : ∀ a, a < 8 → ∀ b, b < 8 → a ≠ b → (F_Turtles a).2.1 ≠ (F_Turtles b).2.1 := by decide +kernel
theorem t_Turtles_ok : ∀ k, k < 8 → parseFieldDescriptor (F_Turtles k).2.2.1 = some (t_Turtles k) := by decide +kernel
theorem iw_Turtles : ∀ w ∈ u_ws R_Turtles F_Turtles 8, w ∈ tw_T := by
  intro w hw
  obtain ⟨k, hk, rfl⟩ := List.mem_map.mp hw
  have hk := List.mem_range.mp hk
  match k, hk with
  | 0, _ => exact tw_i2 97 (by decide +kernel) (by decide +kernel)
  | 1, _ => exact tw_i2 99 (by decide +kernel) (by decide +kernel)
  | 2, _ => exact tw_i2 101 (by decide +kernel) (by decide +kernel)
  | 3, _ => exact tw_i2 103 (by decide +kernel) (by decide +kernel)
  | 4, _ => exact tw_i2 105 (by decide +kernel) (by decide +kernel)
  | 5, _ => exact tw_i2 107 (by decide +kernel) (by decide +kernel)
  | 6, _ => exact tw_i2 109 (by decide +kernel) (by decide +kernel)
  | 7, _ => exact tw_i2 111 (by decide +kernel) (by decide +kernel)
  | k + 8, h => exact absurd h (by omega)
def R_Output : String := "TurtleWorld$Output"
def F_Output : u_T := fun k => match k with
  | 0 => ("TurtleWorld$Output", "heap", "LTurtleWorld$Heap;", true)
  | 1 => ("TurtleWorld$Output", "signs", "[I", true)
  | 2 => ("TurtleWorld$Output", "next", "I", false)
  | 3 => ("TurtleWorld$Output", "kept", "I", false)
  | 4 => ("TurtleWorld$Output", "keptSigns", "[I", true)
  | 5 => ("TurtleWorld$Output", "keptNext", "I", false)
  | 6 => ("TurtleWorld$Output", "keptKept", "I", false)
  | 7 => ("TurtleWorld$Output", "text", "[I", true)
  | 8 => ("TurtleWorld$Output", "length", "I", false)
  | 9 => ("TurtleWorld$Output", "lists", "[I", true)
  | _ => ("TurtleWorld$Output", "nextMembers", "[I", true)
def t_Output : Nat → FieldType := fun k => match k with
  | 0 => .object "TurtleWorld$Heap"
  | 1 => .array .int
  | 2 => .int
  | 3 => .int
  | 4 => .array .int
  | 5 => .int
  | 6 => .int
  | 7 => .array .int
  | 8 => .int
  | 9 => .array .int
  | _ => .array .int
theorem n_Output : ∀ a, a < 11 → ∀ b, b < 11 → a ≠ b → (F_Output a).2.1 ≠ (F_Output b).2.1 := by decide +kernel
theorem t_Output_ok : ∀ k, k < 11 → parseFieldDescriptor (F_Output k).2.2.1 = some (t_Output k) := by decide +kernel
theorem iw_Output : ∀ w ∈ u_ws R_Output F_Output 11, w ∈ tw_T := by
  intro w hw
  obtain ⟨k, hk, rfl⟩ := List.mem_map.mp hw
  have hk := List.mem_range.mp hk
  match k, hk with
  | 0, _ => exact tw_i2 134 (by decide +kernel) (by decide +kernel)
  | 1, _ => exact tw_i2 136 (by decide +kernel) (by decide +kernel)
  | 2, _ => exact tw_i2 138 (by decide +kernel) (by decide +kernel)
  | 3, _ => exact tw_i2 140 (by decide +kernel) (by decide +kernel)
  | 4, _ => exact tw_i2 142 (by decide +kernel) (by decide +kernel)
  | 5, _ => exact tw_i2 144 (by decide +kernel) (by decide +kernel)
  | 6, _ => exact tw_i2 146 (by decide +kernel) (by decide +kernel)
  | 7, _ => exact tw_i2 148 (by decide +kernel) (by decide +kernel)
  | 8, _ => exact tw_i2 150 (by decide +kernel) (by decide +kernel)
  | 9, _ => exact tw_i2 152 (by decide +kernel) (by decide +kernel)
  | 10, _ => exact tw_i2 154 (by decide +kernel) (by decide +kernel)
  | k + 11, h => exact absurd h (by omega)
def R_Reader : String := "TurtleWorld$Reader"
def F_Reader : u_T := fun k => match k with
  | 0 => ("TurtleWorld$Reader", "heap", "LTurtleWorld$Heap;", true)
  | 1 => ("TurtleWorld$Reader", "procedures", "LTurtleWorld$Procedures;", true)
  | 2 => ("TurtleWorld$Reader", "tape", "[I", true)
  | 3 => ("TurtleWorld$Reader", "length", "I", false)
  | 4 => ("TurtleWorld$Reader", "faultPlace", "I", false)
  | 5 => ("TurtleWorld$Reader", "faultKind", "I", false)
  | 6 => ("TurtleWorld$Reader", "lineList", "I", false)
  | 7 => ("TurtleWorld$Reader", "members", "[I", true)
  | 8 => ("TurtleWorld$Reader", "height", "I", false)
  | 9 => ("TurtleWorld$Reader", "opened", "[I", true)
  | 10 => ("TurtleWorld$Reader", "depth", "I", false)
  | 11 => ("TurtleWorld$Reader", "tokens", "I", false)
  | 12 => ("TurtleWorld$Reader", "defining", "Z", false)
  | 13 => ("TurtleWorld$Reader", "stage", "I", false)
  | 14 => ("TurtleWorld$Reader", "newNames", "[I", true)
  | 15 => ("TurtleWorld$Reader", "newInputs", "[I", true)
  | 16 => ("TurtleWorld$Reader", "newBodies", "[I", true)
  | 17 => ("TurtleWorld$Reader", "told", "I", false)
  | _ => ("TurtleWorld$Reader", "fresh", "I", false)
def t_Reader : Nat → FieldType := fun k => match k with
  | 0 => .object "TurtleWorld$Heap"
  | 1 => .object "TurtleWorld$Procedures"
  | 2 => .array .int
  | 3 => .int
  | 4 => .int
  | 5 => .int
  | 6 => .int
  | 7 => .array .int
  | 8 => .int
  | 9 => .array .int
  | 10 => .int
  | 11 => .int
  | 12 => .boolean
  | 13 => .int
  | 14 => .array .int
  | 15 => .array .int
  | 16 => .array .int
  | 17 => .int
  | _ => .int
theorem n_Reader : ∀ a, a < 19 → ∀ b, b < 19 → a ≠ b → (F_Reader a).2.1 ≠ (F_Reader b).2.1 := by decide +kernel
theorem t_Reader_ok : ∀ k, k < 19 → parseFieldDescriptor (F_Reader k).2.2.1 = some (t_Reader k) := by decide +kernel
theorem iw_Reader : ∀ w ∈ u_ws R_Reader F_Reader 19, w ∈ tw_T := by
  intro w hw
  obtain ⟨k, hk, rfl⟩ := List.mem_map.mp hw
  have hk := List.mem_range.mp hk
  match k, hk with
  | 0, _ => exact tw_i2 186 (by decide +kernel) (by decide +kernel)
  | 1, _ => exact tw_i2 188 (by decide +kernel) (by decide +kernel)
  | 2, _ => exact tw_i2 190 (by decide +kernel) (by decide +kernel)
  | 3, _ => exact tw_i2 192 (by decide +kernel) (by decide +kernel)
  | 4, _ => exact tw_i2 194 (by decide +kernel) (by decide +kernel)
  | 5, _ => exact tw_i2 196 (by decide +kernel) (by decide +kernel)
  | 6, _ => exact tw_i2 198 (by decide +kernel) (by decide +kernel)
  | 7, _ => exact tw_i2 200 (by decide +kernel) (by decide +kernel)
  | 8, _ => exact tw_i2 202 (by decide +kernel) (by decide +kernel)
  | 9, _ => exact tw_i2 204 (by decide +kernel) (by decide +kernel)
  | 10, _ => exact tw_i2 206 (by decide +kernel) (by decide +kernel)
  | 11, _ => exact tw_i2 208 (by decide +kernel) (by decide +kernel)
  | 12, _ => exact tw_i2 210 (by decide +kernel) (by decide +kernel)
  | 13, _ => exact tw_i2 212 (by decide +kernel) (by decide +kernel)
  | 14, _ => exact tw_i2 214 (by decide +kernel) (by decide +kernel)
  | 15, _ => exact tw_i2 216 (by decide +kernel) (by decide +kernel)
  | 16, _ => exact tw_i2 218 (by decide +kernel) (by decide +kernel)
  | 17, _ => exact tw_i2 220 (by decide +kernel) (by decide +kernel)
  | 18, _ => exact tw_i2 222 (by decide +kernel) (by decide +kernel)
  | k + 19, h => exact absurd h (by omega)
def R_Line : String := "TurtleWorld$Line"
def F_Line : u_T := fun k => match k with
  | 0 => ("TurtleWorld$Line", "heap", "LTurtleWorld$Heap;", true)
  | 1 => ("TurtleWorld$Line", "state", "I", false)
  | 2 => ("TurtleWorld$Line", "error", "I", false)
  | 3 => ("TurtleWorld$Line", "done", "I", false)
  | 4 => ("TurtleWorld$Line", "made", "I", false)
  | 5 => ("TurtleWorld$Line", "caught", "I", false)
  | 6 => ("TurtleWorld$Line", "depth", "I", false)
  | 7 => ("TurtleWorld$Line", "calls", "I", false)
  | 8 => ("TurtleWorld$Line", "kind", "[I", true)
  | 9 => ("TurtleWorld$Line", "list", "[I", true)
  | 10 => ("TurtleWorld$Line", "next", "[I", true)
  | 11 => ("TurtleWorld$Line", "turns", "[I", true)
  | 12 => ("TurtleWorld$Line", "limit", "[I", true)
  | 13 => ("TurtleWorld$Line", "other", "[I", true)
  | 14 => ("TurtleWorld$Line", "mark", "[I", true)
  | 15 => ("TurtleWorld$Line", "waits", "[I", true)
  | 16 => ("TurtleWorld$Line", "values", "[I", true)
  | _ => ("TurtleWorld$Line", "locals", "[I", true)
def t_Line : Nat → FieldType := fun k => match k with
  | 0 => .object "TurtleWorld$Heap"
  | 1 => .int
  | 2 => .int
  | 3 => .int
  | 4 => .int
  | 5 => .int
  | 6 => .int
  | 7 => .int
  | 8 => .array .int
  | 9 => .array .int
  | 10 => .array .int
  | 11 => .array .int
  | 12 => .array .int
  | 13 => .array .int
  | 14 => .array .int
  | 15 => .array .int
  | 16 => .array .int
  | _ => .array .int
theorem n_Line : ∀ a, a < 18 → ∀ b, b < 18 → a ≠ b → (F_Line a).2.1 ≠ (F_Line b).2.1 := by decide +kernel
theorem t_Line_ok : ∀ k, k < 18 → parseFieldDescriptor (F_Line k).2.2.1 = some (t_Line k) := by decide +kernel
theorem iw_Line : ∀ w ∈ u_ws R_Line F_Line 18, w ∈ tw_T := by
  intro w hw
  obtain ⟨k, hk, rfl⟩ := List.mem_map.mp hw
  have hk := List.mem_range.mp hk
  match k, hk with
  | 0, _ => exact tw_i3 39 (by decide +kernel) (by decide +kernel)
  | 1, _ => exact tw_i3 41 (by decide +kernel) (by decide +kernel)
  | 2, _ => exact tw_i3 43 (by decide +kernel) (by decide +kernel)
  | 3, _ => exact tw_i3 45 (by decide +kernel) (by decide +kernel)
  | 4, _ => exact tw_i3 47 (by decide +kernel) (by decide +kernel)
  | 5, _ => exact tw_i3 49 (by decide +kernel) (by decide +kernel)
  | 6, _ => exact tw_i3 51 (by decide +kernel) (by decide +kernel)
  | 7, _ => exact tw_i3 53 (by decide +kernel) (by decide +kernel)
  | 8, _ => exact tw_i3 55 (by decide +kernel) (by decide +kernel)
  | 9, _ => exact tw_i3 57 (by decide +kernel) (by decide +kernel)
  | 10, _ => exact tw_i3 59 (by decide +kernel) (by decide +kernel)
  | 11, _ => exact tw_i3 61 (by decide +kernel) (by decide +kernel)
  | 12, _ => exact tw_i3 63 (by decide +kernel) (by decide +kernel)
  | 13, _ => exact tw_i3 65 (by decide +kernel) (by decide +kernel)
  | 14, _ => exact tw_i3 67 (by decide +kernel) (by decide +kernel)
  | 15, _ => exact tw_i3 69 (by decide +kernel) (by decide +kernel)
  | 16, _ => exact tw_i3 71 (by decide +kernel) (by decide +kernel)
  | 17, _ => exact tw_i3 73 (by decide +kernel) (by decide +kernel)
  | k + 18, h => exact absurd h (by omega)
def R_Waiting : String := "TurtleWorld$Waiting"
def F_Waiting : u_T := fun k => match k with
  | 0 => ("TurtleWorld$Waiting", "kind", "[I", true)
  | 1 => ("TurtleWorld$Waiting", "code", "[I", true)
  | 2 => ("TurtleWorld$Waiting", "need", "[I", true)
  | 3 => ("TurtleWorld$Waiting", "strength", "[I", true)
  | 4 => ("TurtleWorld$Waiting", "base", "[I", true)
  | 5 => ("TurtleWorld$Waiting", "inputs", "[I", true)
  | 6 => ("TurtleWorld$Waiting", "body", "[I", true)
  | 7 => ("TurtleWorld$Waiting", "count", "I", false)
  | 8 => ("TurtleWorld$Waiting", "values", "[I", true)
  | 9 => ("TurtleWorld$Waiting", "height", "I", false)
  | _ => ("TurtleWorld$Waiting", "ready", "I", false)
def t_Waiting : Nat → FieldType := fun k => match k with
  | 0 => .array .int
  | 1 => .array .int
  | 2 => .array .int
  | 3 => .array .int
  | 4 => .array .int
  | 5 => .array .int
  | 6 => .array .int
  | 7 => .int
  | 8 => .array .int
  | 9 => .int
  | _ => .int
theorem n_Waiting : ∀ a, a < 11 → ∀ b, b < 11 → a ≠ b → (F_Waiting a).2.1 ≠ (F_Waiting b).2.1 := by decide +kernel
theorem t_Waiting_ok : ∀ k, k < 11 → parseFieldDescriptor (F_Waiting k).2.2.1 = some (t_Waiting k) := by decide +kernel
theorem iw_Waiting : ∀ w ∈ u_ws R_Waiting F_Waiting 11, w ∈ tw_T := by
  intro w hw
  obtain ⟨k, hk, rfl⟩ := List.mem_map.mp hw
  have hk := List.mem_range.mp hk
  match k, hk with
  | 0, _ => exact tw_i3 105 (by decide +kernel) (by decide +kernel)
  | 1, _ => exact tw_i3 107 (by decide +kernel) (by decide +kernel)
  | 2, _ => exact tw_i3 109 (by decide +kernel) (by decide +kernel)
  | 3, _ => exact tw_i3 111 (by decide +kernel) (by decide +kernel)
  | 4, _ => exact tw_i3 113 (by decide +kernel) (by decide +kernel)
  | 5, _ => exact tw_i3 115 (by decide +kernel) (by decide +kernel)
  | 6, _ => exact tw_i3 117 (by decide +kernel) (by decide +kernel)
  | 7, _ => exact tw_i3 119 (by decide +kernel) (by decide +kernel)
  | 8, _ => exact tw_i3 121 (by decide +kernel) (by decide +kernel)
  | 9, _ => exact tw_i3 123 (by decide +kernel) (by decide +kernel)
  | 10, _ => exact tw_i3 125 (by decide +kernel) (by decide +kernel)
  | k + 11, h => exact absurd h (by omega)
def R_Deeds : String := "TurtleWorld$Deeds"
def F_Deeds : u_T := fun k => match k with
  | 0 => ("TurtleWorld$Deeds", "heap", "LTurtleWorld$Heap;", true)
  | 1 => ("TurtleWorld$Deeds", "line", "LTurtleWorld$Line;", true)
  | 2 => ("TurtleWorld$Deeds", "waiting", "LTurtleWorld$Waiting;", true)
  | 3 => ("TurtleWorld$Deeds", "names", "LTurtleWorld$Names;", true)
  | 4 => ("TurtleWorld$Deeds", "procedures", "LTurtleWorld$Procedures;", true)
  | 5 => ("TurtleWorld$Deeds", "turtles", "LTurtleWorld$Turtles;", true)
  | 6 => ("TurtleWorld$Deeds", "output", "LTurtleWorld$Output;", true)
  | _ => ("TurtleWorld$Deeds", "seed", "I", false)
def t_Deeds : Nat → FieldType := fun k => match k with
  | 0 => .object "TurtleWorld$Heap"
  | 1 => .object "TurtleWorld$Line"
  | 2 => .object "TurtleWorld$Waiting"
  | 3 => .object "TurtleWorld$Names"
  | 4 => .object "TurtleWorld$Procedures"
  | 5 => .object "TurtleWorld$Turtles"
  | 6 => .object "TurtleWorld$Output"
  | _ => .int
theorem n_Deeds : ∀ a, a < 8 → ∀ b, b < 8 → a ≠ b → (F_Deeds a).2.1 ≠ (F_Deeds b).2.1 := by decide +kernel
theorem t_Deeds_ok : ∀ k, k < 8 → parseFieldDescriptor (F_Deeds k).2.2.1 = some (t_Deeds k) := by decide +kernel
theorem iw_Deeds : ∀ w ∈ u_ws R_Deeds F_Deeds 8, w ∈ tw_T := by
  intro w hw
  obtain ⟨k, hk, rfl⟩ := List.mem_map.mp hw
  have hk := List.mem_range.mp hk
  match k, hk with
  | 0, _ => exact tw_i3 143 (by decide +kernel) (by decide +kernel)
  | 1, _ => exact tw_i3 145 (by decide +kernel) (by decide +kernel)
  | 2, _ => exact tw_i3 147 (by decide +kernel) (by decide +kernel)
  | 3, _ => exact tw_i3 149 (by decide +kernel) (by decide +kernel)
  | 4, _ => exact tw_i3 151 (by decide +kernel) (by decide +kernel)
  | 5, _ => exact tw_i3 153 (by decide +kernel) (by decide +kernel)
  | 6, _ => exact tw_i3 155 (by decide +kernel) (by decide +kernel)
  | 7, _ => exact tw_i3 157 (by decide +kernel) (by decide +kernel)
  | k + 8, h => exact absurd h (by omega)
def R_Machine : String := "TurtleWorld$Machine"
def F_Machine : u_T := fun k => match k with
  | 0 => ("TurtleWorld$Machine", "heap", "LTurtleWorld$Heap;", true)
  | 1 => ("TurtleWorld$Machine", "line", "LTurtleWorld$Line;", true)
  | 2 => ("TurtleWorld$Machine", "waiting", "LTurtleWorld$Waiting;", true)
  | 3 => ("TurtleWorld$Machine", "names", "LTurtleWorld$Names;", true)
  | 4 => ("TurtleWorld$Machine", "procedures", "LTurtleWorld$Procedures;", true)
  | 5 => ("TurtleWorld$Machine", "turtles", "LTurtleWorld$Turtles;", true)
  | 6 => ("TurtleWorld$Machine", "deeds", "LTurtleWorld$Deeds;", true)
  | 7 => ("TurtleWorld$Machine", "phase", "I", false)
  | _ => ("TurtleWorld$Machine", "got", "I", false)
def t_Machine : Nat → FieldType := fun k => match k with
  | 0 => .object "TurtleWorld$Heap"
  | 1 => .object "TurtleWorld$Line"
  | 2 => .object "TurtleWorld$Waiting"
  | 3 => .object "TurtleWorld$Names"
  | 4 => .object "TurtleWorld$Procedures"
  | 5 => .object "TurtleWorld$Turtles"
  | 6 => .object "TurtleWorld$Deeds"
  | 7 => .int
  | _ => .int
theorem n_Machine : ∀ a, a < 9 → ∀ b, b < 9 → a ≠ b → (F_Machine a).2.1 ≠ (F_Machine b).2.1 := by decide +kernel
theorem t_Machine_ok : ∀ k, k < 9 → parseFieldDescriptor (F_Machine k).2.2.1 = some (t_Machine k) := by decide +kernel
theorem iw_Machine : ∀ w ∈ u_ws R_Machine F_Machine 9, w ∈ tw_T := by
  intro w hw
  obtain ⟨k, hk, rfl⟩ := List.mem_map.mp hw
  have hk := List.mem_range.mp hk
  match k, hk with
  | 0, _ => exact tw_i3 175 (by decide +kernel) (by decide +kernel)
  | 1, _ => exact tw_i3 177 (by decide +kernel) (by decide +kernel)
  | 2, _ => exact tw_i3 179 (by decide +kernel) (by decide +kernel)
  | 3, _ => exact tw_i3 181 (by decide +kernel) (by decide +kernel)
  | 4, _ => exact tw_i3 183 (by decide +kernel) (by decide +kernel)
  | 5, _ => exact tw_i3 185 (by decide +kernel) (by decide +kernel)
  | 6, _ => exact tw_i3 187 (by decide +kernel) (by decide +kernel)
  | 7, _ => exact tw_i3 189 (by decide +kernel) (by decide +kernel)
  | 8, _ => exact tw_i3 191 (by decide +kernel) (by decide +kernel)
  | k + 9, h => exact absurd h (by omega)
def R_Model : String := "TurtleWorldModel"
def F_Model : u_T := fun k => match k with
  | 0 => ("TurtleWorldModel", "thrown", "I", false)
  | 1 => ("TurtleWorldModel", "letter", "[B", true)
  | 2 => ("TurtleWorldModel", "letterToo", "[B", true)
  | 3 => ("TurtleWorldModel", "wordAt", "[I", true)
  | 4 => ("TurtleWorldModel", "wordSize", "[I", true)
  | 5 => ("TurtleWorldModel", "wordToo", "[I", true)
  | 6 => ("TurtleWorldModel", "wordSizeToo", "[I", true)
  | 7 => ("TurtleWorldModel", "meaning", "[I", true)
  | 8 => ("TurtleWorldModel", "moved", "[I", true)
  | 9 => ("TurtleWorldModel", "quote", "[J", true)
  | 10 => ("TurtleWorldModel", "cell", "[J", true)
  | 11 => ("TurtleWorldModel", "cellToo", "[J", true)
  | 12 => ("TurtleWorldModel", "listAt", "[I", true)
  | 13 => ("TurtleWorldModel", "listSize", "[I", true)
  | 14 => ("TurtleWorldModel", "weight", "[I", true)
  | 15 => ("TurtleWorldModel", "listToo", "[I", true)
  | 16 => ("TurtleWorldModel", "listSizeToo", "[I", true)
  | 17 => ("TurtleWorldModel", "movedList", "[I", true)
  | 18 => ("TurtleWorldModel", "letters", "I", false)
  | 19 => ("TurtleWorldModel", "words", "I", false)
  | 20 => ("TurtleWorldModel", "cells", "I", false)
  | 21 => ("TurtleWorldModel", "lists", "I", false)
  | 22 => ("TurtleWorldModel", "pairA", "[J", true)
  | 23 => ("TurtleWorldModel", "pairB", "[J", true)
  | 24 => ("TurtleWorldModel", "shown", "[B", true)
  | 25 => ("TurtleWorldModel", "shownSize", "I", false)
  | 26 => ("TurtleWorldModel", "inList", "[I", true)
  | 27 => ("TurtleWorldModel", "inAt", "[I", true)
  | 28 => ("TurtleWorldModel", "got", "I", false)
  | 29 => ("TurtleWorldModel", "procName", "[I", true)
  | 30 => ("TurtleWorldModel", "procMany", "[I", true)
  | 31 => ("TurtleWorldModel", "procInput", "[I", true)
  | 32 => ("TurtleWorldModel", "procBody", "[J", true)
  | 33 => ("TurtleWorldModel", "procs", "I", false)
  | 34 => ("TurtleWorldModel", "globalName", "[I", true)
  | 35 => ("TurtleWorldModel", "globalValue", "[J", true)
  | 36 => ("TurtleWorldModel", "globals", "I", false)
  | 37 => ("TurtleWorldModel", "px", "[I", true)
  | 38 => ("TurtleWorldModel", "qx", "[I", true)
  | 39 => ("TurtleWorldModel", "py", "[I", true)
  | 40 => ("TurtleWorldModel", "qy", "[I", true)
  | 41 => ("TurtleWorldModel", "heading", "[I", true)
  | 42 => ("TurtleWorldModel", "pen", "[I", true)
  | 43 => ("TurtleWorldModel", "isDown", "[I", true)
  | 44 => ("TurtleWorldModel", "dots", "[I", true)
  | 45 => ("TurtleWorldModel", "out", "[B", true)
  | 46 => ("TurtleWorldModel", "seed", "I", false)
  | 47 => ("TurtleWorldModel", "told", "I", false)
  | 48 => ("TurtleWorldModel", "outs", "J", false)
  | 49 => ("TurtleWorldModel", "procNameWas", "[I", true)
  | 50 => ("TurtleWorldModel", "procManyWas", "[I", true)
  | 51 => ("TurtleWorldModel", "procInputWas", "[I", true)
  | 52 => ("TurtleWorldModel", "globalNameWas", "[I", true)
  | 53 => ("TurtleWorldModel", "turtleWas", "[I", true)
  | 54 => ("TurtleWorldModel", "dotsWas", "[I", true)
  | 55 => ("TurtleWorldModel", "procBodyWas", "[J", true)
  | 56 => ("TurtleWorldModel", "globalValueWas", "[J", true)
  | 57 => ("TurtleWorldModel", "outWas", "[B", true)
  | 58 => ("TurtleWorldModel", "outsWere", "J", false)
  | 59 => ("TurtleWorldModel", "procsWere", "I", false)
  | 60 => ("TurtleWorldModel", "globalsWere", "I", false)
  | 61 => ("TurtleWorldModel", "seedWas", "I", false)
  | 62 => ("TurtleWorldModel", "toldWas", "I", false)
  | 63 => ("TurtleWorldModel", "lettersWere", "I", false)
  | 64 => ("TurtleWorldModel", "wordsWere", "I", false)
  | 65 => ("TurtleWorldModel", "cellsWere", "I", false)
  | 66 => ("TurtleWorldModel", "listsWere", "I", false)
  | 67 => ("TurtleWorldModel", "wordsToo", "I", false)
  | 68 => ("TurtleWorldModel", "lettersToo", "I", false)
  | 69 => ("TurtleWorldModel", "cellsToo", "I", false)
  | 70 => ("TurtleWorldModel", "listsToo", "I", false)
  | 71 => ("TurtleWorldModel", "waits", "[I", true)
  | 72 => ("TurtleWorldModel", "weightToo", "[I", true)
  | 73 => ("TurtleWorldModel", "tape", "[B", true)
  | 74 => ("TurtleWorldModel", "taped", "I", false)
  | 75 => ("TurtleWorldModel", "fault", "I", false)
  | 76 => ("TurtleWorldModel", "faultPlace", "I", false)
  | 77 => ("TurtleWorldModel", "tokenAt", "[I", true)
  | 78 => ("TurtleWorldModel", "tokenSize", "[I", true)
  | 79 => ("TurtleWorldModel", "tokenEnd", "[I", true)
  | 80 => ("TurtleWorldModel", "tokenValue", "[J", true)
  | 81 => ("TurtleWorldModel", "tokens", "I", false)
  | 82 => ("TurtleWorldModel", "opens", "[I", true)
  | 83 => ("TurtleWorldModel", "made", "[J", true)
  | 84 => ("TurtleWorldModel", "state", "I", false)
  | 85 => ("TurtleWorldModel", "newProcs", "I", false)
  | 86 => ("TurtleWorldModel", "definitions", "I", false)
  | 87 => ("TurtleWorldModel", "defName", "[I", true)
  | 88 => ("TurtleWorldModel", "defMany", "[I", true)
  | 89 => ("TurtleWorldModel", "defInput", "[I", true)
  | 90 => ("TurtleWorldModel", "defFrom", "[I", true)
  | 91 => ("TurtleWorldModel", "defTo", "[I", true)
  | 92 => ("TurtleWorldModel", "status", "I", false)
  | 93 => ("TurtleWorldModel", "done", "I", false)
  | 94 => ("TurtleWorldModel", "error", "I", false)
  | 95 => ("TurtleWorldModel", "lastError", "I", false)
  | 96 => ("TurtleWorldModel", "madeNow", "I", false)
  | 97 => ("TurtleWorldModel", "levels", "I", false)
  | 98 => ("TurtleWorldModel", "waiting", "I", false)
  | 99 => ("TurtleWorldModel", "calls", "I", false)
  | 100 => ("TurtleWorldModel", "isLost", "Z", false)
  | 101 => ("TurtleWorldModel", "line", "J", false)
  | 102 => ("TurtleWorldModel", "leaves", "I", false)
  | 103 => ("TurtleWorldModel", "asks", "I", false)
  | 104 => ("TurtleWorldModel", "toldAhead", "I", false)
  | 105 => ("TurtleWorldModel", "list", "I", false)
  | 106 => ("TurtleWorldModel", "at", "I", false)
  | 107 => ("TurtleWorldModel", "tops", "I", false)
  | 108 => ("TurtleWorldModel", "budget", "J", false)
  | 109 => ("TurtleWorldModel", "thrownTag", "J", false)
  | 110 => ("TurtleWorldModel", "given", "J", false)
  | 111 => ("TurtleWorldModel", "top", "[J", true)
  | 112 => ("TurtleWorldModel", "callProc", "[I", true)
  | 113 => ("TurtleWorldModel", "localMany", "[I", true)
  | 114 => ("TurtleWorldModel", "localName", "[I", true)
  | 115 => ("TurtleWorldModel", "localValue", "[J", true)
  | 116 => ("TurtleWorldModel", "repeats", "I", false)
  | 117 => ("TurtleWorldModel", "members", "I", false)
  | 118 => ("TurtleWorldModel", "catches", "I", false)
  | 119 => ("TurtleWorldModel", "repeatCount", "[I", true)
  | 120 => ("TurtleWorldModel", "repeatCall", "[I", true)
  | 121 => ("TurtleWorldModel", "memberCall", "[I", true)
  | 122 => ("TurtleWorldModel", "memberNow", "[J", true)
  | 123 => ("TurtleWorldModel", "catchTag", "[J", true)
  | 124 => ("TurtleWorldModel", "yes", "J", false)
  | 125 => ("TurtleWorldModel", "no", "J", false)
  | _ => ("TurtleWorldModel", "errorNow", "I", false)
def t_Model : Nat → FieldType := fun k => match k with
  | 0 => .int
  | 1 => .array .byte
  | 2 => .array .byte
  | 3 => .array .int
  | 4 => .array .int
  | 5 => .array .int
  | 6 => .array .int
  | 7 => .array .int
  | 8 => .array .int
  | 9 => .array .long
  | 10 => .array .long
  | 11 => .array .long
  | 12 => .array .int
  | 13 => .array .int
  | 14 => .array .int
  | 15 => .array .int
  | 16 => .array .int
  | 17 => .array .int
  | 18 => .int
  | 19 => .int
  | 20 => .int
  | 21 => .int
  | 22 => .array .long
  | 23 => .array .long
  | 24 => .array .byte
  | 25 => .int
  | 26 => .array .int
  | 27 => .array .int
  | 28 => .int
  | 29 => .array .int
  | 30 => .array .int
  | 31 => .array .int
  | 32 => .array .long
  | 33 => .int
  | 34 => .array .int
  | 35 => .array .long
  | 36 => .int
  | 37 => .array .int
  | 38 => .array .int
  | 39 => .array .int
  | 40 => .array .int
  | 41 => .array .int
  | 42 => .array .int
  | 43 => .array .int
  | 44 => .array .int
  | 45 => .array .byte
  | 46 => .int
  | 47 => .int
  | 48 => .long
  | 49 => .array .int
  | 50 => .array .int
  | 51 => .array .int
  | 52 => .array .int
  | 53 => .array .int
  | 54 => .array .int
  | 55 => .array .long
  | 56 => .array .long
  | 57 => .array .byte
  | 58 => .long
  | 59 => .int
  | 60 => .int
  | 61 => .int
  | 62 => .int
  | 63 => .int
  | 64 => .int
  | 65 => .int
  | 66 => .int
  | 67 => .int
  | 68 => .int
  | 69 => .int
  | 70 => .int
  | 71 => .array .int
  | 72 => .array .int
  | 73 => .array .byte
  | 74 => .int
  | 75 => .int
  | 76 => .int
  | 77 => .array .int
  | 78 => .array .int
  | 79 => .array .int
  | 80 => .array .long
  | 81 => .int
  | 82 => .array .int
  | 83 => .array .long
  | 84 => .int
  | 85 => .int
  | 86 => .int
  | 87 => .array .int
  | 88 => .array .int
  | 89 => .array .int
  | 90 => .array .int
  | 91 => .array .int
  | 92 => .int
  | 93 => .int
  | 94 => .int
  | 95 => .int
  | 96 => .int
  | 97 => .int
  | 98 => .int
  | 99 => .int
  | 100 => .boolean
  | 101 => .long
  | 102 => .int
  | 103 => .int
  | 104 => .int
  | 105 => .int
  | 106 => .int
  | 107 => .int
  | 108 => .long
  | 109 => .long
  | 110 => .long
  | 111 => .array .long
  | 112 => .array .int
  | 113 => .array .int
  | 114 => .array .int
  | 115 => .array .long
  | 116 => .int
  | 117 => .int
  | 118 => .int
  | 119 => .array .int
  | 120 => .array .int
  | 121 => .array .int
  | 122 => .array .long
  | 123 => .array .long
  | 124 => .long
  | 125 => .long
  | _ => .int
abbrev classes : List vw_C := [(R_World, F_World, 13), (R_Heap, F_Heap, 12), (R_Lexicon, F_Lexicon, 7), (R_Names, F_Names, 9), (R_Procedures, F_Procedures, 8), (R_Turtles, F_Turtles, 8), (R_Output, F_Output, 11), (R_Reader, F_Reader, 19), (R_Line, F_Line, 18), (R_Waiting, F_Waiting, 11), (R_Deeds, F_Deeds, 8), (R_Machine, F_Machine, 9), (R_Model, F_Model, 127)]
abbrev b_World_init : ByteArray := prog_1_method_1_code
def y_World_init : MethodName := ⟨R_World, "<init>", "(I)V"⟩
abbrev w_World_init : List Cond := .code y_World_init b_World_init 3 none :: tw_T
set_option maxRecDepth 100000 in
theorem cw_World_init : Cond.code y_World_init b_World_init 3 none ∈ tw_T := tw_i1 30 rfl rfl
abbrev b_Lexicon_init : ByteArray := prog_4_method_1_code
def y_Lexicon_init : MethodName := ⟨R_Lexicon, "<init>", "()V"⟩
abbrev w_Lexicon_init : List Cond := .code y_Lexicon_init b_Lexicon_init 1 none :: tw_T
set_option maxRecDepth 100000 in
theorem cw_Lexicon_init : Cond.code y_Lexicon_init b_Lexicon_init 1 none ∈ tw_T := tw_i1 40 rfl rfl
abbrev b_Lexicon_load : ByteArray := prog_4_method_2_code
def y_Lexicon_load : MethodName := ⟨R_Lexicon, "load", "(Ljava/lang/String;)V"⟩
abbrev w_Lexicon_load : List Cond := .code y_Lexicon_load b_Lexicon_load 5 none :: tw_T
set_option maxRecDepth 100000 in
theorem cw_Lexicon_load : Cond.code y_Lexicon_load b_Lexicon_load 5 none ∈ tw_T := tw_i1 46 rfl rfl
abbrev b_Lexicon_beginWord : ByteArray := prog_4_method_3_code
def y_Lexicon_beginWord : MethodName := ⟨R_Lexicon, "beginWord", "()V"⟩
abbrev w_Lexicon_beginWord : List Cond := .code y_Lexicon_beginWord b_Lexicon_beginWord 1 none :: tw_T
set_option maxRecDepth 100000 in
theorem cw_Lexicon_beginWord : Cond.code y_Lexicon_beginWord b_Lexicon_beginWord 1 none ∈ tw_T := tw_i1 50 rfl rfl
abbrev b_Lexicon_endWord : ByteArray := prog_4_method_6_code
def y_Lexicon_endWord : MethodName := ⟨R_Lexicon, "endWord", "()V"⟩
abbrev w_Lexicon_endWord : List Cond := .code y_Lexicon_endWord b_Lexicon_endWord 4 none :: tw_T
set_option maxRecDepth 100000 in
theorem cw_Lexicon_endWord : Cond.code y_Lexicon_endWord b_Lexicon_endWord 4 none ∈ tw_T := tw_i1 102 rfl rfl
abbrev b_Lexicon_addLetter : ByteArray := prog_4_method_4_code
def y_Lexicon_addLetter : MethodName := ⟨R_Lexicon, "addLetter", "(I)V"⟩
abbrev w_Lexicon_addLetter : List Cond := .code y_Lexicon_addLetter b_Lexicon_addLetter 2 none :: tw_T
set_option maxRecDepth 100000 in
theorem cw_Lexicon_addLetter : Cond.code y_Lexicon_addLetter b_Lexicon_addLetter 2 none ∈ tw_T := tw_i1 106 rfl rfl
abbrev b_Lexicon_hashOf : ByteArray := prog_4_method_7_code
def y_Lexicon_hashOf : MethodName := ⟨R_Lexicon, "hashOf", "([II)I"⟩
abbrev w_Lexicon_hashOf : List Cond := .code y_Lexicon_hashOf b_Lexicon_hashOf 4 (some .int) :: tw_T
set_option maxRecDepth 100000 in
theorem cw_Lexicon_hashOf : Cond.code y_Lexicon_hashOf b_Lexicon_hashOf 4 (some .int) ∈ tw_T := tw_i1 109 rfl rfl
abbrev b_Lexicon_addKind : ByteArray := prog_4_method_5_code
def y_Lexicon_addKind : MethodName := ⟨R_Lexicon, "addKind", "(I)V"⟩
abbrev w_Lexicon_addKind : List Cond := .code y_Lexicon_addKind b_Lexicon_addKind 3 none :: tw_T
set_option maxRecDepth 100000 in
theorem cw_Lexicon_addKind : Cond.code y_Lexicon_addKind b_Lexicon_addKind 3 none ∈ tw_T := tw_i1 116 rfl rfl
abbrev b_Heap_init : ByteArray := prog_3_method_1_code
def y_Heap_init : MethodName := ⟨R_Heap, "<init>", "(LTurtleWorld$Lexicon;)V"⟩
abbrev w_Heap_init : List Cond := .code y_Heap_init b_Heap_init 2 none :: tw_T
set_option maxRecDepth 100000 in
theorem cw_Heap_init : Cond.code y_Heap_init b_Heap_init 2 none ∈ tw_T := tw_i1 148 rfl rfl
abbrev b_Heap_textWord : ByteArray := prog_3_method_2_code
def y_Heap_textWord : MethodName := ⟨R_Heap, "textWord", "(Ljava/lang/String;)I"⟩
abbrev w_Heap_textWord : List Cond := .code y_Heap_textWord b_Heap_textWord 5 (some .int) :: tw_T
set_option maxRecDepth 100000 in
theorem cw_Heap_textWord : Cond.code y_Heap_textWord b_Heap_textWord 5 (some .int) ∈ tw_T := tw_i1 154 rfl rfl
abbrev b_Heap_newWord : ByteArray := prog_3_method_10_code
def y_Heap_newWord : MethodName := ⟨R_Heap, "newWord", "([III)I"⟩
abbrev w_Heap_newWord : List Cond := .code y_Heap_newWord b_Heap_newWord 5 (some .int) :: tw_T
set_option maxRecDepth 100000 in
theorem cw_Heap_newWord : Cond.code y_Heap_newWord b_Heap_newWord 5 (some .int) ∈ tw_T := tw_i1 160 rfl rfl
abbrev b_Heap_reserve : ByteArray := prog_3_method_9_code
def y_Heap_reserve : MethodName := ⟨R_Heap, "reserve", "(I)Z"⟩
abbrev w_Heap_reserve : List Cond := .code y_Heap_reserve b_Heap_reserve 3 (some .boolean) :: tw_T
set_option maxRecDepth 100000 in
theorem cw_Heap_reserve : Cond.code y_Heap_reserve b_Heap_reserve 3 (some .boolean) ∈ tw_T := tw_i1 164 rfl rfl
abbrev b_Lexicon_meaning : ByteArray := prog_4_method_9_code
def y_Lexicon_meaning : MethodName := ⟨R_Lexicon, "meaning", "([II)I"⟩
abbrev w_Lexicon_meaning : List Cond := .code y_Lexicon_meaning b_Lexicon_meaning 6 (some .int) :: tw_T
set_option maxRecDepth 100000 in
theorem cw_Lexicon_meaning : Cond.code y_Lexicon_meaning b_Lexicon_meaning 6 (some .int) ∈ tw_T := tw_i1 189 rfl rfl
abbrev b_Lexicon_isAt : ByteArray := prog_4_method_8_code
def y_Lexicon_isAt : MethodName := ⟨R_Lexicon, "isAt", "(I[II)Z"⟩
abbrev w_Lexicon_isAt : List Cond := .code y_Lexicon_isAt b_Lexicon_isAt 6 (some .boolean) :: tw_T
set_option maxRecDepth 100000 in
theorem cw_Lexicon_isAt : Cond.code y_Lexicon_isAt b_Lexicon_isAt 6 (some .boolean) ∈ tw_T := tw_i1 193 rfl rfl
abbrev b_Names_init : ByteArray := prog_7_method_1_code
def y_Names_init : MethodName := ⟨R_Names, "<init>", "(LTurtleWorld$Heap;)V"⟩
abbrev w_Names_init : List Cond := .code y_Names_init b_Names_init 2 none :: tw_T
set_option maxRecDepth 100000 in
theorem cw_Names_init : Cond.code y_Names_init b_Names_init 2 none ∈ tw_T := tw_i2 6 rfl rfl
abbrev b_Procedures_init : ByteArray := prog_9_method_1_code
def y_Procedures_init : MethodName := ⟨R_Procedures, "<init>", "(LTurtleWorld$Heap;)V"⟩
abbrev w_Procedures_init : List Cond := .code y_Procedures_init b_Procedures_init 2 none :: tw_T
set_option maxRecDepth 100000 in
theorem cw_Procedures_init : Cond.code y_Procedures_init b_Procedures_init 2 none ∈ tw_T := tw_i2 44 rfl rfl
abbrev b_Turtles_init : ByteArray := prog_11_method_1_code
def y_Turtles_init : MethodName := ⟨R_Turtles, "<init>", "()V"⟩
abbrev w_Turtles_init : List Cond := .code y_Turtles_init b_Turtles_init 2 none :: tw_T
set_option maxRecDepth 100000 in
theorem cw_Turtles_init : Cond.code y_Turtles_init b_Turtles_init 2 none ∈ tw_T := tw_i2 84 rfl rfl
abbrev b_Output_init : ByteArray := prog_8_method_1_code
def y_Output_init : MethodName := ⟨R_Output, "<init>", "(LTurtleWorld$Heap;)V"⟩
abbrev w_Output_init : List Cond := .code y_Output_init b_Output_init 2 none :: tw_T
set_option maxRecDepth 100000 in
theorem cw_Output_init : Cond.code y_Output_init b_Output_init 2 none ∈ tw_T := tw_i2 118 rfl rfl
abbrev b_Reader_init : ByteArray := prog_10_method_1_code
def y_Reader_init : MethodName := ⟨R_Reader, "<init>", "(LTurtleWorld$Heap;LTurtleWorld$Procedures;)V"⟩
abbrev w_Reader_init : List Cond := .code y_Reader_init b_Reader_init 3 none :: tw_T
set_option maxRecDepth 100000 in
theorem cw_Reader_init : Cond.code y_Reader_init b_Reader_init 3 none ∈ tw_T := tw_i2 161 rfl rfl
abbrev b_Line_init : ByteArray := prog_5_method_1_code
def y_Line_init : MethodName := ⟨R_Line, "<init>", "(LTurtleWorld$Heap;)V"⟩
abbrev w_Line_init : List Cond := .code y_Line_init b_Line_init 2 none :: tw_T
set_option maxRecDepth 100000 in
theorem cw_Line_init : Cond.code y_Line_init b_Line_init 2 none ∈ tw_T := tw_i2 229 rfl rfl
abbrev b_Waiting_init : ByteArray := prog_12_method_1_code
def y_Waiting_init : MethodName := ⟨R_Waiting, "<init>", "()V"⟩
abbrev w_Waiting_init : List Cond := .code y_Waiting_init b_Waiting_init 1 none :: tw_T
set_option maxRecDepth 100000 in
theorem cw_Waiting_init : Cond.code y_Waiting_init b_Waiting_init 1 none ∈ tw_T := tw_i3 80 rfl rfl
abbrev b_Deeds_init : ByteArray := prog_2_method_1_code
def y_Deeds_init : MethodName := ⟨R_Deeds, "<init>", "(LTurtleWorld$Line;LTurtleWorld$Waiting;LTurtleWorld$Names;LTurtleWorld$Procedures;LTurtleWorld$Turtles;LTurtleWorld$Output;I)V"⟩
abbrev w_Deeds_init : List Cond := .code y_Deeds_init b_Deeds_init 8 none :: tw_T
set_option maxRecDepth 100000 in
theorem cw_Deeds_init : Cond.code y_Deeds_init b_Deeds_init 8 none ∈ tw_T := tw_i3 132 rfl rfl
abbrev b_Machine_init : ByteArray := prog_6_method_1_code
def y_Machine_init : MethodName := ⟨R_Machine, "<init>", "(LTurtleWorld$Line;LTurtleWorld$Waiting;LTurtleWorld$Names;LTurtleWorld$Procedures;LTurtleWorld$Turtles;LTurtleWorld$Deeds;)V"⟩
abbrev w_Machine_init : List Cond := .code y_Machine_init b_Machine_init 7 none :: tw_T
set_option maxRecDepth 100000 in
theorem cw_Machine_init : Cond.code y_Machine_init b_Machine_init 7 none ∈ tw_T := tw_i3 164 rfl rfl
abbrev b_World_feed : ByteArray := prog_1_method_2_code
def y_World_feed : MethodName := ⟨R_World, "feed", "(IIIII)Z"⟩
abbrev w_World_feed : List Cond := .code y_World_feed b_World_feed 6 (some .boolean) :: tw_T
set_option maxRecDepth 100000 in
theorem cw_World_feed : Cond.code y_World_feed b_World_feed 6 (some .boolean) ∈ tw_T := tw_i3 237 rfl rfl
abbrev b_Reader_hasRoom : ByteArray := prog_10_method_2_code
def y_Reader_hasRoom : MethodName := ⟨R_Reader, "hasRoom", "()Z"⟩
abbrev w_Reader_hasRoom : List Cond := .code y_Reader_hasRoom b_Reader_hasRoom 1 (some .boolean) :: tw_T
set_option maxRecDepth 100000 in
theorem cw_Reader_hasRoom : Cond.code y_Reader_hasRoom b_Reader_hasRoom 1 (some .boolean) ∈ tw_T := tw_i4 1 rfl rfl
abbrev b_Reader_addBytes : ByteArray := prog_10_method_3_code
def y_Reader_addBytes : MethodName := ⟨R_Reader, "addBytes", "(I)V"⟩
abbrev w_Reader_addBytes : List Cond := .code y_Reader_addBytes b_Reader_addBytes 3 none :: tw_T
set_option maxRecDepth 100000 in
theorem cw_Reader_addBytes : Cond.code y_Reader_addBytes b_Reader_addBytes 3 none ∈ tw_T := tw_i4 5 rfl rfl
abbrev b_World_end : ByteArray := prog_1_method_3_code
def y_World_end : MethodName := ⟨R_World, "end", "(I)Z"⟩
abbrev w_World_end : List Cond := .code y_World_end b_World_end 2 (some .boolean) :: tw_T
set_option maxRecDepth 100000 in
theorem cw_World_end : Cond.code y_World_end b_World_end 2 (some .boolean) ∈ tw_T := tw_i4 9 rfl rfl
abbrev b_Reader_cut : ByteArray := prog_10_method_4_code
def y_Reader_cut : MethodName := ⟨R_Reader, "cut", "(I)Z"⟩
abbrev w_Reader_cut : List Cond := .code y_Reader_cut b_Reader_cut 2 (some .boolean) :: tw_T
set_option maxRecDepth 100000 in
theorem cw_Reader_cut : Cond.code y_Reader_cut b_Reader_cut 2 (some .boolean) ∈ tw_T := tw_i4 13 rfl rfl
abbrev b_World_define : ByteArray := prog_1_method_4_code
def y_World_define : MethodName := ⟨R_World, "define", "()I"⟩
abbrev w_World_define : List Cond := .code y_World_define b_World_define 2 (some .int) :: tw_T
set_option maxRecDepth 100000 in
theorem cw_World_define : Cond.code y_World_define b_World_define 2 (some .int) ∈ tw_T := tw_i4 17 rfl rfl
abbrev b_Reader_read : ByteArray := prog_10_method_5_code
def y_Reader_read : MethodName := ⟨R_Reader, "read", "(Z)Z"⟩
abbrev w_Reader_read : List Cond := .code y_Reader_read b_Reader_read 8 (some .boolean) :: tw_T
set_option maxRecDepth 100000 in
theorem cw_Reader_read : Cond.code y_Reader_read b_Reader_read 8 (some .boolean) ∈ tw_T := tw_i4 21 rfl rfl
abbrev b_Reader_begin : ByteArray := prog_10_method_6_code
def y_Reader_begin : MethodName := ⟨R_Reader, "begin", "(Z)V"⟩
abbrev w_Reader_begin : List Cond := .code y_Reader_begin b_Reader_begin 2 none :: tw_T
set_option maxRecDepth 100000 in
theorem cw_Reader_begin : Cond.code y_Reader_begin b_Reader_begin 2 none ∈ tw_T := tw_i4 25 rfl rfl
abbrev b_Reader_blame : ByteArray := prog_10_method_7_code
def y_Reader_blame : MethodName := ⟨R_Reader, "blame", "(II)V"⟩
abbrev w_Reader_blame : List Cond := .code y_Reader_blame b_Reader_blame 3 none :: tw_T
set_option maxRecDepth 100000 in
theorem cw_Reader_blame : Cond.code y_Reader_blame b_Reader_blame 3 none ∈ tw_T := tw_i4 29 rfl rfl
abbrev b_Reader_tokenEnd : ByteArray := prog_10_method_12_code
def y_Reader_tokenEnd : MethodName := ⟨R_Reader, "tokenEnd", "(I)I"⟩
abbrev w_Reader_tokenEnd : List Cond := .code y_Reader_tokenEnd b_Reader_tokenEnd 5 (some .int) :: tw_T
set_option maxRecDepth 100000 in
theorem cw_Reader_tokenEnd : Cond.code y_Reader_tokenEnd b_Reader_tokenEnd 5 (some .int) ∈ tw_T := tw_i4 33 rfl rfl
abbrev b_Reader_isAlone : ByteArray := prog_10_method_8_code
def y_Reader_isAlone : MethodName := ⟨R_Reader, "isAlone", "(I)Z"⟩
abbrev w_Reader_isAlone : List Cond := .code y_Reader_isAlone b_Reader_isAlone 1 (some .boolean) :: tw_T
set_option maxRecDepth 100000 in
theorem cw_Reader_isAlone : Cond.code y_Reader_isAlone b_Reader_isAlone 1 (some .boolean) ∈ tw_T := tw_i4 36 rfl rfl
abbrev b_Reader_isSign : ByteArray := prog_10_method_9_code
def y_Reader_isSign : MethodName := ⟨R_Reader, "isSign", "(I)Z"⟩
abbrev w_Reader_isSign : List Cond := .code y_Reader_isSign b_Reader_isSign 1 (some .boolean) :: tw_T
set_option maxRecDepth 100000 in
theorem cw_Reader_isSign : Cond.code y_Reader_isSign b_Reader_isSign 1 (some .boolean) ∈ tw_T := tw_i4 39 rfl rfl
abbrev b_Reader_beginsNumber : ByteArray := prog_10_method_11_code
def y_Reader_beginsNumber : MethodName := ⟨R_Reader, "beginsNumber", "(I)Z"⟩
abbrev w_Reader_beginsNumber : List Cond := .code y_Reader_beginsNumber b_Reader_beginsNumber 3 (some .boolean) :: tw_T
set_option maxRecDepth 100000 in
theorem cw_Reader_beginsNumber : Cond.code y_Reader_beginsNumber b_Reader_beginsNumber 3 (some .boolean) ∈ tw_T := tw_i4 43 rfl rfl
abbrev b_Reader_isDigit : ByteArray := prog_10_method_10_code
def y_Reader_isDigit : MethodName := ⟨R_Reader, "isDigit", "(I)Z"⟩
abbrev w_Reader_isDigit : List Cond := .code y_Reader_isDigit b_Reader_isDigit 1 (some .boolean) :: tw_T
set_option maxRecDepth 100000 in
theorem cw_Reader_isDigit : Cond.code y_Reader_isDigit b_Reader_isDigit 1 (some .boolean) ∈ tw_T := tw_i4 46 rfl rfl
abbrev b_Reader_readToken : ByteArray := prog_10_method_13_code
def y_Reader_readToken : MethodName := ⟨R_Reader, "readToken", "(II)V"⟩
abbrev w_Reader_readToken : List Cond := .code y_Reader_readToken b_Reader_readToken 4 none :: tw_T
set_option maxRecDepth 100000 in
theorem cw_Reader_readToken : Cond.code y_Reader_readToken b_Reader_readToken 4 none ∈ tw_T := tw_i4 50 rfl rfl
abbrev b_Reader_openList : ByteArray := prog_10_method_14_code
def y_Reader_openList : MethodName := ⟨R_Reader, "openList", "(I)V"⟩
abbrev w_Reader_openList : List Cond := .code y_Reader_openList b_Reader_openList 2 none :: tw_T
set_option maxRecDepth 100000 in
theorem cw_Reader_openList : Cond.code y_Reader_openList b_Reader_openList 2 none ∈ tw_T := tw_i4 54 rfl rfl
abbrev b_Reader_closeInputs : ByteArray := prog_10_method_23_code
def y_Reader_closeInputs : MethodName := ⟨R_Reader, "closeInputs", "()V"⟩
abbrev w_Reader_closeInputs : List Cond := .code y_Reader_closeInputs b_Reader_closeInputs 1 none :: tw_T
set_option maxRecDepth 100000 in
theorem cw_Reader_closeInputs : Cond.code y_Reader_closeInputs b_Reader_closeInputs 1 none ∈ tw_T := tw_i4 58 rfl rfl
abbrev b_Heap_newListOf : ByteArray := prog_3_method_12_code
def y_Heap_newListOf : MethodName := ⟨R_Heap, "newListOf", "([III)I"⟩
abbrev w_Heap_newListOf : List Cond := .code y_Heap_newListOf b_Heap_newListOf 6 (some .int) :: tw_T
set_option maxRecDepth 100000 in
theorem cw_Heap_newListOf : Cond.code y_Heap_newListOf b_Heap_newListOf 6 (some .int) ∈ tw_T := tw_i4 62 rfl rfl
abbrev b_Heap_size : ByteArray := prog_3_method_16_code
def y_Heap_size : MethodName := ⟨R_Heap, "size", "(I)I"⟩
abbrev w_Heap_size : List Cond := .code y_Heap_size b_Heap_size 5 (some .int) :: tw_T
set_option maxRecDepth 100000 in
theorem cw_Heap_size : Cond.code y_Heap_size b_Heap_size 5 (some .int) ∈ tw_T := tw_i4 66 rfl rfl
abbrev b_Heap_newList : ByteArray := prog_3_method_11_code
def y_Heap_newList : MethodName := ⟨R_Heap, "newList", "(II)I"⟩
abbrev w_Heap_newList : List Cond := .code y_Heap_newList b_Heap_newList 4 (some .int) :: tw_T
set_option maxRecDepth 100000 in
theorem cw_Heap_newList : Cond.code y_Heap_newList b_Heap_newList 4 (some .int) ∈ tw_T := tw_i4 71 rfl rfl
abbrev b_Reader_closeList : ByteArray := prog_10_method_15_code
def y_Reader_closeList : MethodName := ⟨R_Reader, "closeList", "(I)V"⟩
abbrev w_Reader_closeList : List Cond := .code y_Reader_closeList b_Reader_closeList 4 none :: tw_T
set_option maxRecDepth 100000 in
theorem cw_Reader_closeList : Cond.code y_Reader_closeList b_Reader_closeList 4 none ∈ tw_T := tw_i4 76 rfl rfl
abbrev b_Reader_addMember : ByteArray := prog_10_method_22_code
def y_Reader_addMember : MethodName := ⟨R_Reader, "addMember", "(I)V"⟩
abbrev w_Reader_addMember : List Cond := .code y_Reader_addMember b_Reader_addMember 2 none :: tw_T
set_option maxRecDepth 100000 in
theorem cw_Reader_addMember : Cond.code y_Reader_addMember b_Reader_addMember 2 none ∈ tw_T := tw_i4 81 rfl rfl
abbrev b_Reader_readPlain : ByteArray := prog_10_method_16_code
def y_Reader_readPlain : MethodName := ⟨R_Reader, "readPlain", "(II)I"⟩
abbrev w_Reader_readPlain : List Cond := .code y_Reader_readPlain b_Reader_readPlain 4 (some .int) :: tw_T
set_option maxRecDepth 100000 in
theorem cw_Reader_readPlain : Cond.code y_Reader_readPlain b_Reader_readPlain 4 (some .int) ∈ tw_T := tw_i4 85 rfl rfl
abbrev b_Heap_numberIn : ByteArray := prog_3_method_8_code
def y_Heap_numberIn : MethodName := ⟨R_Heap, "numberIn", "([III)I"⟩
abbrev w_Heap_numberIn : List Cond := .code y_Heap_numberIn b_Heap_numberIn 8 (some .int) :: tw_T
set_option maxRecDepth 100000 in
theorem cw_Heap_numberIn : Cond.code y_Heap_numberIn b_Heap_numberIn 8 (some .int) ∈ tw_T := tw_i4 88 rfl rfl
abbrev b_Heap_number : ByteArray := prog_3_method_6_code
def y_Heap_number : MethodName := ⟨R_Heap, "number", "(I)I"⟩
abbrev w_Heap_number : List Cond := .code y_Heap_number b_Heap_number 1 (some .int) :: tw_T
set_option maxRecDepth 100000 in
theorem cw_Heap_number : Cond.code y_Heap_number b_Heap_number 1 (some .int) ∈ tw_T := tw_i4 98 rfl rfl
abbrev b_Reader_takePlain : ByteArray := prog_10_method_17_code
def y_Reader_takePlain : MethodName := ⟨R_Reader, "takePlain", "(II)V"⟩
abbrev w_Reader_takePlain : List Cond := .code y_Reader_takePlain b_Reader_takePlain 4 none :: tw_T
set_option maxRecDepth 100000 in
theorem cw_Reader_takePlain : Cond.code y_Reader_takePlain b_Reader_takePlain 4 none ∈ tw_T := tw_i4 104 rfl rfl
abbrev b_Heap_isWord : ByteArray := prog_3_method_5_code
def y_Heap_isWord : MethodName := ⟨R_Heap, "isWord", "(I)Z"⟩
abbrev w_Heap_isWord : List Cond := .code y_Heap_isWord b_Heap_isWord 1 (some .boolean) :: tw_T
set_option maxRecDepth 100000 in
theorem cw_Heap_isWord : Cond.code y_Heap_isWord b_Heap_isWord 1 (some .boolean) ∈ tw_T := tw_i4 107 rfl rfl
abbrev b_Heap_meaning : ByteArray := prog_3_method_19_code
def y_Heap_meaning : MethodName := ⟨R_Heap, "meaning", "(I)I"⟩
abbrev w_Heap_meaning : List Cond := .code y_Heap_meaning b_Heap_meaning 4 (some .int) :: tw_T
set_option maxRecDepth 100000 in
theorem cw_Heap_meaning : Cond.code y_Heap_meaning b_Heap_meaning 4 (some .int) ∈ tw_T := tw_i4 111 rfl rfl
abbrev b_Reader_takeTo : ByteArray := prog_10_method_18_code
def y_Reader_takeTo : MethodName := ⟨R_Reader, "takeTo", "(II)V"⟩
abbrev w_Reader_takeTo : List Cond := .code y_Reader_takeTo b_Reader_takeTo 3 none :: tw_T
set_option maxRecDepth 100000 in
theorem cw_Reader_takeTo : Cond.code y_Reader_takeTo b_Reader_takeTo 3 none ∈ tw_T := tw_i4 115 rfl rfl
abbrev b_Reader_takeName : ByteArray := prog_10_method_19_code
def y_Reader_takeName : MethodName := ⟨R_Reader, "takeName", "(II)V"⟩
abbrev w_Reader_takeName : List Cond := .code y_Reader_takeName b_Reader_takeName 3 none :: tw_T
set_option maxRecDepth 100000 in
theorem cw_Reader_takeName : Cond.code y_Reader_takeName b_Reader_takeName 3 none ∈ tw_T := tw_i4 119 rfl rfl
abbrev b_Reader_isNew : ByteArray := prog_10_method_20_code
def y_Reader_isNew : MethodName := ⟨R_Reader, "isNew", "(I)Z"⟩
abbrev w_Reader_isNew : List Cond := .code y_Reader_isNew b_Reader_isNew 3 (some .boolean) :: tw_T
set_option maxRecDepth 100000 in
theorem cw_Reader_isNew : Cond.code y_Reader_isNew b_Reader_isNew 3 (some .boolean) ∈ tw_T := tw_i4 123 rfl rfl
abbrev b_Heap_sameWord : ByteArray := prog_3_method_22_code
def y_Heap_sameWord : MethodName := ⟨R_Heap, "sameWord", "(II)Z"⟩
abbrev w_Heap_sameWord : List Cond := .code y_Heap_sameWord b_Heap_sameWord 7 (some .boolean) :: tw_T
set_option maxRecDepth 100000 in
theorem cw_Heap_sameWord : Cond.code y_Heap_sameWord b_Heap_sameWord 7 (some .boolean) ∈ tw_T := tw_i4 127 rfl rfl
abbrev b_Procedures_find : ByteArray := prog_9_method_2_code
def y_Procedures_find : MethodName := ⟨R_Procedures, "find", "(I)I"⟩
abbrev w_Procedures_find : List Cond := .code y_Procedures_find b_Procedures_find 3 (some .int) :: tw_T
set_option maxRecDepth 100000 in
theorem cw_Procedures_find : Cond.code y_Procedures_find b_Procedures_find 3 (some .int) ∈ tw_T := tw_i4 131 rfl rfl
abbrev b_Reader_takeInput : ByteArray := prog_10_method_21_code
def y_Reader_takeInput : MethodName := ⟨R_Reader, "takeInput", "(II)V"⟩
abbrev w_Reader_takeInput : List Cond := .code y_Reader_takeInput b_Reader_takeInput 5 none :: tw_T
set_option maxRecDepth 100000 in
theorem cw_Reader_takeInput : Cond.code y_Reader_takeInput b_Reader_takeInput 5 none ∈ tw_T := tw_i4 136 rfl rfl
abbrev b_Heap_behind : ByteArray := prog_3_method_20_code
def y_Heap_behind : MethodName := ⟨R_Heap, "behind", "(I)I"⟩
abbrev w_Heap_behind : List Cond := .code y_Heap_behind b_Heap_behind 3 (some .int) :: tw_T
set_option maxRecDepth 100000 in
theorem cw_Heap_behind : Cond.code y_Heap_behind b_Heap_behind 3 (some .int) ∈ tw_T := tw_i4 140 rfl rfl
abbrev b_Reader_closeBody : ByteArray := prog_10_method_24_code
def y_Reader_closeBody : MethodName := ⟨R_Reader, "closeBody", "(I)V"⟩
abbrev w_Reader_closeBody : List Cond := .code y_Reader_closeBody b_Reader_closeBody 3 none :: tw_T
set_option maxRecDepth 100000 in
theorem cw_Reader_closeBody : Cond.code y_Reader_closeBody b_Reader_closeBody 3 none ∈ tw_T := tw_i4 144 rfl rfl
abbrev b_Reader_readEnd : ByteArray := prog_10_method_25_code
def y_Reader_readEnd : MethodName := ⟨R_Reader, "readEnd", "()V"⟩
abbrev w_Reader_readEnd : List Cond := .code y_Reader_readEnd b_Reader_readEnd 1 none :: tw_T
set_option maxRecDepth 100000 in
theorem cw_Reader_readEnd : Cond.code y_Reader_readEnd b_Reader_readEnd 1 none ∈ tw_T := tw_i4 148 rfl rfl
abbrev b_Reader_tellAll : ByteArray := prog_10_method_26_code
def y_Reader_tellAll : MethodName := ⟨R_Reader, "tellAll", "()I"⟩
abbrev w_Reader_tellAll : List Cond := .code y_Reader_tellAll b_Reader_tellAll 2 (some .int) :: tw_T
set_option maxRecDepth 100000 in
theorem cw_Reader_tellAll : Cond.code y_Reader_tellAll b_Reader_tellAll 2 (some .int) ∈ tw_T := tw_i4 152 rfl rfl
abbrev b_Procedures_tell : ByteArray := prog_9_method_3_code
def y_Procedures_tell : MethodName := ⟨R_Procedures, "tell", "(III)Z"⟩
abbrev w_Procedures_tell : List Cond := .code y_Procedures_tell b_Procedures_tell 5 (some .boolean) :: tw_T
set_option maxRecDepth 100000 in
theorem cw_Procedures_tell : Cond.code y_Procedures_tell b_Procedures_tell 5 (some .boolean) ∈ tw_T := tw_i4 156 rfl rfl
abbrev b_World_line : ByteArray := prog_1_method_5_code
def y_World_line : MethodName := ⟨R_World, "line", "()I"⟩
abbrev w_World_line : List Cond := .code y_World_line b_World_line 1 (some .int) :: tw_T
set_option maxRecDepth 100000 in
theorem cw_World_line : Cond.code y_World_line b_World_line 1 (some .int) ∈ tw_T := tw_i4 161 rfl rfl
abbrev b_World_collect : ByteArray := prog_1_method_21_code
def y_World_collect : MethodName := ⟨R_World, "collect", "()V"⟩
abbrev w_World_collect : List Cond := .code y_World_collect b_World_collect 1 none :: tw_T
set_option maxRecDepth 100000 in
theorem cw_World_collect : Cond.code y_World_collect b_World_collect 1 none ∈ tw_T := tw_i4 165 rfl rfl
abbrev b_Heap_beginCollecting : ByteArray := prog_3_method_25_code
def y_Heap_beginCollecting : MethodName := ⟨R_Heap, "beginCollecting", "()V"⟩
abbrev w_Heap_beginCollecting : List Cond := .code y_Heap_beginCollecting b_Heap_beginCollecting 1 none :: tw_T
set_option maxRecDepth 100000 in
theorem cw_Heap_beginCollecting : Cond.code y_Heap_beginCollecting b_Heap_beginCollecting 1 none ∈ tw_T := tw_i4 169 rfl rfl
abbrev b_Heap_moved : ByteArray := prog_3_method_27_code
def y_Heap_moved : MethodName := ⟨R_Heap, "moved", "(I)I"⟩
abbrev w_Heap_moved : List Cond := .code y_Heap_moved b_Heap_moved 3 (some .int) :: tw_T
set_option maxRecDepth 100000 in
theorem cw_Heap_moved : Cond.code y_Heap_moved b_Heap_moved 3 (some .int) ∈ tw_T := tw_i4 173 rfl rfl
abbrev b_Heap_isNumber : ByteArray := prog_3_method_3_code
def y_Heap_isNumber : MethodName := ⟨R_Heap, "isNumber", "(I)Z"⟩
abbrev w_Heap_isNumber : List Cond := .code y_Heap_isNumber b_Heap_isNumber 1 (some .boolean) :: tw_T
set_option maxRecDepth 100000 in
theorem cw_Heap_isNumber : Cond.code y_Heap_isNumber b_Heap_isNumber 1 (some .boolean) ∈ tw_T := tw_i4 176 rfl rfl
abbrev b_Heap_isList : ByteArray := prog_3_method_4_code
def y_Heap_isList : MethodName := ⟨R_Heap, "isList", "(I)Z"⟩
abbrev w_Heap_isList : List Cond := .code y_Heap_isList b_Heap_isList 1 (some .boolean) :: tw_T
set_option maxRecDepth 100000 in
theorem cw_Heap_isList : Cond.code y_Heap_isList b_Heap_isList 1 (some .boolean) ∈ tw_T := tw_i4 179 rfl rfl
abbrev b_Heap_movedList : ByteArray := prog_3_method_28_code
def y_Heap_movedList : MethodName := ⟨R_Heap, "movedList", "(I)I"⟩
abbrev w_Heap_movedList : List Cond := .code y_Heap_movedList b_Heap_movedList 5 (some .int) :: tw_T
set_option maxRecDepth 100000 in
theorem cw_Heap_movedList : Cond.code y_Heap_movedList b_Heap_movedList 5 (some .int) ∈ tw_T := tw_i4 183 rfl rfl
abbrev b_Heap_reserveSpare : ByteArray := prog_3_method_26_code
def y_Heap_reserveSpare : MethodName := ⟨R_Heap, "reserveSpare", "(I)Z"⟩
abbrev w_Heap_reserveSpare : List Cond := .code y_Heap_reserveSpare b_Heap_reserveSpare 3 (some .boolean) :: tw_T
set_option maxRecDepth 100000 in
theorem cw_Heap_reserveSpare : Cond.code y_Heap_reserveSpare b_Heap_reserveSpare 3 (some .boolean) ∈ tw_T := tw_i4 187 rfl rfl
abbrev b_Heap_movedWord : ByteArray := prog_3_method_29_code
def y_Heap_movedWord : MethodName := ⟨R_Heap, "movedWord", "(I)I"⟩
abbrev w_Heap_movedWord : List Cond := .code y_Heap_movedWord b_Heap_movedWord 5 (some .int) :: tw_T
set_option maxRecDepth 100000 in
theorem cw_Heap_movedWord : Cond.code y_Heap_movedWord b_Heap_movedWord 5 (some .int) ∈ tw_T := tw_i4 191 rfl rfl
abbrev b_Names_moveAll : ByteArray := prog_7_method_11_code
def y_Names_moveAll : MethodName := ⟨R_Names, "moveAll", "()V"⟩
abbrev w_Names_moveAll : List Cond := .code y_Names_moveAll b_Names_moveAll 2 none :: tw_T
set_option maxRecDepth 100000 in
theorem cw_Names_moveAll : Cond.code y_Names_moveAll b_Names_moveAll 2 none ∈ tw_T := tw_i4 195 rfl rfl
abbrev b_Procedures_moveAll : ByteArray := prog_9_method_4_code
def y_Procedures_moveAll : MethodName := ⟨R_Procedures, "moveAll", "()V"⟩
abbrev w_Procedures_moveAll : List Cond := .code y_Procedures_moveAll b_Procedures_moveAll 2 none :: tw_T
set_option maxRecDepth 100000 in
theorem cw_Procedures_moveAll : Cond.code y_Procedures_moveAll b_Procedures_moveAll 2 none ∈ tw_T := tw_i4 200 rfl rfl
abbrev b_Heap_endCollecting : ByteArray := prog_3_method_30_code
def y_Heap_endCollecting : MethodName := ⟨R_Heap, "endCollecting", "()V"⟩
abbrev w_Heap_endCollecting : List Cond := .code y_Heap_endCollecting b_Heap_endCollecting 3 none :: tw_T
set_option maxRecDepth 100000 in
theorem cw_Heap_endCollecting : Cond.code y_Heap_endCollecting b_Heap_endCollecting 3 none ∈ tw_T := tw_i4 205 rfl rfl
abbrev b_Heap_moveMembers : ByteArray := prog_3_method_31_code
def y_Heap_moveMembers : MethodName := ⟨R_Heap, "moveMembers", "(I)I"⟩
abbrev w_Heap_moveMembers : List Cond := .code y_Heap_moveMembers b_Heap_moveMembers 5 (some .int) :: tw_T
set_option maxRecDepth 100000 in
theorem cw_Heap_moveMembers : Cond.code y_Heap_moveMembers b_Heap_moveMembers 5 (some .int) ∈ tw_T := tw_i4 210 rfl rfl
abbrev b_Heap_behindWord : ByteArray := prog_3_method_32_code
def y_Heap_behindWord : MethodName := ⟨R_Heap, "behindWord", "(I)I"⟩
abbrev w_Heap_behindWord : List Cond := .code y_Heap_behindWord b_Heap_behindWord 4 (some .int) :: tw_T
set_option maxRecDepth 100000 in
theorem cw_Heap_behindWord : Cond.code y_Heap_behindWord b_Heap_behindWord 4 (some .int) ∈ tw_T := tw_i4 215 rfl rfl
abbrev b_World_keep : ByteArray := prog_1_method_22_code
def y_World_keep : MethodName := ⟨R_World, "keep", "()V"⟩
abbrev w_World_keep : List Cond := .code y_World_keep b_World_keep 1 none :: tw_T
set_option maxRecDepth 100000 in
theorem cw_World_keep : Cond.code y_World_keep b_World_keep 1 none ∈ tw_T := tw_i4 219 rfl rfl
abbrev b_Names_keep : ByteArray := prog_7_method_12_code
def y_Names_keep : MethodName := ⟨R_Names, "keep", "()V"⟩
abbrev w_Names_keep : List Cond := .code y_Names_keep b_Names_keep 1 none :: tw_T
set_option maxRecDepth 100000 in
theorem cw_Names_keep : Cond.code y_Names_keep b_Names_keep 1 none ∈ tw_T := tw_i4 223 rfl rfl
abbrev b_Procedures_keep : ByteArray := prog_9_method_5_code
def y_Procedures_keep : MethodName := ⟨R_Procedures, "keep", "()V"⟩
abbrev w_Procedures_keep : List Cond := .code y_Procedures_keep b_Procedures_keep 1 none :: tw_T
set_option maxRecDepth 100000 in
theorem cw_Procedures_keep : Cond.code y_Procedures_keep b_Procedures_keep 1 none ∈ tw_T := tw_i4 228 rfl rfl
abbrev b_Turtles_keep : ByteArray := prog_11_method_27_code
def y_Turtles_keep : MethodName := ⟨R_Turtles, "keep", "()V"⟩
abbrev w_Turtles_keep : List Cond := .code y_Turtles_keep b_Turtles_keep 1 none :: tw_T
set_option maxRecDepth 100000 in
theorem cw_Turtles_keep : Cond.code y_Turtles_keep b_Turtles_keep 1 none ∈ tw_T := tw_i4 233 rfl rfl
abbrev b_Output_keep : ByteArray := prog_8_method_9_code
def y_Output_keep : MethodName := ⟨R_Output, "keep", "()V"⟩
abbrev w_Output_keep : List Cond := .code y_Output_keep b_Output_keep 1 none :: tw_T
set_option maxRecDepth 100000 in
theorem cw_Output_keep : Cond.code y_Output_keep b_Output_keep 1 none ∈ tw_T := tw_i4 238 rfl rfl
abbrev b_Machine_begin : ByteArray := prog_6_method_3_code
def y_Machine_begin : MethodName := ⟨R_Machine, "begin", "(I)V"⟩
abbrev w_Machine_begin : List Cond := .code y_Machine_begin b_Machine_begin 2 none :: tw_T
set_option maxRecDepth 100000 in
theorem cw_Machine_begin : Cond.code y_Machine_begin b_Machine_begin 2 none ∈ tw_T := tw_i5 3 rfl rfl
abbrev b_Line_begin : ByteArray := prog_5_method_2_code
def y_Line_begin : MethodName := ⟨R_Line, "begin", "()V"⟩
abbrev w_Line_begin : List Cond := .code y_Line_begin b_Line_begin 1 none :: tw_T
set_option maxRecDepth 100000 in
theorem cw_Line_begin : Cond.code y_Line_begin b_Line_begin 1 none ∈ tw_T := tw_i5 7 rfl rfl
abbrev b_Waiting_begin : ByteArray := prog_12_method_2_code
def y_Waiting_begin : MethodName := ⟨R_Waiting, "begin", "()V"⟩
abbrev w_Waiting_begin : List Cond := .code y_Waiting_begin b_Waiting_begin 1 none :: tw_T
set_option maxRecDepth 100000 in
theorem cw_Waiting_begin : Cond.code y_Waiting_begin b_Waiting_begin 1 none ∈ tw_T := tw_i5 11 rfl rfl
abbrev b_Names_dropLocals : ByteArray := prog_7_method_7_code
def y_Names_dropLocals : MethodName := ⟨R_Names, "dropLocals", "(I)V"⟩
abbrev w_Names_dropLocals : List Cond := .code y_Names_dropLocals b_Names_dropLocals 2 none :: tw_T
set_option maxRecDepth 100000 in
theorem cw_Names_dropLocals : Cond.code y_Names_dropLocals b_Names_dropLocals 2 none ∈ tw_T := tw_i5 15 rfl rfl
abbrev b_Line_open : ByteArray := prog_5_method_3_code
def y_Line_open : MethodName := ⟨R_Line, "open", "(IILTurtleWorld$Waiting;)Z"⟩
abbrev w_Line_open : List Cond := .code y_Line_open b_Line_open 4 (some .boolean) :: tw_T
set_option maxRecDepth 100000 in
theorem cw_Line_open : Cond.code y_Line_open b_Line_open 4 (some .boolean) ∈ tw_T := tw_i5 19 rfl rfl
abbrev b_Machine_advance : ByteArray := prog_6_method_6_code
def y_Machine_advance : MethodName := ⟨R_Machine, "advance", "()V"⟩
abbrev w_Machine_advance : List Cond := .code y_Machine_advance b_Machine_advance 2 none :: tw_T
set_option maxRecDepth 100000 in
theorem cw_Machine_advance : Cond.code y_Machine_advance b_Machine_advance 2 none ∈ tw_T := tw_i5 24 rfl rfl
abbrev b_Machine_meet : ByteArray := prog_6_method_10_code
def y_Machine_meet : MethodName := ⟨R_Machine, "meet", "()I"⟩
abbrev w_Machine_meet : List Cond := .code y_Machine_meet b_Machine_meet 3 (some .int) :: tw_T
set_option maxRecDepth 100000 in
theorem cw_Machine_meet : Cond.code y_Machine_meet b_Machine_meet 3 (some .int) ∈ tw_T := tw_i5 29 rfl rfl
abbrev b_Heap_member : ByteArray := prog_3_method_14_code
def y_Heap_member : MethodName := ⟨R_Heap, "member", "(II)I"⟩
abbrev w_Heap_member : List Cond := .code y_Heap_member b_Heap_member 4 (some .int) :: tw_T
set_option maxRecDepth 100000 in
theorem cw_Heap_member : Cond.code y_Heap_member b_Heap_member 4 (some .int) ∈ tw_T := tw_i5 34 rfl rfl
abbrev b_Heap_count : ByteArray := prog_3_method_13_code
def y_Heap_count : MethodName := ⟨R_Heap, "count", "(I)I"⟩
abbrev w_Heap_count : List Cond := .code y_Heap_count b_Heap_count 3 (some .int) :: tw_T
set_option maxRecDepth 100000 in
theorem cw_Heap_count : Cond.code y_Heap_count b_Heap_count 3 (some .int) ∈ tw_T := tw_i5 38 rfl rfl
abbrev b_Machine_finishGiving : ByteArray := prog_6_method_18_code
def y_Machine_finishGiving : MethodName := ⟨R_Machine, "finishGiving", "(I)I"⟩
abbrev w_Machine_finishGiving : List Cond := .code y_Machine_finishGiving b_Machine_finishGiving 2 (some .int) :: tw_T
set_option maxRecDepth 100000 in
theorem cw_Machine_finishGiving : Cond.code y_Machine_finishGiving b_Machine_finishGiving 2 (some .int) ∈ tw_T := tw_i5 43 rfl rfl
abbrev b_Machine_meetWord : ByteArray := prog_6_method_11_code
def y_Machine_meetWord : MethodName := ⟨R_Machine, "meetWord", "(I)I"⟩
abbrev w_Machine_meetWord : List Cond := .code y_Machine_meetWord b_Machine_meetWord 4 (some .int) :: tw_T
set_option maxRecDepth 100000 in
theorem cw_Machine_meetWord : Cond.code y_Machine_meetWord b_Machine_meetWord 4 (some .int) ∈ tw_T := tw_i5 49 rfl rfl
abbrev b_Heap_quoted : ByteArray := prog_3_method_21_code
def y_Heap_quoted : MethodName := ⟨R_Heap, "quoted", "(I)I"⟩
abbrev w_Heap_quoted : List Cond := .code y_Heap_quoted b_Heap_quoted 5 (some .int) :: tw_T
set_option maxRecDepth 100000 in
theorem cw_Heap_quoted : Cond.code y_Heap_quoted b_Heap_quoted 5 (some .int) ∈ tw_T := tw_i5 54 rfl rfl
abbrev b_Names_find : ByteArray := prog_7_method_4_code
def y_Names_find : MethodName := ⟨R_Names, "find", "(I)I"⟩
abbrev w_Names_find : List Cond := .code y_Names_find b_Names_find 4 (some .int) :: tw_T
set_option maxRecDepth 100000 in
theorem cw_Names_find : Cond.code y_Names_find b_Names_find 4 (some .int) ∈ tw_T := tw_i5 63 rfl rfl
abbrev b_Names_findLocal : ByteArray := prog_7_method_2_code
def y_Names_findLocal : MethodName := ⟨R_Names, "findLocal", "(II)I"⟩
abbrev w_Names_findLocal : List Cond := .code y_Names_findLocal b_Names_findLocal 4 (some .int) :: tw_T
set_option maxRecDepth 100000 in
theorem cw_Names_findLocal : Cond.code y_Names_findLocal b_Names_findLocal 4 (some .int) ∈ tw_T := tw_i5 67 rfl rfl
abbrev b_Names_findGlobal : ByteArray := prog_7_method_3_code
def y_Names_findGlobal : MethodName := ⟨R_Names, "findGlobal", "(I)I"⟩
abbrev w_Names_findGlobal : List Cond := .code y_Names_findGlobal b_Names_findGlobal 3 (some .int) :: tw_T
set_option maxRecDepth 100000 in
theorem cw_Names_findGlobal : Cond.code y_Names_findGlobal b_Names_findGlobal 3 (some .int) ∈ tw_T := tw_i5 74 rfl rfl
abbrev b_Machine_meetProcedure : ByteArray := prog_6_method_12_code
def y_Machine_meetProcedure : MethodName := ⟨R_Machine, "meetProcedure", "(I)I"⟩
abbrev w_Machine_meetProcedure : List Cond := .code y_Machine_meetProcedure b_Machine_meetProcedure 4 (some .int) :: tw_T
set_option maxRecDepth 100000 in
theorem cw_Machine_meetProcedure : Cond.code y_Machine_meetProcedure b_Machine_meetProcedure 4 (some .int) ∈ tw_T := tw_i5 78 rfl rfl
abbrev b_Waiting_meetCall : ByteArray := prog_12_method_4_code
def y_Waiting_meetCall : MethodName := ⟨R_Waiting, "meetCall", "(IIII)V"⟩
abbrev w_Waiting_meetCall : List Cond := .code y_Waiting_meetCall b_Waiting_meetCall 5 none :: tw_T
set_option maxRecDepth 100000 in
theorem cw_Waiting_meetCall : Cond.code y_Waiting_meetCall b_Waiting_meetCall 5 none ∈ tw_T := tw_i5 85 rfl rfl
abbrev b_Waiting_meet : ByteArray := prog_12_method_3_code
def y_Waiting_meet : MethodName := ⟨R_Waiting, "meet", "(IIII)V"⟩
abbrev w_Waiting_meet : List Cond := .code y_Waiting_meet b_Waiting_meet 5 none :: tw_T
set_option maxRecDepth 100000 in
theorem cw_Waiting_meet : Cond.code y_Waiting_meet b_Waiting_meet 5 none ∈ tw_T := tw_i5 89 rfl rfl
abbrev b_Waiting_settleLast : ByteArray := prog_12_method_5_code
def y_Waiting_settleLast : MethodName := ⟨R_Waiting, "settleLast", "()I"⟩
abbrev w_Waiting_settleLast : List Cond := .code y_Waiting_settleLast b_Waiting_settleLast 1 (some .int) :: tw_T
set_option maxRecDepth 100000 in
theorem cw_Waiting_settleLast : Cond.code y_Waiting_settleLast b_Waiting_settleLast 1 (some .int) ∈ tw_T := tw_i5 93 rfl rfl
abbrev b_Lexicon_arity : ByteArray := prog_4_method_10_code
def y_Lexicon_arity : MethodName := ⟨R_Lexicon, "arity", "(I)I"⟩
abbrev w_Lexicon_arity : List Cond := .code y_Lexicon_arity b_Lexicon_arity 2 (some .int) :: tw_T
set_option maxRecDepth 100000 in
theorem cw_Lexicon_arity : Cond.code y_Lexicon_arity b_Lexicon_arity 2 (some .int) ∈ tw_T := tw_i5 99 rfl rfl
abbrev b_Machine_settle : ByteArray := prog_6_method_13_code
def y_Machine_settle : MethodName := ⟨R_Machine, "settle", "()I"⟩
abbrev w_Machine_settle : List Cond := .code y_Machine_settle b_Machine_settle 5 (some .int) :: tw_T
set_option maxRecDepth 100000 in
theorem cw_Machine_settle : Cond.code y_Machine_settle b_Machine_settle 5 (some .int) ∈ tw_T := tw_i5 104 rfl rfl
abbrev b_Machine_signAhead : ByteArray := prog_6_method_14_code
def y_Machine_signAhead : MethodName := ⟨R_Machine, "signAhead", "(I)I"⟩
abbrev w_Machine_signAhead : List Cond := .code y_Machine_signAhead b_Machine_signAhead 4 (some .int) :: tw_T
set_option maxRecDepth 100000 in
theorem cw_Machine_signAhead : Cond.code y_Machine_signAhead b_Machine_signAhead 4 (some .int) ∈ tw_T := tw_i5 108 rfl rfl
abbrev b_Machine_meetSign : ByteArray := prog_6_method_15_code
def y_Machine_meetSign : MethodName := ⟨R_Machine, "meetSign", "(II)I"⟩
abbrev w_Machine_meetSign : List Cond := .code y_Machine_meetSign b_Machine_meetSign 3 (some .int) :: tw_T
set_option maxRecDepth 100000 in
theorem cw_Machine_meetSign : Cond.code y_Machine_meetSign b_Machine_meetSign 3 (some .int) ∈ tw_T := tw_i5 114 rfl rfl
abbrev b_Waiting_put : ByteArray := prog_12_method_6_code
def y_Waiting_put : MethodName := ⟨R_Waiting, "put", "(I)V"⟩
abbrev w_Waiting_put : List Cond := .code y_Waiting_put b_Waiting_put 2 none :: tw_T
set_option maxRecDepth 100000 in
theorem cw_Waiting_put : Cond.code y_Waiting_put b_Waiting_put 2 none ∈ tw_T := tw_i5 120 rfl rfl
abbrev b_Machine_settleWhole : ByteArray := prog_6_method_17_code
def y_Machine_settleWhole : MethodName := ⟨R_Machine, "settleWhole", "(I)I"⟩
abbrev w_Machine_settleWhole : List Cond := .code y_Machine_settleWhole b_Machine_settleWhole 3 (some .int) :: tw_T
set_option maxRecDepth 100000 in
theorem cw_Machine_settleWhole : Cond.code y_Machine_settleWhole b_Machine_settleWhole 3 (some .int) ∈ tw_T := tw_i5 124 rfl rfl
abbrev b_Machine_closeParen : ByteArray := prog_6_method_16_code
def y_Machine_closeParen : MethodName := ⟨R_Machine, "closeParen", "(II)I"⟩
abbrev w_Machine_closeParen : List Cond := .code y_Machine_closeParen b_Machine_closeParen 4 (some .int) :: tw_T
set_option maxRecDepth 100000 in
theorem cw_Machine_closeParen : Cond.code y_Machine_closeParen b_Machine_closeParen 4 (some .int) ∈ tw_T := tw_i5 129 rfl rfl
abbrev b_Waiting_supply : ByteArray := prog_12_method_7_code
def y_Waiting_supply : MethodName := ⟨R_Waiting, "supply", "(I)V"⟩
abbrev w_Waiting_supply : List Cond := .code y_Waiting_supply b_Waiting_supply 3 none :: tw_T
set_option maxRecDepth 100000 in
theorem cw_Waiting_supply : Cond.code y_Waiting_supply b_Waiting_supply 3 none ∈ tw_T := tw_i5 133 rfl rfl
abbrev b_Machine_finishList : ByteArray := prog_6_method_19_code
def y_Machine_finishList : MethodName := ⟨R_Machine, "finishList", "()I"⟩
abbrev w_Machine_finishList : List Cond := .code y_Machine_finishList b_Machine_finishList 2 (some .int) :: tw_T
set_option maxRecDepth 100000 in
theorem cw_Machine_finishList : Cond.code y_Machine_finishList b_Machine_finishList 2 (some .int) ∈ tw_T := tw_i5 138 rfl rfl
abbrev b_Machine_finishLine : ByteArray := prog_6_method_5_code
def y_Machine_finishLine : MethodName := ⟨R_Machine, "finishLine", "(II)V"⟩
abbrev w_Machine_finishLine : List Cond := .code y_Machine_finishLine b_Machine_finishLine 3 none :: tw_T
set_option maxRecDepth 100000 in
theorem cw_Machine_finishLine : Cond.code y_Machine_finishLine b_Machine_finishLine 3 none ∈ tw_T := tw_i5 142 rfl rfl
abbrev b_Machine_leave : ByteArray := prog_6_method_9_code
def y_Machine_leave : MethodName := ⟨R_Machine, "leave", "(I)V"⟩
abbrev w_Machine_leave : List Cond := .code y_Machine_leave b_Machine_leave 3 none :: tw_T
set_option maxRecDepth 100000 in
theorem cw_Machine_leave : Cond.code y_Machine_leave b_Machine_leave 3 none ∈ tw_T := tw_i5 146 rfl rfl
abbrev b_Machine_awaitTurn : ByteArray := prog_6_method_21_code
def y_Machine_awaitTurn : MethodName := ⟨R_Machine, "awaitTurn", "()I"⟩
abbrev w_Machine_awaitTurn : List Cond := .code y_Machine_awaitTurn b_Machine_awaitTurn 1 (some .int) :: tw_T
set_option maxRecDepth 100000 in
theorem cw_Machine_awaitTurn : Cond.code y_Machine_awaitTurn b_Machine_awaitTurn 1 (some .int) ∈ tw_T := tw_i5 150 rfl rfl
abbrev b_Machine_leaveGiving : ByteArray := prog_6_method_20_code
def y_Machine_leaveGiving : MethodName := ⟨R_Machine, "leaveGiving", "(II)I"⟩
abbrev w_Machine_leaveGiving : List Cond := .code y_Machine_leaveGiving b_Machine_leaveGiving 3 (some .int) :: tw_T
set_option maxRecDepth 100000 in
theorem cw_Machine_leaveGiving : Cond.code y_Machine_leaveGiving b_Machine_leaveGiving 3 (some .int) ∈ tw_T := tw_i5 154 rfl rfl
abbrev b_Machine_finishTest : ByteArray := prog_6_method_22_code
def y_Machine_finishTest : MethodName := ⟨R_Machine, "finishTest", "(II)I"⟩
abbrev w_Machine_finishTest : List Cond := .code y_Machine_finishTest b_Machine_finishTest 3 (some .int) :: tw_T
set_option maxRecDepth 100000 in
theorem cw_Machine_finishTest : Cond.code y_Machine_finishTest b_Machine_finishTest 3 (some .int) ∈ tw_T := tw_i5 158 rfl rfl
abbrev b_Machine_changeLists : ByteArray := prog_6_method_23_code
def y_Machine_changeLists : MethodName := ⟨R_Machine, "changeLists", "(II)I"⟩
abbrev w_Machine_changeLists : List Cond := .code y_Machine_changeLists b_Machine_changeLists 4 (some .int) :: tw_T
set_option maxRecDepth 100000 in
theorem cw_Machine_changeLists : Cond.code y_Machine_changeLists b_Machine_changeLists 4 (some .int) ∈ tw_T := tw_i5 164 rfl rfl
abbrev b_Machine_finishMapped : ByteArray := prog_6_method_24_code
def y_Machine_finishMapped : MethodName := ⟨R_Machine, "finishMapped", "(II)I"⟩
abbrev w_Machine_finishMapped : List Cond := .code y_Machine_finishMapped b_Machine_finishMapped 6 (some .int) :: tw_T
set_option maxRecDepth 100000 in
theorem cw_Machine_finishMapped : Cond.code y_Machine_finishMapped b_Machine_finishMapped 6 (some .int) ∈ tw_T := tw_i5 168 rfl rfl
abbrev b_Machine_take : ByteArray := prog_6_method_7_code
def y_Machine_take : MethodName := ⟨R_Machine, "take", "(I)V"⟩
abbrev w_Machine_take : List Cond := .code y_Machine_take b_Machine_take 2 none :: tw_T
set_option maxRecDepth 100000 in
theorem cw_Machine_take : Cond.code y_Machine_take b_Machine_take 2 none ∈ tw_T := tw_i5 175 rfl rfl
abbrev b_Machine_fail : ByteArray := prog_6_method_8_code
def y_Machine_fail : MethodName := ⟨R_Machine, "fail", "(I)V"⟩
abbrev w_Machine_fail : List Cond := .code y_Machine_fail b_Machine_fail 3 none :: tw_T
set_option maxRecDepth 100000 in
theorem cw_Machine_fail : Cond.code y_Machine_fail b_Machine_fail 3 none ∈ tw_T := tw_i5 179 rfl rfl
abbrev b_Line_newestCatch : ByteArray := prog_5_method_7_code
def y_Line_newestCatch : MethodName := ⟨R_Line, "newestCatch", "(I)I"⟩
abbrev w_Line_newestCatch : List Cond := .code y_Line_newestCatch b_Line_newestCatch 3 (some .int) :: tw_T
set_option maxRecDepth 100000 in
theorem cw_Line_newestCatch : Cond.code y_Line_newestCatch b_Line_newestCatch 3 (some .int) ∈ tw_T := tw_i5 183 rfl rfl
abbrev b_World_fault : ByteArray := prog_1_method_6_code
def y_World_fault : MethodName := ⟨R_World, "fault", "(I)I"⟩
abbrev w_World_fault : List Cond := .code y_World_fault b_World_fault 2 (some .int) :: tw_T
set_option maxRecDepth 100000 in
theorem cw_World_fault : Cond.code y_World_fault b_World_fault 2 (some .int) ∈ tw_T := tw_i5 189 rfl rfl
abbrev b_World_run : ByteArray := prog_1_method_7_code
def y_World_run : MethodName := ⟨R_World, "run", "(I)I"⟩
abbrev w_World_run : List Cond := .code y_World_run b_World_run 2 (some .int) :: tw_T
set_option maxRecDepth 100000 in
theorem cw_World_run : Cond.code y_World_run b_World_run 2 (some .int) ∈ tw_T := tw_i5 193 rfl rfl
abbrev b_Machine_goOn : ByteArray := prog_6_method_4_code
def y_Machine_goOn : MethodName := ⟨R_Machine, "goOn", "(I)I"⟩
abbrev w_Machine_goOn : List Cond := .code y_Machine_goOn b_Machine_goOn 5 (some .int) :: tw_T
set_option maxRecDepth 100000 in
theorem cw_Machine_goOn : Cond.code y_Machine_goOn b_Machine_goOn 5 (some .int) ∈ tw_T := tw_i5 197 rfl rfl
abbrev b_Machine_applyReady : ByteArray := prog_6_method_25_code
def y_Machine_applyReady : MethodName := ⟨R_Machine, "applyReady", "()I"⟩
abbrev w_Machine_applyReady : List Cond := .code y_Machine_applyReady b_Machine_applyReady 4 (some .int) :: tw_T
set_option maxRecDepth 100000 in
theorem cw_Machine_applyReady : Cond.code y_Machine_applyReady b_Machine_applyReady 4 (some .int) ∈ tw_T := tw_i5 202 rfl rfl
abbrev b_Machine_beginTurn : ByteArray := prog_6_method_26_code
def y_Machine_beginTurn : MethodName := ⟨R_Machine, "beginTurn", "()I"⟩
abbrev w_Machine_beginTurn : List Cond := .code y_Machine_beginTurn b_Machine_beginTurn 2 (some .int) :: tw_T
set_option maxRecDepth 100000 in
theorem cw_Machine_beginTurn : Cond.code y_Machine_beginTurn b_Machine_beginTurn 2 (some .int) ∈ tw_T := tw_i5 206 rfl rfl
abbrev b_Waiting_release : ByteArray := prog_12_method_8_code
def y_Waiting_release : MethodName := ⟨R_Waiting, "release", "(I)V"⟩
abbrev w_Waiting_release : List Cond := .code y_Waiting_release b_Waiting_release 2 none :: tw_T
set_option maxRecDepth 100000 in
theorem cw_Waiting_release : Cond.code y_Waiting_release b_Waiting_release 2 none ∈ tw_T := tw_i5 210 rfl rfl
abbrev b_Machine_openCall : ByteArray := prog_6_method_27_code
def y_Machine_openCall : MethodName := ⟨R_Machine, "openCall", "(I)I"⟩
abbrev w_Machine_openCall : List Cond := .code y_Machine_openCall b_Machine_openCall 5 (some .int) :: tw_T
set_option maxRecDepth 100000 in
theorem cw_Machine_openCall : Cond.code y_Machine_openCall b_Machine_openCall 5 (some .int) ∈ tw_T := tw_i5 215 rfl rfl
abbrev b_Line_note : ByteArray := prog_5_method_4_code
def y_Line_note : MethodName := ⟨R_Line, "note", "(II)V"⟩
abbrev w_Line_note : List Cond := .code y_Line_note b_Line_note 3 none :: tw_T
set_option maxRecDepth 100000 in
theorem cw_Line_note : Cond.code y_Line_note b_Line_note 3 none ∈ tw_T := tw_i5 220 rfl rfl
abbrev b_Waiting_input : ByteArray := prog_12_method_9_code
def y_Waiting_input : MethodName := ⟨R_Waiting, "input", "(I)I"⟩
abbrev w_Waiting_input : List Cond := .code y_Waiting_input b_Waiting_input 3 (some .int) :: tw_T
set_option maxRecDepth 100000 in
theorem cw_Waiting_input : Cond.code y_Waiting_input b_Waiting_input 3 (some .int) ∈ tw_T := tw_i5 224 rfl rfl
abbrev b_Names_addLocal : ByteArray := prog_7_method_6_code
def y_Names_addLocal : MethodName := ⟨R_Names, "addLocal", "(II)V"⟩
abbrev w_Names_addLocal : List Cond := .code y_Names_addLocal b_Names_addLocal 3 none :: tw_T
set_option maxRecDepth 100000 in
theorem cw_Names_addLocal : Cond.code y_Names_addLocal b_Names_addLocal 3 none ∈ tw_T := tw_i5 229 rfl rfl
abbrev b_Deeds_inputsFit : ByteArray := prog_2_method_2_code
def y_Deeds_inputsFit : MethodName := ⟨R_Deeds, "inputsFit", "(I)Z"⟩
abbrev w_Deeds_inputsFit : List Cond := .code y_Deeds_inputsFit b_Deeds_inputsFit 4 (some .boolean) :: tw_T
set_option maxRecDepth 100000 in
theorem cw_Deeds_inputsFit : Cond.code y_Deeds_inputsFit b_Deeds_inputsFit 4 (some .boolean) ∈ tw_T := tw_i5 233 rfl rfl
abbrev b_Lexicon_kind : ByteArray := prog_4_method_11_code
def y_Lexicon_kind : MethodName := ⟨R_Lexicon, "kind", "(II)I"⟩
abbrev w_Lexicon_kind : List Cond := .code y_Lexicon_kind b_Lexicon_kind 3 (some .int) :: tw_T
set_option maxRecDepth 100000 in
theorem cw_Lexicon_kind : Cond.code y_Lexicon_kind b_Lexicon_kind 3 (some .int) ∈ tw_T := tw_i5 238 rfl rfl
abbrev b_Deeds_fits : ByteArray := prog_2_method_3_code
def y_Deeds_fits : MethodName := ⟨R_Deeds, "fits", "(II)Z"⟩
abbrev w_Deeds_fits : List Cond := .code y_Deeds_fits b_Deeds_fits 3 (some .boolean) :: tw_T
set_option maxRecDepth 100000 in
theorem cw_Deeds_fits : Cond.code y_Deeds_fits b_Deeds_fits 3 (some .boolean) ∈ tw_T := tw_i6 3 rfl rfl
abbrev b_Deeds_turtleWord : ByteArray := prog_2_method_4_code
def y_Deeds_turtleWord : MethodName := ⟨R_Deeds, "turtleWord", "(I)I"⟩
abbrev w_Deeds_turtleWord : List Cond := .code y_Deeds_turtleWord b_Deeds_turtleWord 4 (some .int) :: tw_T
set_option maxRecDepth 100000 in
theorem cw_Deeds_turtleWord : Cond.code y_Deeds_turtleWord b_Deeds_turtleWord 4 (some .int) ∈ tw_T := tw_i6 11 rfl rfl
abbrev b_Turtles_forward : ByteArray := prog_11_method_8_code
def y_Turtles_forward : MethodName := ⟨R_Turtles, "forward", "(I)I"⟩
abbrev w_Turtles_forward : List Cond := .code y_Turtles_forward b_Turtles_forward 7 (some .int) :: tw_T
set_option maxRecDepth 100000 in
theorem cw_Turtles_forward : Cond.code y_Turtles_forward b_Turtles_forward 7 (some .int) ∈ tw_T := tw_i6 15 rfl rfl
abbrev b_Turtles_exists : ByteArray := prog_11_method_2_code
def y_Turtles_exists : MethodName := ⟨R_Turtles, "exists", "(I)Z"⟩
abbrev w_Turtles_exists : List Cond := .code y_Turtles_exists b_Turtles_exists 1 (some .boolean) :: tw_T
set_option maxRecDepth 100000 in
theorem cw_Turtles_exists : Cond.code y_Turtles_exists b_Turtles_exists 1 (some .boolean) ∈ tw_T := tw_i6 18 rfl rfl
abbrev b_Turtles_draw : ByteArray := prog_11_method_9_code
def y_Turtles_draw : MethodName := ⟨R_Turtles, "draw", "(II)V"⟩
abbrev w_Turtles_draw : List Cond := .code y_Turtles_draw b_Turtles_draw 15 none :: tw_T
set_option maxRecDepth 100000 in
theorem cw_Turtles_draw : Cond.code y_Turtles_draw b_Turtles_draw 15 none ∈ tw_T := tw_i6 31 rfl rfl
abbrev b_Turtles_floorHalf : ByteArray := prog_11_method_6_code
def y_Turtles_floorHalf : MethodName := ⟨R_Turtles, "floorHalf", "(JJ)J"⟩
abbrev w_Turtles_floorHalf : List Cond := .code y_Turtles_floorHalf b_Turtles_floorHalf 4 (some .long) :: tw_T
set_option maxRecDepth 100000 in
theorem cw_Turtles_floorHalf : Cond.code y_Turtles_floorHalf b_Turtles_floorHalf 4 (some .long) ∈ tw_T := tw_i6 34 rfl rfl
abbrev b_Turtles_floorRoot : ByteArray := prog_11_method_5_code
def y_Turtles_floorRoot : MethodName := ⟨R_Turtles, "floorRoot", "(J)J"⟩
abbrev w_Turtles_floorRoot : List Cond := .code y_Turtles_floorRoot b_Turtles_floorRoot 8 (some .long) :: tw_T
set_option maxRecDepth 100000 in
theorem cw_Turtles_floorRoot : Cond.code y_Turtles_floorRoot b_Turtles_floorRoot 8 (some .long) ∈ tw_T := tw_i6 37 rfl rfl
abbrev b_Turtles_sideOf : ByteArray := prog_11_method_7_code
def y_Turtles_sideOf : MethodName := ⟨R_Turtles, "sideOf", "(III)I"⟩
abbrev w_Turtles_sideOf : List Cond := .code y_Turtles_sideOf b_Turtles_sideOf 5 (some .int) :: tw_T
set_option maxRecDepth 100000 in
theorem cw_Turtles_sideOf : Cond.code y_Turtles_sideOf b_Turtles_sideOf 5 (some .int) ∈ tw_T := tw_i6 53 rfl rfl
abbrev b_Turtles_crossing : ByteArray := prog_11_method_10_code
def y_Turtles_crossing : MethodName := ⟨R_Turtles, "crossing", "(III)J"⟩
abbrev w_Turtles_crossing : List Cond := .code y_Turtles_crossing b_Turtles_crossing 9 (some .long) :: tw_T
set_option maxRecDepth 100000 in
theorem cw_Turtles_crossing : Cond.code y_Turtles_crossing b_Turtles_crossing 9 (some .long) ∈ tw_T := tw_i6 62 rfl rfl
abbrev b_Turtles_dotAt : ByteArray := prog_11_method_11_code
def y_Turtles_dotAt : MethodName := ⟨R_Turtles, "dotAt", "(II)I"⟩
abbrev w_Turtles_dotAt : List Cond := .code y_Turtles_dotAt b_Turtles_dotAt 2 (some .int) :: tw_T
set_option maxRecDepth 100000 in
theorem cw_Turtles_dotAt : Cond.code y_Turtles_dotAt b_Turtles_dotAt 2 (some .int) ∈ tw_T := tw_i6 67 rfl rfl
abbrev b_Turtles_turnBy : ByteArray := prog_11_method_17_code
def y_Turtles_turnBy : MethodName := ⟨R_Turtles, "turnBy", "(I)I"⟩
abbrev w_Turtles_turnBy : List Cond := .code y_Turtles_turnBy b_Turtles_turnBy 2 (some .int) :: tw_T
set_option maxRecDepth 100000 in
theorem cw_Turtles_turnBy : Cond.code y_Turtles_turnBy b_Turtles_turnBy 2 (some .int) ∈ tw_T := tw_i6 72 rfl rfl
abbrev b_Turtles_part : ByteArray := prog_11_method_3_code
def y_Turtles_part : MethodName := ⟨R_Turtles, "part", "(II)I"⟩
abbrev w_Turtles_part : List Cond := .code y_Turtles_part b_Turtles_part 3 (some .int) :: tw_T
set_option maxRecDepth 100000 in
theorem cw_Turtles_part : Cond.code y_Turtles_part b_Turtles_part 3 (some .int) ∈ tw_T := tw_i6 76 rfl rfl
abbrev b_Turtles_turnTo : ByteArray := prog_11_method_16_code
def y_Turtles_turnTo : MethodName := ⟨R_Turtles, "turnTo", "(II)I"⟩
abbrev w_Turtles_turnTo : List Cond := .code y_Turtles_turnTo b_Turtles_turnTo 3 (some .int) :: tw_T
set_option maxRecDepth 100000 in
theorem cw_Turtles_turnTo : Cond.code y_Turtles_turnTo b_Turtles_turnTo 3 (some .int) ∈ tw_T := tw_i6 80 rfl rfl
abbrev b_Turtles_setPart : ByteArray := prog_11_method_4_code
def y_Turtles_setPart : MethodName := ⟨R_Turtles, "setPart", "(II)V"⟩
abbrev w_Turtles_setPart : List Cond := .code y_Turtles_setPart b_Turtles_setPart 3 none :: tw_T
set_option maxRecDepth 100000 in
theorem cw_Turtles_setPart : Cond.code y_Turtles_setPart b_Turtles_setPart 3 none ∈ tw_T := tw_i6 84 rfl rfl
abbrev b_Turtles_lower : ByteArray := prog_11_method_18_code
def y_Turtles_lower : MethodName := ⟨R_Turtles, "lower", "(Z)I"⟩
abbrev w_Turtles_lower : List Cond := .code y_Turtles_lower b_Turtles_lower 2 (some .int) :: tw_T
set_option maxRecDepth 100000 in
theorem cw_Turtles_lower : Cond.code y_Turtles_lower b_Turtles_lower 2 (some .int) ∈ tw_T := tw_i6 89 rfl rfl
abbrev b_Turtles_takePen : ByteArray := prog_11_method_19_code
def y_Turtles_takePen : MethodName := ⟨R_Turtles, "takePen", "(I)I"⟩
abbrev w_Turtles_takePen : List Cond := .code y_Turtles_takePen b_Turtles_takePen 2 (some .int) :: tw_T
set_option maxRecDepth 100000 in
theorem cw_Turtles_takePen : Cond.code y_Turtles_takePen b_Turtles_takePen 2 (some .int) ∈ tw_T := tw_i6 93 rfl rfl
abbrev b_Turtles_goHome : ByteArray := prog_11_method_22_code
def y_Turtles_goHome : MethodName := ⟨R_Turtles, "goHome", "()I"⟩
abbrev w_Turtles_goHome : List Cond := .code y_Turtles_goHome b_Turtles_goHome 1 (some .int) :: tw_T
set_option maxRecDepth 100000 in
theorem cw_Turtles_goHome : Cond.code y_Turtles_goHome b_Turtles_goHome 1 (some .int) ∈ tw_T := tw_i6 97 rfl rfl
abbrev b_Turtles_putAt : ByteArray := prog_11_method_21_code
def y_Turtles_putAt : MethodName := ⟨R_Turtles, "putAt", "(II)I"⟩
abbrev w_Turtles_putAt : List Cond := .code y_Turtles_putAt b_Turtles_putAt 3 (some .int) :: tw_T
set_option maxRecDepth 100000 in
theorem cw_Turtles_putAt : Cond.code y_Turtles_putAt b_Turtles_putAt 3 (some .int) ∈ tw_T := tw_i6 101 rfl rfl
abbrev b_Turtles_wipe : ByteArray := prog_11_method_23_code
def y_Turtles_wipe : MethodName := ⟨R_Turtles, "wipe", "()I"⟩
abbrev w_Turtles_wipe : List Cond := .code y_Turtles_wipe b_Turtles_wipe 1 (some .int) :: tw_T
set_option maxRecDepth 100000 in
theorem cw_Turtles_wipe : Cond.code y_Turtles_wipe b_Turtles_wipe 1 (some .int) ∈ tw_T := tw_i6 106 rfl rfl
abbrev b_Turtles_mean : ByteArray := prog_11_method_24_code
def y_Turtles_mean : MethodName := ⟨R_Turtles, "mean", "(I)I"⟩
abbrev w_Turtles_mean : List Cond := .code y_Turtles_mean b_Turtles_mean 2 (some .int) :: tw_T
set_option maxRecDepth 100000 in
theorem cw_Turtles_mean : Cond.code y_Turtles_mean b_Turtles_mean 2 (some .int) ∈ tw_T := tw_i6 113 rfl rfl
abbrev b_Turtles_floorOf : ByteArray := prog_11_method_15_code
def y_Turtles_floorOf : MethodName := ⟨R_Turtles, "floorOf", "(I)I"⟩
abbrev w_Turtles_floorOf : List Cond := .code y_Turtles_floorOf b_Turtles_floorOf 2 (some .int) :: tw_T
set_option maxRecDepth 100000 in
theorem cw_Turtles_floorOf : Cond.code y_Turtles_floorOf b_Turtles_floorOf 2 (some .int) ∈ tw_T := tw_i6 119 rfl rfl
abbrev b_Turtles_colour : ByteArray := prog_11_method_20_code
def y_Turtles_colour : MethodName := ⟨R_Turtles, "colour", "()I"⟩
abbrev w_Turtles_colour : List Cond := .code y_Turtles_colour b_Turtles_colour 1 (some .int) :: tw_T
set_option maxRecDepth 100000 in
theorem cw_Turtles_colour : Cond.code y_Turtles_colour b_Turtles_colour 1 (some .int) ∈ tw_T := tw_i6 123 rfl rfl
abbrev b_Turtles_colourBelow : ByteArray := prog_11_method_14_code
def y_Turtles_colourBelow : MethodName := ⟨R_Turtles, "colourBelow", "()I"⟩
abbrev w_Turtles_colourBelow : List Cond := .code y_Turtles_colourBelow b_Turtles_colourBelow 5 (some .int) :: tw_T
set_option maxRecDepth 100000 in
theorem cw_Turtles_colourBelow : Cond.code y_Turtles_colourBelow b_Turtles_colourBelow 5 (some .int) ∈ tw_T := tw_i6 127 rfl rfl
abbrev b_Turtles_onScreen : ByteArray := prog_11_method_12_code
def y_Turtles_onScreen : MethodName := ⟨R_Turtles, "onScreen", "(JJ)Z"⟩
abbrev w_Turtles_onScreen : List Cond := .code y_Turtles_onScreen b_Turtles_onScreen 4 (some .boolean) :: tw_T
set_option maxRecDepth 100000 in
theorem cw_Turtles_onScreen : Cond.code y_Turtles_onScreen b_Turtles_onScreen 4 (some .boolean) ∈ tw_T := tw_i6 130 rfl rfl
abbrev b_Deeds_same : ByteArray := prog_2_method_5_code
def y_Deeds_same : MethodName := ⟨R_Deeds, "same", "(II)I"⟩
abbrev w_Deeds_same : List Cond := .code y_Deeds_same b_Deeds_same 3 (some .int) :: tw_T
set_option maxRecDepth 100000 in
theorem cw_Deeds_same : Cond.code y_Deeds_same b_Deeds_same 3 (some .int) ∈ tw_T := tw_i6 134 rfl rfl
abbrev b_Turtles_atOnePlace : ByteArray := prog_11_method_25_code
def y_Turtles_atOnePlace : MethodName := ⟨R_Turtles, "atOnePlace", "(II)Z"⟩
abbrev w_Turtles_atOnePlace : List Cond := .code y_Turtles_atOnePlace b_Turtles_atOnePlace 4 (some .boolean) :: tw_T
set_option maxRecDepth 100000 in
theorem cw_Turtles_atOnePlace : Cond.code y_Turtles_atOnePlace b_Turtles_atOnePlace 4 (some .boolean) ∈ tw_T := tw_i6 140 rfl rfl
abbrev b_Heap_truth : ByteArray := prog_3_method_7_code
def y_Heap_truth : MethodName := ⟨R_Heap, "truth", "(Z)I"⟩
abbrev w_Heap_truth : List Cond := .code y_Heap_truth b_Heap_truth 2 (some .int) :: tw_T
set_option maxRecDepth 100000 in
theorem cw_Heap_truth : Cond.code y_Heap_truth b_Heap_truth 2 (some .int) ∈ tw_T := tw_i6 144 rfl rfl
abbrev b_Deeds_numberWord : ByteArray := prog_2_method_6_code
def y_Deeds_numberWord : MethodName := ⟨R_Deeds, "numberWord", "(I)I"⟩
abbrev w_Deeds_numberWord : List Cond := .code y_Deeds_numberWord b_Deeds_numberWord 6 (some .int) :: tw_T
set_option maxRecDepth 100000 in
theorem cw_Deeds_numberWord : Cond.code y_Deeds_numberWord b_Deeds_numberWord 6 (some .int) ∈ tw_T := tw_i6 149 rfl rfl
abbrev b_Deeds_inBounds : ByteArray := prog_2_method_7_code
def y_Deeds_inBounds : MethodName := ⟨R_Deeds, "inBounds", "(J)I"⟩
abbrev w_Deeds_inBounds : List Cond := .code y_Deeds_inBounds b_Deeds_inBounds 2 (some .int) :: tw_T
set_option maxRecDepth 100000 in
theorem cw_Deeds_inBounds : Cond.code y_Deeds_inBounds b_Deeds_inBounds 2 (some .int) ∈ tw_T := tw_i6 152 rfl rfl
abbrev b_Deeds_random : ByteArray := prog_2_method_9_code
def y_Deeds_random : MethodName := ⟨R_Deeds, "random", "(I)I"⟩
abbrev w_Deeds_random : List Cond := .code y_Deeds_random b_Deeds_random 3 (some .int) :: tw_T
set_option maxRecDepth 100000 in
theorem cw_Deeds_random : Cond.code y_Deeds_random b_Deeds_random 3 (some .int) ∈ tw_T := tw_i6 160 rfl rfl
abbrev b_Deeds_isTrue : ByteArray := prog_2_method_8_code
def y_Deeds_isTrue : MethodName := ⟨R_Deeds, "isTrue", "(I)Z"⟩
abbrev w_Deeds_isTrue : List Cond := .code y_Deeds_isTrue b_Deeds_isTrue 2 (some .boolean) :: tw_T
set_option maxRecDepth 100000 in
theorem cw_Deeds_isTrue : Cond.code y_Deeds_isTrue b_Deeds_isTrue 2 (some .boolean) ∈ tw_T := tw_i6 165 rfl rfl
abbrev b_Deeds_valueWord : ByteArray := prog_2_method_10_code
def y_Deeds_valueWord : MethodName := ⟨R_Deeds, "valueWord", "(I)I"⟩
abbrev w_Deeds_valueWord : List Cond := .code y_Deeds_valueWord b_Deeds_valueWord 4 (some .int) :: tw_T
set_option maxRecDepth 100000 in
theorem cw_Deeds_valueWord : Cond.code y_Deeds_valueWord b_Deeds_valueWord 4 (some .int) ∈ tw_T := tw_i6 169 rfl rfl
abbrev b_Heap_equal : ByteArray := prog_3_method_24_code
def y_Heap_equal : MethodName := ⟨R_Heap, "equal", "(II)Z"⟩
abbrev w_Heap_equal : List Cond := .code y_Heap_equal b_Heap_equal 8 (some .boolean) :: tw_T
set_option maxRecDepth 100000 in
theorem cw_Heap_equal : Cond.code y_Heap_equal b_Heap_equal 8 (some .boolean) ∈ tw_T := tw_i6 173 rfl rfl
abbrev b_Heap_alike : ByteArray := prog_3_method_23_code
def y_Heap_alike : MethodName := ⟨R_Heap, "alike", "(II)Z"⟩
abbrev w_Heap_alike : List Cond := .code y_Heap_alike b_Heap_alike 3 (some .boolean) :: tw_T
set_option maxRecDepth 100000 in
theorem cw_Heap_alike : Cond.code y_Heap_alike b_Heap_alike 3 (some .boolean) ∈ tw_T := tw_i6 177 rfl rfl
abbrev b_Deeds_item : ByteArray := prog_2_method_11_code
def y_Deeds_item : MethodName := ⟨R_Deeds, "item", "(II)I"⟩
abbrev w_Deeds_item : List Cond := .code y_Deeds_item b_Deeds_item 3 (some .int) :: tw_T
set_option maxRecDepth 100000 in
theorem cw_Deeds_item : Cond.code y_Deeds_item b_Deeds_item 3 (some .int) ∈ tw_T := tw_i6 185 rfl rfl
abbrev b_Deeds_without : ByteArray := prog_2_method_14_code
def y_Deeds_without : MethodName := ⟨R_Deeds, "without", "(III)I"⟩
abbrev w_Deeds_without : List Cond := .code y_Deeds_without b_Deeds_without 7 (some .int) :: tw_T
set_option maxRecDepth 100000 in
theorem cw_Deeds_without : Cond.code y_Deeds_without b_Deeds_without 7 (some .int) ∈ tw_T := tw_i6 190 rfl rfl
abbrev b_Deeds_madeList : ByteArray := prog_2_method_13_code
def y_Deeds_madeList : MethodName := ⟨R_Deeds, "madeList", "(II)I"⟩
abbrev w_Deeds_madeList : List Cond := .code y_Deeds_madeList b_Deeds_madeList 4 (some .int) :: tw_T
set_option maxRecDepth 100000 in
theorem cw_Deeds_madeList : Cond.code y_Deeds_madeList b_Deeds_madeList 4 (some .int) ∈ tw_T := tw_i6 195 rfl rfl
abbrev b_Heap_putMember : ByteArray := prog_3_method_15_code
def y_Heap_putMember : MethodName := ⟨R_Heap, "putMember", "(III)V"⟩
abbrev w_Heap_putMember : List Cond := .code y_Heap_putMember b_Heap_putMember 5 none :: tw_T
set_option maxRecDepth 100000 in
theorem cw_Heap_putMember : Cond.code y_Heap_putMember b_Heap_putMember 5 none ∈ tw_T := tw_i6 202 rfl rfl
abbrev b_Deeds_join : ByteArray := prog_2_method_16_code
def y_Deeds_join : MethodName := ⟨R_Deeds, "join", "(IZIZ)I"⟩
abbrev w_Deeds_join : List Cond := .code y_Deeds_join b_Deeds_join 10 (some .int) :: tw_T
set_option maxRecDepth 100000 in
theorem cw_Deeds_join : Cond.code y_Deeds_join b_Deeds_join 10 (some .int) ∈ tw_T := tw_i6 206 rfl rfl
abbrev b_Deeds_isMember : ByteArray := prog_2_method_12_code
def y_Deeds_isMember : MethodName := ⟨R_Deeds, "isMember", "(II)Z"⟩
abbrev w_Deeds_isMember : List Cond := .code y_Deeds_isMember b_Deeds_isMember 5 (some .boolean) :: tw_T
set_option maxRecDepth 100000 in
theorem cw_Deeds_isMember : Cond.code y_Deeds_isMember b_Deeds_isMember 5 (some .boolean) ∈ tw_T := tw_i6 210 rfl rfl
abbrev b_Deeds_reverse : ByteArray := prog_2_method_15_code
def y_Deeds_reverse : MethodName := ⟨R_Deeds, "reverse", "(I)I"⟩
abbrev w_Deeds_reverse : List Cond := .code y_Deeds_reverse b_Deeds_reverse 5 (some .int) :: tw_T
set_option maxRecDepth 100000 in
theorem cw_Deeds_reverse : Cond.code y_Deeds_reverse b_Deeds_reverse 5 (some .int) ∈ tw_T := tw_i6 214 rfl rfl
abbrev b_Deeds_joinLetters : ByteArray := prog_2_method_17_code
def y_Deeds_joinLetters : MethodName := ⟨R_Deeds, "joinLetters", "(II)I"⟩
abbrev w_Deeds_joinLetters : List Cond := .code y_Deeds_joinLetters b_Deeds_joinLetters 6 (some .int) :: tw_T
set_option maxRecDepth 100000 in
theorem cw_Deeds_joinLetters : Cond.code y_Deeds_joinLetters b_Deeds_joinLetters 6 (some .int) ∈ tw_T := tw_i6 218 rfl rfl
abbrev b_Output_begin : ByteArray := prog_8_method_2_code
def y_Output_begin : MethodName := ⟨R_Output, "begin", "()V"⟩
abbrev w_Output_begin : List Cond := .code y_Output_begin b_Output_begin 1 none :: tw_T
set_option maxRecDepth 100000 in
theorem cw_Output_begin : Cond.code y_Output_begin b_Output_begin 1 none ∈ tw_T := tw_i6 222 rfl rfl
abbrev b_Output_addShown : ByteArray := prog_8_method_5_code
def y_Output_addShown : MethodName := ⟨R_Output, "addShown", "(IZ)V"⟩
abbrev w_Output_addShown : List Cond := .code y_Output_addShown b_Output_addShown 7 none :: tw_T
set_option maxRecDepth 100000 in
theorem cw_Output_addShown : Cond.code y_Output_addShown b_Output_addShown 7 none ∈ tw_T := tw_i6 226 rfl rfl
abbrev b_Output_addPlain : ByteArray := prog_8_method_6_code
def y_Output_addPlain : MethodName := ⟨R_Output, "addPlain", "(I)V"⟩
abbrev w_Output_addPlain : List Cond := .code y_Output_addPlain b_Output_addPlain 5 none :: tw_T
set_option maxRecDepth 100000 in
theorem cw_Output_addPlain : Cond.code y_Output_addPlain b_Output_addPlain 5 none ∈ tw_T := tw_i6 231 rfl rfl
abbrev b_Heap_copyLetters : ByteArray := prog_3_method_18_code
def y_Heap_copyLetters : MethodName := ⟨R_Heap, "copyLetters", "(I[II)I"⟩
abbrev w_Heap_copyLetters : List Cond := .code y_Heap_copyLetters b_Heap_copyLetters 7 (some .int) :: tw_T
set_option maxRecDepth 100000 in
theorem cw_Heap_copyLetters : Cond.code y_Heap_copyLetters b_Heap_copyLetters 7 (some .int) ∈ tw_T := tw_i6 236 rfl rfl
abbrev b_Output_add : ByteArray := prog_8_method_3_code
def y_Output_add : MethodName := ⟨R_Output, "add", "(I)V"⟩
abbrev w_Output_add : List Cond := .code y_Output_add b_Output_add 2 none :: tw_T
set_option maxRecDepth 100000 in
theorem cw_Output_add : Cond.code y_Output_add b_Output_add 2 none ∈ tw_T := tw_i7 0 rfl rfl
abbrev b_Deeds_otherWord : ByteArray := prog_2_method_18_code
def y_Deeds_otherWord : MethodName := ⟨R_Deeds, "otherWord", "(I)I"⟩
abbrev w_Deeds_otherWord : List Cond := .code y_Deeds_otherWord b_Deeds_otherWord 4 (some .int) :: tw_T
set_option maxRecDepth 100000 in
theorem cw_Deeds_otherWord : Cond.code y_Deeds_otherWord b_Deeds_otherWord 4 (some .int) ∈ tw_T := tw_i7 9 rfl rfl
abbrev b_Names_make : ByteArray := prog_7_method_5_code
def y_Names_make : MethodName := ⟨R_Names, "make", "(II)I"⟩
abbrev w_Names_make : List Cond := .code y_Names_make b_Names_make 5 (some .int) :: tw_T
set_option maxRecDepth 100000 in
theorem cw_Names_make : Cond.code y_Names_make b_Names_make 5 (some .int) ∈ tw_T := tw_i7 13 rfl rfl
abbrev b_Deeds_local : ByteArray := prog_2_method_19_code
def y_Deeds_local : MethodName := ⟨R_Deeds, "local", "(I)I"⟩
abbrev w_Deeds_local : List Cond := .code y_Deeds_local b_Deeds_local 4 (some .int) :: tw_T
set_option maxRecDepth 100000 in
theorem cw_Deeds_local : Cond.code y_Deeds_local b_Deeds_local 4 (some .int) ∈ tw_T := tw_i7 19 rfl rfl
abbrev b_Line_callAt : ByteArray := prog_5_method_5_code
def y_Line_callAt : MethodName := ⟨R_Line, "callAt", "(I)I"⟩
abbrev w_Line_callAt : List Cond := .code y_Line_callAt b_Line_callAt 4 (some .int) :: tw_T
set_option maxRecDepth 100000 in
theorem cw_Line_callAt : Cond.code y_Line_callAt b_Line_callAt 4 (some .int) ∈ tw_T := tw_i7 23 rfl rfl
abbrev b_Deeds_tell : ByteArray := prog_2_method_20_code
def y_Deeds_tell : MethodName := ⟨R_Deeds, "tell", "(II)I"⟩
abbrev w_Deeds_tell : List Cond := .code y_Deeds_tell b_Deeds_tell 5 (some .int) :: tw_T
set_option maxRecDepth 100000 in
theorem cw_Deeds_tell : Cond.code y_Deeds_tell b_Deeds_tell 5 (some .int) ∈ tw_T := tw_i7 32 rfl rfl
abbrev b_Deeds_canBeInputs : ByteArray := prog_2_method_21_code
def y_Deeds_canBeInputs : MethodName := ⟨R_Deeds, "canBeInputs", "(I)Z"⟩
abbrev w_Deeds_canBeInputs : List Cond := .code y_Deeds_canBeInputs b_Deeds_canBeInputs 6 (some .boolean) :: tw_T
set_option maxRecDepth 100000 in
theorem cw_Deeds_canBeInputs : Cond.code y_Deeds_canBeInputs b_Deeds_canBeInputs 6 (some .boolean) ∈ tw_T := tw_i7 37 rfl rfl
abbrev b_Deeds_arity : ByteArray := prog_2_method_22_code
def y_Deeds_arity : MethodName := ⟨R_Deeds, "arity", "(I)I"⟩
abbrev w_Deeds_arity : List Cond := .code y_Deeds_arity b_Deeds_arity 3 (some .int) :: tw_T
set_option maxRecDepth 100000 in
theorem cw_Deeds_arity : Cond.code y_Deeds_arity b_Deeds_arity 3 (some .int) ∈ tw_T := tw_i7 42 rfl rfl
abbrev b_Deeds_text : ByteArray := prog_2_method_23_code
def y_Deeds_text : MethodName := ⟨R_Deeds, "text", "(I)I"⟩
abbrev w_Deeds_text : List Cond := .code y_Deeds_text b_Deeds_text 3 (some .int) :: tw_T
set_option maxRecDepth 100000 in
theorem cw_Deeds_text : Cond.code y_Deeds_text b_Deeds_text 3 (some .int) ∈ tw_T := tw_i7 47 rfl rfl
abbrev b_Deeds_write : ByteArray := prog_2_method_24_code
def y_Deeds_write : MethodName := ⟨R_Deeds, "write", "(IZZ)I"⟩
abbrev w_Deeds_write : List Cond := .code y_Deeds_write b_Deeds_write 4 (some .int) :: tw_T
set_option maxRecDepth 100000 in
theorem cw_Deeds_write : Cond.code y_Deeds_write b_Deeds_write 4 (some .int) ∈ tw_T := tw_i7 51 rfl rfl
abbrev b_Output_send : ByteArray := prog_8_method_7_code
def y_Output_send : MethodName := ⟨R_Output, "send", "()V"⟩
abbrev w_Output_send : List Cond := .code y_Output_send b_Output_send 2 none :: tw_T
set_option maxRecDepth 100000 in
theorem cw_Output_send : Cond.code y_Output_send b_Output_send 2 none ∈ tw_T := tw_i7 56 rfl rfl
abbrev b_Machine_runningWord : ByteArray := prog_6_method_28_code
def y_Machine_runningWord : MethodName := ⟨R_Machine, "runningWord", "(I)I"⟩
abbrev w_Machine_runningWord : List Cond := .code y_Machine_runningWord b_Machine_runningWord 4 (some .int) :: tw_T
set_option maxRecDepth 100000 in
theorem cw_Machine_runningWord : Cond.code y_Machine_runningWord b_Machine_runningWord 4 (some .int) ∈ tw_T := tw_i7 61 rfl rfl
abbrev b_Machine_open : ByteArray := prog_6_method_29_code
def y_Machine_open : MethodName := ⟨R_Machine, "open", "(IIII)I"⟩
abbrev w_Machine_open : List Cond := .code y_Machine_open b_Machine_open 5 (some .int) :: tw_T
set_option maxRecDepth 100000 in
theorem cw_Machine_open : Cond.code y_Machine_open b_Machine_open 5 (some .int) ∈ tw_T := tw_i7 65 rfl rfl
abbrev b_Machine_repeat : ByteArray := prog_6_method_30_code
def y_Machine_repeat : MethodName := ⟨R_Machine, "repeat", "(II)I"⟩
abbrev w_Machine_repeat : List Cond := .code y_Machine_repeat b_Machine_repeat 4 (some .int) :: tw_T
set_option maxRecDepth 100000 in
theorem cw_Machine_repeat : Cond.code y_Machine_repeat b_Machine_repeat 4 (some .int) ∈ tw_T := tw_i7 70 rfl rfl
abbrev b_Machine_repcount : ByteArray := prog_6_method_31_code
def y_Machine_repcount : MethodName := ⟨R_Machine, "repcount", "()I"⟩
abbrev w_Machine_repcount : List Cond := .code y_Machine_repcount b_Machine_repcount 2 (some .int) :: tw_T
set_option maxRecDepth 100000 in
theorem cw_Machine_repcount : Cond.code y_Machine_repcount b_Machine_repcount 2 (some .int) ∈ tw_T := tw_i7 74 rfl rfl
abbrev b_Line_newest : ByteArray := prog_5_method_6_code
def y_Line_newest : MethodName := ⟨R_Line, "newest", "(II)I"⟩
abbrev w_Line_newest : List Cond := .code y_Line_newest b_Line_newest 4 (some .int) :: tw_T
set_option maxRecDepth 100000 in
theorem cw_Line_newest : Cond.code y_Line_newest b_Line_newest 4 (some .int) ∈ tw_T := tw_i7 78 rfl rfl
abbrev b_Machine_current : ByteArray := prog_6_method_32_code
def y_Machine_current : MethodName := ⟨R_Machine, "current", "()I"⟩
abbrev w_Machine_current : List Cond := .code y_Machine_current b_Machine_current 2 (some .int) :: tw_T
set_option maxRecDepth 100000 in
theorem cw_Machine_current : Cond.code y_Machine_current b_Machine_current 2 (some .int) ∈ tw_T := tw_i7 83 rfl rfl
abbrev b_Machine_map : ByteArray := prog_6_method_33_code
def y_Machine_map : MethodName := ⟨R_Machine, "map", "(II)I"⟩
abbrev w_Machine_map : List Cond := .code y_Machine_map b_Machine_map 5 (some .int) :: tw_T
set_option maxRecDepth 100000 in
theorem cw_Machine_map : Cond.code y_Machine_map b_Machine_map 5 (some .int) ∈ tw_T := tw_i7 87 rfl rfl
abbrev b_Machine_ask : ByteArray := prog_6_method_34_code
def y_Machine_ask : MethodName := ⟨R_Machine, "ask", "(II)I"⟩
abbrev w_Machine_ask : List Cond := .code y_Machine_ask b_Machine_ask 4 (some .int) :: tw_T
set_option maxRecDepth 100000 in
theorem cw_Machine_ask : Cond.code y_Machine_ask b_Machine_ask 4 (some .int) ∈ tw_T := tw_i7 92 rfl rfl
abbrev b_Machine_stopCall : ByteArray := prog_6_method_35_code
def y_Machine_stopCall : MethodName := ⟨R_Machine, "stopCall", "()I"⟩
abbrev w_Machine_stopCall : List Cond := .code y_Machine_stopCall b_Machine_stopCall 2 (some .int) :: tw_T
set_option maxRecDepth 100000 in
theorem cw_Machine_stopCall : Cond.code y_Machine_stopCall b_Machine_stopCall 2 (some .int) ∈ tw_T := tw_i7 98 rfl rfl
abbrev b_Machine_leaveCall : ByteArray := prog_6_method_36_code
def y_Machine_leaveCall : MethodName := ⟨R_Machine, "leaveCall", "(I)I"⟩
abbrev w_Machine_leaveCall : List Cond := .code y_Machine_leaveCall b_Machine_leaveCall 3 (some .int) :: tw_T
set_option maxRecDepth 100000 in
theorem cw_Machine_leaveCall : Cond.code y_Machine_leaveCall b_Machine_leaveCall 3 (some .int) ∈ tw_T := tw_i7 103 rfl rfl
abbrev b_Machine_throwTo : ByteArray := prog_6_method_37_code
def y_Machine_throwTo : MethodName := ⟨R_Machine, "throwTo", "(I)I"⟩
abbrev w_Machine_throwTo : List Cond := .code y_Machine_throwTo b_Machine_throwTo 3 (some .int) :: tw_T
set_option maxRecDepth 100000 in
theorem cw_Machine_throwTo : Cond.code y_Machine_throwTo b_Machine_throwTo 3 (some .int) ∈ tw_T := tw_i7 108 rfl rfl
abbrev b_Machine_tellCaught : ByteArray := prog_6_method_38_code
def y_Machine_tellCaught : MethodName := ⟨R_Machine, "tellCaught", "()I"⟩
abbrev w_Machine_tellCaught : List Cond := .code y_Machine_tellCaught b_Machine_tellCaught 2 (some .int) :: tw_T
set_option maxRecDepth 100000 in
theorem cw_Machine_tellCaught : Cond.code y_Machine_tellCaught b_Machine_tellCaught 2 (some .int) ∈ tw_T := tw_i7 113 rfl rfl
abbrev b_World_go : ByteArray := prog_1_method_8_code
def y_World_go : MethodName := ⟨R_World, "go", "(I)Z"⟩
abbrev w_World_go : List Cond := .code y_World_go b_World_go 2 (some .boolean) :: tw_T
set_option maxRecDepth 100000 in
theorem cw_World_go : Cond.code y_World_go b_World_go 2 (some .boolean) ∈ tw_T := tw_i7 117 rfl rfl
abbrev b_World_takeBack : ByteArray := prog_1_method_23_code
def y_World_takeBack : MethodName := ⟨R_World, "takeBack", "()V"⟩
abbrev w_World_takeBack : List Cond := .code y_World_takeBack b_World_takeBack 1 none :: tw_T
set_option maxRecDepth 100000 in
theorem cw_World_takeBack : Cond.code y_World_takeBack b_World_takeBack 1 none ∈ tw_T := tw_i7 121 rfl rfl
abbrev b_Names_takeBack : ByteArray := prog_7_method_13_code
def y_Names_takeBack : MethodName := ⟨R_Names, "takeBack", "()V"⟩
abbrev w_Names_takeBack : List Cond := .code y_Names_takeBack b_Names_takeBack 1 none :: tw_T
set_option maxRecDepth 100000 in
theorem cw_Names_takeBack : Cond.code y_Names_takeBack b_Names_takeBack 1 none ∈ tw_T := tw_i7 125 rfl rfl
abbrev b_Procedures_takeBack : ByteArray := prog_9_method_6_code
def y_Procedures_takeBack : MethodName := ⟨R_Procedures, "takeBack", "()V"⟩
abbrev w_Procedures_takeBack : List Cond := .code y_Procedures_takeBack b_Procedures_takeBack 1 none :: tw_T
set_option maxRecDepth 100000 in
theorem cw_Procedures_takeBack : Cond.code y_Procedures_takeBack b_Procedures_takeBack 1 none ∈ tw_T := tw_i7 129 rfl rfl
abbrev b_Turtles_takeBack : ByteArray := prog_11_method_28_code
def y_Turtles_takeBack : MethodName := ⟨R_Turtles, "takeBack", "()V"⟩
abbrev w_Turtles_takeBack : List Cond := .code y_Turtles_takeBack b_Turtles_takeBack 1 none :: tw_T
set_option maxRecDepth 100000 in
theorem cw_Turtles_takeBack : Cond.code y_Turtles_takeBack b_Turtles_takeBack 1 none ∈ tw_T := tw_i7 133 rfl rfl
abbrev b_Output_takeBack : ByteArray := prog_8_method_10_code
def y_Output_takeBack : MethodName := ⟨R_Output, "takeBack", "()V"⟩
abbrev w_Output_takeBack : List Cond := .code y_Output_takeBack b_Output_takeBack 1 none :: tw_T
set_option maxRecDepth 100000 in
theorem cw_Output_takeBack : Cond.code y_Output_takeBack b_Output_takeBack 1 none ∈ tw_T := tw_i7 137 rfl rfl
abbrev b_World_stop : ByteArray := prog_1_method_9_code
def y_World_stop : MethodName := ⟨R_World, "stop", "()Z"⟩
abbrev w_World_stop : List Cond := .code y_World_stop b_World_stop 1 (some .boolean) :: tw_T
set_option maxRecDepth 100000 in
theorem cw_World_stop : Cond.code y_World_stop b_World_stop 1 (some .boolean) ∈ tw_T := tw_i7 141 rfl rfl
abbrev b_World_look : ByteArray := prog_1_method_10_code
def y_World_look : MethodName := ⟨R_World, "look", "(I)I"⟩
abbrev w_World_look : List Cond := .code y_World_look b_World_look 2 (some .int) :: tw_T
set_option maxRecDepth 100000 in
theorem cw_World_look : Cond.code y_World_look b_World_look 2 (some .int) ∈ tw_T := tw_i7 146 rfl rfl
abbrev b_Machine_waitingCount : ByteArray := prog_6_method_2_code
def y_Machine_waitingCount : MethodName := ⟨R_Machine, "waitingCount", "()I"⟩
abbrev w_Machine_waitingCount : List Cond := .code y_Machine_waitingCount b_Machine_waitingCount 1 (some .int) :: tw_T
set_option maxRecDepth 100000 in
theorem cw_Machine_waitingCount : Cond.code y_Machine_waitingCount b_Machine_waitingCount 1 (some .int) ∈ tw_T := tw_i7 150 rfl rfl
abbrev b_World_turtle : ByteArray := prog_1_method_13_code
def y_World_turtle : MethodName := ⟨R_World, "turtle", "(II)I"⟩
abbrev w_World_turtle : List Cond := .code y_World_turtle b_World_turtle 4 (some .int) :: tw_T
set_option maxRecDepth 100000 in
theorem cw_World_turtle : Cond.code y_World_turtle b_World_turtle 4 (some .int) ∈ tw_T := tw_i7 154 rfl rfl
abbrev b_World_dot : ByteArray := prog_1_method_14_code
def y_World_dot : MethodName := ⟨R_World, "dot", "(II)I"⟩
abbrev w_World_dot : List Cond := .code y_World_dot b_World_dot 3 (some .int) :: tw_T
set_option maxRecDepth 100000 in
theorem cw_World_dot : Cond.code y_World_dot b_World_dot 3 (some .int) ∈ tw_T := tw_i7 160 rfl rfl
abbrev b_Turtles_colourAt : ByteArray := prog_11_method_13_code
def y_Turtles_colourAt : MethodName := ⟨R_Turtles, "colourAt", "(II)I"⟩
abbrev w_Turtles_colourAt : List Cond := .code y_Turtles_colourAt b_Turtles_colourAt 3 (some .int) :: tw_T
set_option maxRecDepth 100000 in
theorem cw_Turtles_colourAt : Cond.code y_Turtles_colourAt b_Turtles_colourAt 3 (some .int) ∈ tw_T := tw_i7 164 rfl rfl
abbrev b_World_out : ByteArray := prog_1_method_15_code
def y_World_out : MethodName := ⟨R_World, "out", "(I)I"⟩
abbrev w_World_out : List Cond := .code y_World_out b_World_out 2 (some .int) :: tw_T
set_option maxRecDepth 100000 in
theorem cw_World_out : Cond.code y_World_out b_World_out 2 (some .int) ∈ tw_T := tw_i7 168 rfl rfl
abbrev b_Output_latest : ByteArray := prog_8_method_8_code
def y_Output_latest : MethodName := ⟨R_Output, "latest", "(I)I"⟩
abbrev w_Output_latest : List Cond := .code y_Output_latest b_Output_latest 2 (some .int) :: tw_T
set_option maxRecDepth 100000 in
theorem cw_Output_latest : Cond.code y_Output_latest b_Output_latest 2 (some .int) ∈ tw_T := tw_i7 172 rfl rfl
abbrev b_World_name : ByteArray := prog_1_method_16_code
def y_World_name : MethodName := ⟨R_World, "name", "(II)I"⟩
abbrev w_World_name : List Cond := .code y_World_name b_World_name 3 (some .int) :: tw_T
set_option maxRecDepth 100000 in
theorem cw_World_name : Cond.code y_World_name b_World_name 3 (some .int) ∈ tw_T := tw_i7 177 rfl rfl
abbrev b_Names_globalName : ByteArray := prog_7_method_9_code
def y_Names_globalName : MethodName := ⟨R_Names, "globalName", "(I)I"⟩
abbrev w_Names_globalName : List Cond := .code y_Names_globalName b_Names_globalName 2 (some .int) :: tw_T
set_option maxRecDepth 100000 in
theorem cw_Names_globalName : Cond.code y_Names_globalName b_Names_globalName 2 (some .int) ∈ tw_T := tw_i7 181 rfl rfl
abbrev b_Heap_letter : ByteArray := prog_3_method_17_code
def y_Heap_letter : MethodName := ⟨R_Heap, "letter", "(II)I"⟩
abbrev w_Heap_letter : List Cond := .code y_Heap_letter b_Heap_letter 3 (some .int) :: tw_T
set_option maxRecDepth 100000 in
theorem cw_Heap_letter : Cond.code y_Heap_letter b_Heap_letter 3 (some .int) ∈ tw_T := tw_i7 185 rfl rfl
abbrev b_World_value : ByteArray := prog_1_method_17_code
def y_World_value : MethodName := ⟨R_World, "value", "(II)I"⟩
abbrev w_World_value : List Cond := .code y_World_value b_World_value 4 (some .int) :: tw_T
set_option maxRecDepth 100000 in
theorem cw_World_value : Cond.code y_World_value b_World_value 4 (some .int) ∈ tw_T := tw_i7 189 rfl rfl
abbrev b_Names_globalValue : ByteArray := prog_7_method_10_code
def y_Names_globalValue : MethodName := ⟨R_Names, "globalValue", "(I)I"⟩
abbrev w_Names_globalValue : List Cond := .code y_Names_globalValue b_Names_globalValue 2 (some .int) :: tw_T
set_option maxRecDepth 100000 in
theorem cw_Names_globalValue : Cond.code y_Names_globalValue b_Names_globalValue 2 (some .int) ∈ tw_T := tw_i7 193 rfl rfl
abbrev b_Output_signAt : ByteArray := prog_8_method_4_code
def y_Output_signAt : MethodName := ⟨R_Output, "signAt", "(I)I"⟩
abbrev w_Output_signAt : List Cond := .code y_Output_signAt b_Output_signAt 2 (some .int) :: tw_T
set_option maxRecDepth 100000 in
theorem cw_Output_signAt : Cond.code y_Output_signAt b_Output_signAt 2 (some .int) ∈ tw_T := tw_i7 200 rfl rfl
abbrev b_World_procedure : ByteArray := prog_1_method_18_code
def y_World_procedure : MethodName := ⟨R_World, "procedure", "(II)I"⟩
abbrev w_World_procedure : List Cond := .code y_World_procedure b_World_procedure 3 (some .int) :: tw_T
set_option maxRecDepth 100000 in
theorem cw_World_procedure : Cond.code y_World_procedure b_World_procedure 3 (some .int) ∈ tw_T := tw_i7 204 rfl rfl
abbrev b_World_call : ByteArray := prog_1_method_19_code
def y_World_call : MethodName := ⟨R_World, "call", "(II)I"⟩
abbrev w_World_call : List Cond := .code y_World_call b_World_call 7 (some .int) :: tw_T
set_option maxRecDepth 100000 in
theorem cw_World_call : Cond.code y_World_call b_World_call 7 (some .int) ∈ tw_T := tw_i7 208 rfl rfl
abbrev b_Names_countValues : ByteArray := prog_7_method_8_code
def y_Names_countValues : MethodName := ⟨R_Names, "countValues", "(II)I"⟩
abbrev w_Names_countValues : List Cond := .code y_Names_countValues b_Names_countValues 5 (some .int) :: tw_T
set_option maxRecDepth 100000 in
theorem cw_Names_countValues : Cond.code y_Names_countValues b_Names_countValues 5 (some .int) ∈ tw_T := tw_i7 213 rfl rfl
abbrev b_World_sum : ByteArray := prog_1_method_20_code
def y_World_sum : MethodName := ⟨R_World, "sum", "()I"⟩
abbrev w_World_sum : List Cond := .code y_World_sum b_World_sum 1 (some .int) :: tw_T
set_option maxRecDepth 100000 in
theorem cw_World_sum : Cond.code y_World_sum b_World_sum 1 (some .int) ∈ tw_T := tw_i7 218 rfl rfl
abbrev b_Turtles_sumUp : ByteArray := prog_11_method_26_code
def y_Turtles_sumUp : MethodName := ⟨R_Turtles, "sumUp", "()I"⟩
abbrev w_Turtles_sumUp : List Cond := .code y_Turtles_sumUp b_Turtles_sumUp 3 (some .int) :: tw_T
set_option maxRecDepth 100000 in
theorem cw_Turtles_sumUp : Cond.code y_Turtles_sumUp b_Turtles_sumUp 3 (some .int) ∈ tw_T := tw_i7 222 rfl rfl
abbrev b_Law_cell : ByteArray := method_2_code
def y_Law_cell : MethodName := ⟨"TurtleWorldLaw", "cell", "([II)I"⟩
abbrev w_Law_cell : List Cond := .code y_Law_cell b_Law_cell 2 (some .int) :: tw_T
set_option maxRecDepth 100000 in
theorem cw_Law_cell : Cond.code y_Law_cell b_Law_cell 2 (some .int) ∈ tw_T := tw_i7 225 rfl rfl
abbrev b_World_place : ByteArray := prog_1_method_11_code
def y_World_place : MethodName := ⟨R_World, "place", "(III)I"⟩
abbrev w_World_place : List Cond := .code y_World_place b_World_place 4 (some .int) :: tw_T
set_option maxRecDepth 100000 in
theorem cw_World_place : Cond.code y_World_place b_World_place 4 (some .int) ∈ tw_T := tw_i7 233 rfl rfl
abbrev b_World_side : ByteArray := prog_1_method_12_code
def y_World_side : MethodName := ⟨R_World, "side", "(III)I"⟩
abbrev w_World_side : List Cond := .code y_World_side b_World_side 4 (some .int) :: tw_T
set_option maxRecDepth 100000 in
theorem cw_World_side : Cond.code y_World_side b_World_side 4 (some .int) ∈ tw_T := tw_i8 61 rfl rfl
abbrev b_Model_thrown : ByteArray := prog_14_method_1_code
def y_Model_thrown : MethodName := ⟨R_Model, "thrown", "()I"⟩
abbrev w_Model_thrown : List Cond := .code y_Model_thrown b_Model_thrown 1 (some .int) :: tw_T
set_option maxRecDepth 100000 in
theorem cw_Model_thrown : Cond.code y_Model_thrown b_Model_thrown 1 (some .int) ∈ tw_T := tw_i8 66 rfl rfl
abbrev b_Model_init : ByteArray := prog_14_method_25_code
def y_Model_init : MethodName := ⟨R_Model, "<init>", "(I)V"⟩
abbrev w_Model_init : List Cond := .code y_Model_init b_Model_init 3 none :: tw_T
set_option maxRecDepth 100000 in
theorem cw_Model_init : Cond.code y_Model_init b_Model_init 3 none ∈ tw_T := tw_i8 71 rfl rfl
abbrev b_Model_feed : ByteArray := prog_14_method_32_code
def y_Model_feed : MethodName := ⟨R_Model, "feed", "(IIIII)Z"⟩
abbrev w_Model_feed : List Cond := .code y_Model_feed b_Model_feed 8 (some .boolean) :: tw_T
set_option maxRecDepth 100000 in
theorem cw_Model_feed : Cond.code y_Model_feed b_Model_feed 8 (some .boolean) ∈ tw_T := tw_i9 224 rfl rfl
abbrev b_Model_end : ByteArray := prog_14_method_33_code
def y_Model_end : MethodName := ⟨R_Model, "end", "(I)Z"⟩
abbrev w_Model_end : List Cond := .code y_Model_end b_Model_end 2 (some .boolean) :: tw_T
set_option maxRecDepth 100000 in
theorem cw_Model_end : Cond.code y_Model_end b_Model_end 2 (some .boolean) ∈ tw_T := tw_i9 228 rfl rfl
abbrev b_Model_define : ByteArray := prog_14_method_49_code
def y_Model_define : MethodName := ⟨R_Model, "define", "()I"⟩
abbrev w_Model_define : List Cond := .code y_Model_define b_Model_define 9 (some .int) :: tw_T
set_option maxRecDepth 100000 in
theorem cw_Model_define : Cond.code y_Model_define b_Model_define 9 (some .int) ∈ tw_T := tw_i9 232 rfl rfl
abbrev b_Model_scan : ByteArray := prog_14_method_41_code
def y_Model_scan : MethodName := ⟨R_Model, "scan", "(Z)Z"⟩
abbrev w_Model_scan : List Cond := .code y_Model_scan b_Model_scan 10 (some .boolean) :: tw_T
set_option maxRecDepth 100000 in
theorem cw_Model_scan : Cond.code y_Model_scan b_Model_scan 10 (some .boolean) ∈ tw_T := tw_i9 236 rfl rfl
abbrev b_Model_isGood : ByteArray := prog_14_method_37_code
def y_Model_isGood : MethodName := ⟨R_Model, "isGood", "(I)Z"⟩
abbrev w_Model_isGood : List Cond := .code y_Model_isGood b_Model_isGood 1 (some .boolean) :: tw_T
set_option maxRecDepth 100000 in
theorem cw_Model_isGood : Cond.code y_Model_isGood b_Model_isGood 1 (some .boolean) ∈ tw_T := tw_i9 239 rfl rfl
abbrev b_Model_fail : ByteArray := prog_14_method_39_code
def y_Model_fail : MethodName := ⟨R_Model, "fail", "(II)V"⟩
abbrev w_Model_fail : List Cond := .code y_Model_fail b_Model_fail 3 none :: tw_T
set_option maxRecDepth 100000 in
theorem cw_Model_fail : Cond.code y_Model_fail b_Model_fail 3 none ∈ tw_T := tw_i10 3 rfl rfl
abbrev b_Model_isSingle : ByteArray := prog_14_method_35_code
def y_Model_isSingle : MethodName := ⟨R_Model, "isSingle", "(I)Z"⟩
abbrev w_Model_isSingle : List Cond := .code y_Model_isSingle b_Model_isSingle 1 (some .boolean) :: tw_T
set_option maxRecDepth 100000 in
theorem cw_Model_isSingle : Cond.code y_Model_isSingle b_Model_isSingle 1 (some .boolean) ∈ tw_T := tw_i10 6 rfl rfl
abbrev b_Model_isSign : ByteArray := prog_14_method_34_code
def y_Model_isSign : MethodName := ⟨R_Model, "isSign", "(I)Z"⟩
abbrev w_Model_isSign : List Cond := .code y_Model_isSign b_Model_isSign 1 (some .boolean) :: tw_T
set_option maxRecDepth 100000 in
theorem cw_Model_isSign : Cond.code y_Model_isSign b_Model_isSign 1 (some .boolean) ∈ tw_T := tw_i10 9 rfl rfl
abbrev b_Model_isAlone : ByteArray := prog_14_method_40_code
def y_Model_isAlone : MethodName := ⟨R_Model, "isAlone", "(II)Z"⟩
abbrev w_Model_isAlone : List Cond := .code y_Model_isAlone b_Model_isAlone 4 (some .boolean) :: tw_T
set_option maxRecDepth 100000 in
theorem cw_Model_isAlone : Cond.code y_Model_isAlone b_Model_isAlone 4 (some .boolean) ∈ tw_T := tw_i10 13 rfl rfl
abbrev b_Model_isDigit : ByteArray := prog_14_method_36_code
def y_Model_isDigit : MethodName := ⟨R_Model, "isDigit", "(I)Z"⟩
abbrev w_Model_isDigit : List Cond := .code y_Model_isDigit b_Model_isDigit 1 (some .boolean) :: tw_T
set_option maxRecDepth 100000 in
theorem cw_Model_isDigit : Cond.code y_Model_isDigit b_Model_isDigit 1 (some .boolean) ∈ tw_T := tw_i10 16 rfl rfl
abbrev b_Model_isBlank : ByteArray := prog_14_method_38_code
def y_Model_isBlank : MethodName := ⟨R_Model, "isBlank", "(I)Z"⟩
abbrev w_Model_isBlank : List Cond := .code y_Model_isBlank b_Model_isBlank 1 (some .boolean) :: tw_T
set_option maxRecDepth 100000 in
theorem cw_Model_isBlank : Cond.code y_Model_isBlank b_Model_isBlank 1 (some .boolean) ∈ tw_T := tw_i10 19 rfl rfl
abbrev b_Model_asNumber : ByteArray := prog_14_method_24_code
def y_Model_asNumber : MethodName := ⟨R_Model, "asNumber", "([BII)I"⟩
abbrev w_Model_asNumber : List Cond := .code y_Model_asNumber b_Model_asNumber 9 (some .int) :: tw_T
set_option maxRecDepth 100000 in
theorem cw_Model_asNumber : Cond.code y_Model_asNumber b_Model_asNumber 9 (some .int) ∈ tw_T := tw_i10 23 rfl rfl
abbrev b_Model_number : ByteArray := prog_14_method_4_code
def y_Model_number : MethodName := ⟨R_Model, "number", "(I)J"⟩
abbrev w_Model_number : List Cond := .code y_Model_number b_Model_number 1 (some .long) :: tw_T
set_option maxRecDepth 100000 in
theorem cw_Model_number : Cond.code y_Model_number b_Model_number 1 (some .long) ∈ tw_T := tw_i10 32 rfl rfl
abbrev b_Model_newWord : ByteArray := prog_14_method_10_code
def y_Model_newWord : MethodName := ⟨R_Model, "newWord", "(II)I"⟩
abbrev w_Model_newWord : List Cond := .code y_Model_newWord b_Model_newWord 3 (some .int) :: tw_T
set_option maxRecDepth 100000 in
theorem cw_Model_newWord : Cond.code y_Model_newWord b_Model_newWord 3 (some .int) ∈ tw_T := tw_i10 37 rfl rfl
abbrev b_Model_wordValue : ByteArray := prog_14_method_5_code
def y_Model_wordValue : MethodName := ⟨R_Model, "wordValue", "(I)J"⟩
abbrev w_Model_wordValue : List Cond := .code y_Model_wordValue b_Model_wordValue 1 (some .long) :: tw_T
set_option maxRecDepth 100000 in
theorem cw_Model_wordValue : Cond.code y_Model_wordValue b_Model_wordValue 1 (some .long) ∈ tw_T := tw_i10 40 rfl rfl
abbrev b_Model_definition : ByteArray := prog_14_method_46_code
def y_Model_definition : MethodName := ⟨R_Model, "definition", "(II)V"⟩
abbrev w_Model_definition : List Cond := .code y_Model_definition b_Model_definition 7 none :: tw_T
set_option maxRecDepth 100000 in
theorem cw_Model_definition : Cond.code y_Model_definition b_Model_definition 7 none ∈ tw_T := tw_i10 44 rfl rfl
abbrev b_Model_isWord : ByteArray := prog_14_method_8_code
def y_Model_isWord : MethodName := ⟨R_Model, "isWord", "(J)Z"⟩
abbrev w_Model_isWord : List Cond := .code y_Model_isWord b_Model_isWord 2 (some .boolean) :: tw_T
set_option maxRecDepth 100000 in
theorem cw_Model_isWord : Cond.code y_Model_isWord b_Model_isWord 2 (some .boolean) ∈ tw_T := tw_i10 47 rfl rfl
abbrev b_Model_kindOf : ByteArray := prog_14_method_2_code
def y_Model_kindOf : MethodName := ⟨R_Model, "kindOf", "(J)I"⟩
abbrev w_Model_kindOf : List Cond := .code y_Model_kindOf b_Model_kindOf 2 (some .int) :: tw_T
set_option maxRecDepth 100000 in
theorem cw_Model_kindOf : Cond.code y_Model_kindOf b_Model_kindOf 2 (some .int) ∈ tw_T := tw_i10 50 rfl rfl
abbrev b_Model_what : ByteArray := prog_14_method_3_code
def y_Model_what : MethodName := ⟨R_Model, "what", "(J)I"⟩
abbrev w_Model_what : List Cond := .code y_Model_what b_Model_what 2 (some .int) :: tw_T
set_option maxRecDepth 100000 in
theorem cw_Model_what : Cond.code y_Model_what b_Model_what 2 (some .int) ∈ tw_T := tw_i10 53 rfl rfl
abbrev b_Model_isText : ByteArray := prog_14_method_18_code
def y_Model_isText : MethodName := ⟨R_Model, "isText", "(ILjava/lang/String;)Z"⟩
abbrev w_Model_isText : List Cond := .code y_Model_isText b_Model_isText 4 (some .boolean) :: tw_T
set_option maxRecDepth 100000 in
theorem cw_Model_isText : Cond.code y_Model_isText b_Model_isText 4 (some .boolean) ∈ tw_T := tw_i10 58 rfl rfl
abbrev b_Model_isName : ByteArray := prog_14_method_45_code
def y_Model_isName : MethodName := ⟨R_Model, "isName", "(I)Z"⟩
abbrev w_Model_isName : List Cond := .code y_Model_isName b_Model_isName 4 (some .boolean) :: tw_T
set_option maxRecDepth 100000 in
theorem cw_Model_isName : Cond.code y_Model_isName b_Model_isName 4 (some .boolean) ∈ tw_T := tw_i10 64 rfl rfl
abbrev b_Model_primitive : ByteArray := prog_14_method_81_code
def y_Model_primitive : MethodName := ⟨R_Model, "primitive", "(I)I"⟩
abbrev w_Model_primitive : List Cond := .code y_Model_primitive b_Model_primitive 7 (some .int) :: tw_T
set_option maxRecDepth 100000 in
theorem cw_Model_primitive : Cond.code y_Model_primitive b_Model_primitive 7 (some .int) ∈ tw_T := tw_i10 69 rfl rfl
abbrev b_Model_procedureOf : ByteArray := prog_14_method_44_code
def y_Model_procedureOf : MethodName := ⟨R_Model, "procedureOf", "(I)I"⟩
abbrev w_Model_procedureOf : List Cond := .code y_Model_procedureOf b_Model_procedureOf 3 (some .int) :: tw_T
set_option maxRecDepth 100000 in
theorem cw_Model_procedureOf : Cond.code y_Model_procedureOf b_Model_procedureOf 3 (some .int) ∈ tw_T := tw_i10 74 rfl rfl
abbrev b_Model_sameWord : ByteArray := prog_14_method_17_code
def y_Model_sameWord : MethodName := ⟨R_Model, "sameWord", "(II)Z"⟩
abbrev w_Model_sameWord : List Cond := .code y_Model_sameWord b_Model_sameWord 3 (some .boolean) :: tw_T
set_option maxRecDepth 100000 in
theorem cw_Model_sameWord : Cond.code y_Model_sameWord b_Model_sameWord 3 (some .boolean) ∈ tw_T := tw_i10 78 rfl rfl
abbrev b_Model_sameLetters : ByteArray := prog_14_method_16_code
def y_Model_sameLetters : MethodName := ⟨R_Model, "sameLetters", "(IIII)Z"⟩
abbrev w_Model_sameLetters : List Cond := .code y_Model_sameLetters b_Model_sameLetters 6 (some .boolean) :: tw_T
set_option maxRecDepth 100000 in
theorem cw_Model_sameLetters : Cond.code y_Model_sameLetters b_Model_sameLetters 6 (some .boolean) ∈ tw_T := tw_i10 82 rfl rfl
abbrev b_Model_input : ByteArray := prog_14_method_47_code
def y_Model_input : MethodName := ⟨R_Model, "input", "(II)V"⟩
abbrev w_Model_input : List Cond := .code y_Model_input b_Model_input 7 none :: tw_T
set_option maxRecDepth 100000 in
theorem cw_Model_input : Cond.code y_Model_input b_Model_input 7 none ∈ tw_T := tw_i10 86 rfl rfl
abbrev b_Model_tell : ByteArray := prog_14_method_48_code
def y_Model_tell : MethodName := ⟨R_Model, "tell", "(I)I"⟩
abbrev w_Model_tell : List Cond := .code y_Model_tell b_Model_tell 3 (some .int) :: tw_T
set_option maxRecDepth 100000 in
theorem cw_Model_tell : Cond.code y_Model_tell b_Model_tell 3 (some .int) ∈ tw_T := tw_i10 90 rfl rfl
abbrev b_Model_listOf : ByteArray := prog_14_method_42_code
def y_Model_listOf : MethodName := ⟨R_Model, "listOf", "(II)J"⟩
abbrev w_Model_listOf : List Cond := .code y_Model_listOf b_Model_listOf 4 (some .long) :: tw_T
set_option maxRecDepth 100000 in
theorem cw_Model_listOf : Cond.code y_Model_listOf b_Model_listOf 4 (some .long) ∈ tw_T := tw_i10 94 rfl rfl
abbrev b_Model_within : ByteArray := prog_14_method_43_code
def y_Model_within : MethodName := ⟨R_Model, "within", "(II)J"⟩
abbrev w_Model_within : List Cond := .code y_Model_within b_Model_within 6 (some .long) :: tw_T
set_option maxRecDepth 100000 in
theorem cw_Model_within : Cond.code y_Model_within b_Model_within 6 (some .long) ∈ tw_T := tw_i10 98 rfl rfl
abbrev b_Model_put : ByteArray := prog_14_method_13_code
def y_Model_put : MethodName := ⟨R_Model, "put", "(J)V"⟩
abbrev w_Model_put : List Cond := .code y_Model_put b_Model_put 3 none :: tw_T
set_option maxRecDepth 100000 in
theorem cw_Model_put : Cond.code y_Model_put b_Model_put 3 none ∈ tw_T := tw_i10 102 rfl rfl
abbrev b_Model_newList : ByteArray := prog_14_method_11_code
def y_Model_newList : MethodName := ⟨R_Model, "newList", "(I)J"⟩
abbrev w_Model_newList : List Cond := .code y_Model_newList b_Model_newList 4 (some .long) :: tw_T
set_option maxRecDepth 100000 in
theorem cw_Model_newList : Cond.code y_Model_newList b_Model_newList 4 (some .long) ∈ tw_T := tw_i10 106 rfl rfl
abbrev b_Model_sizeOf : ByteArray := prog_14_method_12_code
def y_Model_sizeOf : MethodName := ⟨R_Model, "sizeOf", "(J)I"⟩
abbrev w_Model_sizeOf : List Cond := .code y_Model_sizeOf b_Model_sizeOf 3 (some .int) :: tw_T
set_option maxRecDepth 100000 in
theorem cw_Model_sizeOf : Cond.code y_Model_sizeOf b_Model_sizeOf 3 (some .int) ∈ tw_T := tw_i10 110 rfl rfl
abbrev b_Model_isNumber : ByteArray := prog_14_method_7_code
def y_Model_isNumber : MethodName := ⟨R_Model, "isNumber", "(J)Z"⟩
abbrev w_Model_isNumber : List Cond := .code y_Model_isNumber b_Model_isNumber 2 (some .boolean) :: tw_T
set_option maxRecDepth 100000 in
theorem cw_Model_isNumber : Cond.code y_Model_isNumber b_Model_isNumber 2 (some .boolean) ∈ tw_T := tw_i10 113 rfl rfl
abbrev b_Model_listValue : ByteArray := prog_14_method_6_code
def y_Model_listValue : MethodName := ⟨R_Model, "listValue", "(I)J"⟩
abbrev w_Model_listValue : List Cond := .code y_Model_listValue b_Model_listValue 1 (some .long) :: tw_T
set_option maxRecDepth 100000 in
theorem cw_Model_listValue : Cond.code y_Model_listValue b_Model_listValue 1 (some .long) ∈ tw_T := tw_i10 116 rfl rfl
abbrev b_Model_tidy : ByteArray := prog_14_method_31_code
def y_Model_tidy : MethodName := ⟨R_Model, "tidy", "(J)J"⟩
abbrev w_Model_tidy : List Cond := .code y_Model_tidy b_Model_tidy 8 (some .long) :: tw_T
set_option maxRecDepth 100000 in
theorem cw_Model_tidy : Cond.code y_Model_tidy b_Model_tidy 8 (some .long) ∈ tw_T := tw_i10 121 rfl rfl
abbrev b_Model_moveWord : ByteArray := prog_14_method_29_code
def y_Model_moveWord : MethodName := ⟨R_Model, "moveWord", "(I)I"⟩
abbrev w_Model_moveWord : List Cond := .code y_Model_moveWord b_Model_moveWord 2 (some .int) :: tw_T
set_option maxRecDepth 100000 in
theorem cw_Model_moveWord : Cond.code y_Model_moveWord b_Model_moveWord 2 (some .int) ∈ tw_T := tw_i10 125 rfl rfl
abbrev b_Model_move : ByteArray := prog_14_method_30_code
def y_Model_move : MethodName := ⟨R_Model, "move", "(J)J"⟩
abbrev w_Model_move : List Cond := .code y_Model_move b_Model_move 4 (some .long) :: tw_T
set_option maxRecDepth 100000 in
theorem cw_Model_move : Cond.code y_Model_move b_Model_move 4 (some .long) ∈ tw_T := tw_i10 129 rfl rfl
abbrev b_Model_line : ByteArray := prog_14_method_50_code
def y_Model_line : MethodName := ⟨R_Model, "line", "()I"⟩
abbrev w_Model_line : List Cond := .code y_Model_line b_Model_line 5 (some .int) :: tw_T
set_option maxRecDepth 100000 in
theorem cw_Model_line : Cond.code y_Model_line b_Model_line 5 (some .int) ∈ tw_T := tw_i10 133 rfl rfl
abbrev b_Model_keep : ByteArray := prog_14_method_27_code
def y_Model_keep : MethodName := ⟨R_Model, "keep", "()V"⟩
abbrev w_Model_keep : List Cond := .code y_Model_keep b_Model_keep 2 none :: tw_T
set_option maxRecDepth 100000 in
theorem cw_Model_keep : Cond.code y_Model_keep b_Model_keep 2 none ∈ tw_T := tw_i10 137 rfl rfl
abbrev b_Model_turtleRow : ByteArray := prog_14_method_26_code
def y_Model_turtleRow : MethodName := ⟨R_Model, "turtleRow", "(I)[I"⟩
abbrev w_Model_turtleRow : List Cond := .code y_Model_turtleRow b_Model_turtleRow 2 (some (.array .int)) :: tw_T
set_option maxRecDepth 100000 in
theorem cw_Model_turtleRow : Cond.code y_Model_turtleRow b_Model_turtleRow 2 (some (.array .int)) ∈ tw_T := tw_i10 141 rfl rfl
abbrev b_Model_size : ByteArray := prog_14_method_15_code
def y_Model_size : MethodName := ⟨R_Model, "size", "(J)I"⟩
abbrev w_Model_size : List Cond := .code y_Model_size b_Model_size 3 (some .int) :: tw_T
set_option maxRecDepth 100000 in
theorem cw_Model_size : Cond.code y_Model_size b_Model_size 3 (some .int) ∈ tw_T := tw_i10 145 rfl rfl
abbrev b_Model_execute : ByteArray := prog_14_method_56_code
def y_Model_execute : MethodName := ⟨R_Model, "execute", "(J)V"⟩
abbrev w_Model_execute : List Cond := .code y_Model_execute b_Model_execute 5 none :: tw_T
set_option maxRecDepth 100000 in
theorem cw_Model_execute : Cond.code y_Model_execute b_Model_execute 5 none ∈ tw_T := tw_i10 149 rfl rfl
abbrev b_Model_told : ByteArray := prog_14_method_57_code
def y_Model_told : MethodName := ⟨R_Model, "told", "(Ljava/lang/String;)J"⟩
abbrev w_Model_told : List Cond := .code y_Model_told b_Model_told 4 (some .long) :: tw_T
set_option maxRecDepth 100000 in
theorem cw_Model_told : Cond.code y_Model_told b_Model_told 4 (some .long) ∈ tw_T := tw_i10 154 rfl rfl
abbrev b_Model_eval : ByteArray := prog_14_method_63_code
def y_Model_eval : MethodName := ⟨R_Model, "eval", "(I)J"⟩
abbrev w_Model_eval : List Cond := .code y_Model_eval b_Model_eval 18 (some .long) :: tw_T
set_option maxRecDepth 100000 in
theorem cw_Model_eval : Cond.code y_Model_eval b_Model_eval 18 (some .long) ∈ tw_T := tw_i10 159 rfl rfl
abbrev b_Model_fails : ByteArray := prog_14_method_58_code
def y_Model_fails : MethodName := ⟨R_Model, "fails", "(I)J"⟩
abbrev w_Model_fails : List Cond := .code y_Model_fails b_Model_fails 2 (some .long) :: tw_T
set_option maxRecDepth 100000 in
theorem cw_Model_fails : Cond.code y_Model_fails b_Model_fails 2 (some .long) ∈ tw_T := tw_i10 163 rfl rfl
abbrev b_Model_quoted : ByteArray := prog_14_method_66_code
def y_Model_quoted : MethodName := ⟨R_Model, "quoted", "(I)J"⟩
abbrev w_Model_quoted : List Cond := .code y_Model_quoted b_Model_quoted 3 (some .long) :: tw_T
set_option maxRecDepth 100000 in
theorem cw_Model_quoted : Cond.code y_Model_quoted b_Model_quoted 3 (some .long) ∈ tw_T := tw_i10 167 rfl rfl
abbrev b_Model_valueOf : ByteArray := prog_14_method_68_code
def y_Model_valueOf : MethodName := ⟨R_Model, "valueOf", "(II)J"⟩
abbrev w_Model_valueOf : List Cond := .code y_Model_valueOf b_Model_valueOf 6 (some .long) :: tw_T
set_option maxRecDepth 100000 in
theorem cw_Model_valueOf : Cond.code y_Model_valueOf b_Model_valueOf 6 (some .long) ∈ tw_T := tw_i10 171 rfl rfl
abbrev b_Model_found : ByteArray := prog_14_method_67_code
def y_Model_found : MethodName := ⟨R_Model, "found", "(II)I"⟩
abbrev w_Model_found : List Cond := .code y_Model_found b_Model_found 5 (some .int) :: tw_T
set_option maxRecDepth 100000 in
theorem cw_Model_found : Cond.code y_Model_found b_Model_found 5 (some .int) ∈ tw_T := tw_i10 175 rfl rfl
abbrev b_Model_waits : ByteArray := prog_14_method_60_code
def y_Model_waits : MethodName := ⟨R_Model, "waits", "()Z"⟩
abbrev w_Model_waits : List Cond := .code y_Model_waits b_Model_waits 1 (some .boolean) :: tw_T
set_option maxRecDepth 100000 in
theorem cw_Model_waits : Cond.code y_Model_waits b_Model_waits 1 (some .boolean) ∈ tw_T := tw_i10 179 rfl rfl
abbrev b_Model_closed : ByteArray := prog_14_method_64_code
def y_Model_closed : MethodName := ⟨R_Model, "closed", "(J)J"⟩
abbrev w_Model_closed : List Cond := .code y_Model_closed b_Model_closed 5 (some .long) :: tw_T
set_option maxRecDepth 100000 in
theorem cw_Model_closed : Cond.code y_Model_closed b_Model_closed 5 (some .long) ∈ tw_T := tw_i10 183 rfl rfl
abbrev b_Model_minus : ByteArray := prog_14_method_65_code
def y_Model_minus : MethodName := ⟨R_Model, "minus", "(J)J"⟩
abbrev w_Model_minus : List Cond := .code y_Model_minus b_Model_minus 3 (some .long) :: tw_T
set_option maxRecDepth 100000 in
theorem cw_Model_minus : Cond.code y_Model_minus b_Model_minus 3 (some .long) ∈ tw_T := tw_i10 188 rfl rfl
abbrev b_Model_begins : ByteArray := prog_14_method_59_code
def y_Model_begins : MethodName := ⟨R_Model, "begins", "()Z"⟩
abbrev w_Model_begins : List Cond := .code y_Model_begins b_Model_begins 1 (some .boolean) :: tw_T
set_option maxRecDepth 100000 in
theorem cw_Model_begins : Cond.code y_Model_begins b_Model_begins 1 (some .boolean) ∈ tw_T := tw_i10 192 rfl rfl
abbrev b_Model_arity : ByteArray := prog_14_method_82_code
def y_Model_arity : MethodName := ⟨R_Model, "arity", "(I)I"⟩
abbrev w_Model_arity : List Cond := .code y_Model_arity b_Model_arity 1 (some .int) :: tw_T
set_option maxRecDepth 100000 in
theorem cw_Model_arity : Cond.code y_Model_arity b_Model_arity 1 (some .int) ∈ tw_T := tw_i10 195 rfl rfl
abbrev b_Model_called : ByteArray := prog_14_method_74_code
def y_Model_called : MethodName := ⟨R_Model, "called", "(IIIJ)J"⟩
abbrev w_Model_called : List Cond := .code y_Model_called b_Model_called 15 (some .long) :: tw_T
set_option maxRecDepth 100000 in
theorem cw_Model_called : Cond.code y_Model_called b_Model_called 15 (some .long) ∈ tw_T := tw_i10 200 rfl rfl
abbrev b_Model_hasLevel : ByteArray := prog_14_method_73_code
def y_Model_hasLevel : MethodName := ⟨R_Model, "hasLevel", "()Z"⟩
abbrev w_Model_hasLevel : List Cond := .code y_Model_hasLevel b_Model_hasLevel 1 (some .boolean) :: tw_T
set_option maxRecDepth 100000 in
theorem cw_Model_hasLevel : Cond.code y_Model_hasLevel b_Model_hasLevel 1 (some .boolean) ∈ tw_T := tw_i10 204 rfl rfl
abbrev b_Model_ran : ByteArray := prog_14_method_71_code
def y_Model_ran : MethodName := ⟨R_Model, "ran", "(JZ)J"⟩
abbrev w_Model_ran : List Cond := .code y_Model_ran b_Model_ran 6 (some .long) :: tw_T
set_option maxRecDepth 100000 in
theorem cw_Model_ran : Cond.code y_Model_ran b_Model_ran 6 (some .long) ∈ tw_T := tw_i10 208 rfl rfl
abbrev b_Model_runs : ByteArray := prog_14_method_72_code
def y_Model_runs : MethodName := ⟨R_Model, "runs", "(JZ)J"⟩
abbrev w_Model_runs : List Cond := .code y_Model_runs b_Model_runs 10 (some .long) :: tw_T
set_option maxRecDepth 100000 in
theorem cw_Model_runs : Cond.code y_Model_runs b_Model_runs 10 (some .long) ∈ tw_T := tw_i10 212 rfl rfl
abbrev b_Model_applied : ByteArray := prog_14_method_88_code
def y_Model_applied : MethodName := ⟨R_Model, "applied", "(II)J"⟩
abbrev w_Model_applied : List Cond := .code y_Model_applied b_Model_applied 7 (some .long) :: tw_T
set_option maxRecDepth 100000 in
theorem cw_Model_applied : Cond.code y_Model_applied b_Model_applied 7 (some .long) ∈ tw_T := tw_i10 216 rfl rfl
abbrev b_Model_kinds : ByteArray := prog_14_method_87_code
def y_Model_kinds : MethodName := ⟨R_Model, "kinds", "(I)Ljava/lang/String;"⟩
abbrev w_Model_kinds : List Cond := .code y_Model_kinds b_Model_kinds 1 (some (.object "java/lang/String")) :: tw_T
set_option maxRecDepth 100000 in
theorem cw_Model_kinds : Cond.code y_Model_kinds b_Model_kinds 1 (some (.object "java/lang/String")) ∈ tw_T := tw_i10 219 rfl rfl
abbrev b_Model_fits : ByteArray := prog_14_method_86_code
def y_Model_fits : MethodName := ⟨R_Model, "fits", "(ILjava/lang/String;)Z"⟩
abbrev w_Model_fits : List Cond := .code y_Model_fits b_Model_fits 8 (some .boolean) :: tw_T
set_option maxRecDepth 100000 in
theorem cw_Model_fits : Cond.code y_Model_fits b_Model_fits 8 (some .boolean) ∈ tw_T := tw_i11 0 rfl rfl
abbrev b_Model_isList : ByteArray := prog_14_method_9_code
def y_Model_isList : MethodName := ⟨R_Model, "isList", "(J)Z"⟩
abbrev w_Model_isList : List Cond := .code y_Model_isList b_Model_isList 2 (some .boolean) :: tw_T
set_option maxRecDepth 100000 in
theorem cw_Model_isList : Cond.code y_Model_isList b_Model_isList 2 (some .boolean) ∈ tw_T := tw_i11 3 rfl rfl
abbrev b_Model_isTruth : ByteArray := prog_14_method_84_code
def y_Model_isTruth : MethodName := ⟨R_Model, "isTruth", "(J)Z"⟩
abbrev w_Model_isTruth : List Cond := .code y_Model_isTruth b_Model_isTruth 3 (some .boolean) :: tw_T
set_option maxRecDepth 100000 in
theorem cw_Model_isTruth : Cond.code y_Model_isTruth b_Model_isTruth 3 (some .boolean) ∈ tw_T := tw_i11 7 rfl rfl
abbrev b_Model_turtles : ByteArray := prog_14_method_103_code
def y_Model_turtles : MethodName := ⟨R_Model, "turtles", "(III)J"⟩
abbrev w_Model_turtles : List Cond := .code y_Model_turtles b_Model_turtles 6 (some .long) :: tw_T
set_option maxRecDepth 100000 in
theorem cw_Model_turtles : Cond.code y_Model_turtles b_Model_turtles 6 (some .long) ∈ tw_T := tw_i11 11 rfl rfl
abbrev b_Model_steps : ByteArray := prog_14_method_106_code
def y_Model_steps : MethodName := ⟨R_Model, "steps", "(II)J"⟩
abbrev w_Model_steps : List Cond := .code y_Model_steps b_Model_steps 10 (some .long) :: tw_T
set_option maxRecDepth 100000 in
theorem cw_Model_steps : Cond.code y_Model_steps b_Model_steps 10 (some .long) ∈ tw_T := tw_i11 15 rfl rfl
abbrev b_Model_isBeyond : ByteArray := prog_14_method_105_code
def y_Model_isBeyond : MethodName := ⟨R_Model, "isBeyond", "(I)Z"⟩
abbrev w_Model_isBeyond : List Cond := .code y_Model_isBeyond b_Model_isBeyond 1 (some .boolean) :: tw_T
set_option maxRecDepth 100000 in
theorem cw_Model_isBeyond : Cond.code y_Model_isBeyond b_Model_isBeyond 1 (some .boolean) ∈ tw_T := tw_i11 18 rfl rfl
abbrev b_Model_draws : ByteArray := prog_14_method_107_code
def y_Model_draws : MethodName := ⟨R_Model, "draws", "(IIIIIIIIIIZ)V"⟩
abbrev w_Model_draws : List Cond := .code y_Model_draws b_Model_draws 29 none :: tw_T
set_option maxRecDepth 100000 in
theorem cw_Model_draws : Cond.code y_Model_draws b_Model_draws 29 none ∈ tw_T := tw_i11 24 rfl rfl
abbrev b_Model_sign : ByteArray := prog_14_method_102_code
def y_Model_sign : MethodName := ⟨R_Model, "sign", "(JJ)I"⟩
abbrev w_Model_sign : List Cond := .code y_Model_sign b_Model_sign 8 (some .int) :: tw_T
set_option maxRecDepth 100000 in
theorem cw_Model_sign : Cond.code y_Model_sign b_Model_sign 8 (some .int) ∈ tw_T := tw_i11 27 rfl rfl
abbrev b_Model_floor : ByteArray := prog_14_method_101_code
def y_Model_floor : MethodName := ⟨R_Model, "floor", "(JJJ)I"⟩
abbrev w_Model_floor : List Cond := .code y_Model_floor b_Model_floor 10 (some .int) :: tw_T
set_option maxRecDepth 100000 in
theorem cw_Model_floor : Cond.code y_Model_floor b_Model_floor 10 (some .int) ∈ tw_T := tw_i11 34 rfl rfl
abbrev b_Model_root : ByteArray := prog_14_method_100_code
def y_Model_root : MethodName := ⟨R_Model, "root", "(J)J"⟩
abbrev w_Model_root : List Cond := .code y_Model_root b_Model_root 6 (some .long) :: tw_T
set_option maxRecDepth 100000 in
theorem cw_Model_root : Cond.code y_Model_root b_Model_root 6 (some .long) ∈ tw_T := tw_i11 37 rfl rfl
abbrev b_Model_set : ByteArray := prog_14_method_104_code
def y_Model_set : MethodName := ⟨R_Model, "set", "(IIIII)V"⟩
abbrev w_Model_set : List Cond := .code y_Model_set b_Model_set 6 none :: tw_T
set_option maxRecDepth 100000 in
theorem cw_Model_set : Cond.code y_Model_set b_Model_set 6 none ∈ tw_T := tw_i11 47 rfl rfl
abbrev b_Model_dotAt : ByteArray := prog_14_method_108_code
def y_Model_dotAt : MethodName := ⟨R_Model, "dotAt", "(II)I"⟩
abbrev w_Model_dotAt : List Cond := .code y_Model_dotAt b_Model_dotAt 3 (some .int) :: tw_T
set_option maxRecDepth 100000 in
theorem cw_Model_dotAt : Cond.code y_Model_dotAt b_Model_dotAt 3 (some .int) ∈ tw_T := tw_i11 52 rfl rfl
abbrev b_Model_truth : ByteArray := prog_14_method_83_code
def y_Model_truth : MethodName := ⟨R_Model, "truth", "(Z)J"⟩
abbrev w_Model_truth : List Cond := .code y_Model_truth b_Model_truth 2 (some .long) :: tw_T
set_option maxRecDepth 100000 in
theorem cw_Model_truth : Cond.code y_Model_truth b_Model_truth 2 (some .long) ∈ tw_T := tw_i11 56 rfl rfl
abbrev b_Model_equal : ByteArray := prog_14_method_19_code
def y_Model_equal : MethodName := ⟨R_Model, "equal", "(JJ)Z"⟩
abbrev w_Model_equal : List Cond := .code y_Model_equal b_Model_equal 11 (some .boolean) :: tw_T
set_option maxRecDepth 100000 in
theorem cw_Model_equal : Cond.code y_Model_equal b_Model_equal 11 (some .boolean) ∈ tw_T := tw_i11 60 rfl rfl
abbrev b_Model_member : ByteArray := prog_14_method_14_code
def y_Model_member : MethodName := ⟨R_Model, "member", "(JI)J"⟩
abbrev w_Model_member : List Cond := .code y_Model_member b_Model_member 4 (some .long) :: tw_T
set_option maxRecDepth 100000 in
theorem cw_Model_member : Cond.code y_Model_member b_Model_member 4 (some .long) ∈ tw_T := tw_i11 64 rfl rfl
abbrev b_Model_isTrue : ByteArray := prog_14_method_85_code
def y_Model_isTrue : MethodName := ⟨R_Model, "isTrue", "(J)Z"⟩
abbrev w_Model_isTrue : List Cond := .code y_Model_isTrue b_Model_isTrue 3 (some .boolean) :: tw_T
set_option maxRecDepth 100000 in
theorem cw_Model_isTrue : Cond.code y_Model_isTrue b_Model_isTrue 3 (some .boolean) ∈ tw_T := tw_i11 68 rfl rfl
abbrev b_Model_numbers : ByteArray := prog_14_method_90_code
def y_Model_numbers : MethodName := ⟨R_Model, "numbers", "(III)J"⟩
abbrev w_Model_numbers : List Cond := .code y_Model_numbers b_Model_numbers 6 (some .long) :: tw_T
set_option maxRecDepth 100000 in
theorem cw_Model_numbers : Cond.code y_Model_numbers b_Model_numbers 6 (some .long) ∈ tw_T := tw_i11 72 rfl rfl
abbrev b_Model_values : ByteArray := prog_14_method_93_code
def y_Model_values : MethodName := ⟨R_Model, "values", "(IJJ)J"⟩
abbrev w_Model_values : List Cond := .code y_Model_values b_Model_values 8 (some .long) :: tw_T
set_option maxRecDepth 100000 in
theorem cw_Model_values : Cond.code y_Model_values b_Model_values 8 (some .long) ∈ tw_T := tw_i11 78 rfl rfl
abbrev b_Model_holds : ByteArray := prog_14_method_94_code
def y_Model_holds : MethodName := ⟨R_Model, "holds", "(JJ)Z"⟩
abbrev w_Model_holds : List Cond := .code y_Model_holds b_Model_holds 6 (some .boolean) :: tw_T
set_option maxRecDepth 100000 in
theorem cw_Model_holds : Cond.code y_Model_holds b_Model_holds 6 (some .boolean) ∈ tw_T := tw_i11 82 rfl rfl
abbrev b_Model_joined : ByteArray := prog_14_method_95_code
def y_Model_joined : MethodName := ⟨R_Model, "joined", "(JJ)J"⟩
abbrev w_Model_joined : List Cond := .code y_Model_joined b_Model_joined 9 (some .long) :: tw_T
set_option maxRecDepth 100000 in
theorem cw_Model_joined : Cond.code y_Model_joined b_Model_joined 9 (some .long) ∈ tw_T := tw_i11 86 rfl rfl
abbrev b_Model_sayFlat : ByteArray := prog_14_method_22_code
def y_Model_sayFlat : MethodName := ⟨R_Model, "sayFlat", "(J)V"⟩
abbrev w_Model_sayFlat : List Cond := .code y_Model_sayFlat b_Model_sayFlat 4 none :: tw_T
set_option maxRecDepth 100000 in
theorem cw_Model_sayFlat : Cond.code y_Model_sayFlat b_Model_sayFlat 4 none ∈ tw_T := tw_i11 90 rfl rfl
abbrev b_Model_sayNumber : ByteArray := prog_14_method_21_code
def y_Model_sayNumber : MethodName := ⟨R_Model, "sayNumber", "(I)V"⟩
abbrev w_Model_sayNumber : List Cond := .code y_Model_sayNumber b_Model_sayNumber 4 none :: tw_T
set_option maxRecDepth 100000 in
theorem cw_Model_sayNumber : Cond.code y_Model_sayNumber b_Model_sayNumber 4 none ∈ tw_T := tw_i11 94 rfl rfl
abbrev b_Model_say : ByteArray := prog_14_method_20_code
def y_Model_say : MethodName := ⟨R_Model, "say", "(I)V"⟩
abbrev w_Model_say : List Cond := .code y_Model_say b_Model_say 2 none :: tw_T
set_option maxRecDepth 100000 in
theorem cw_Model_say : Cond.code y_Model_say b_Model_say 2 none ∈ tw_T := tw_i11 98 rfl rfl
abbrev b_Model_makes : ByteArray := prog_14_method_61_code
def y_Model_makes : MethodName := ⟨R_Model, "makes", "(I)Z"⟩
abbrev w_Model_makes : List Cond := .code y_Model_makes b_Model_makes 2 (some .boolean) :: tw_T
set_option maxRecDepth 100000 in
theorem cw_Model_makes : Cond.code y_Model_makes b_Model_makes 2 (some .boolean) ∈ tw_T := tw_i11 105 rfl rfl
abbrev b_Model_listed : ByteArray := prog_14_method_91_code
def y_Model_listed : MethodName := ⟨R_Model, "listed", "(I)J"⟩
abbrev w_Model_listed : List Cond := .code y_Model_listed b_Model_listed 5 (some .long) :: tw_T
set_option maxRecDepth 100000 in
theorem cw_Model_listed : Cond.code y_Model_listed b_Model_listed 5 (some .long) ∈ tw_T := tw_i11 109 rfl rfl
abbrev b_Model_putAll : ByteArray := prog_14_method_92_code
def y_Model_putAll : MethodName := ⟨R_Model, "putAll", "(J)V"⟩
abbrev w_Model_putAll : List Cond := .code y_Model_putAll b_Model_putAll 4 none :: tw_T
set_option maxRecDepth 100000 in
theorem cw_Model_putAll : Cond.code y_Model_putAll b_Model_putAll 4 none ∈ tw_T := tw_i11 113 rfl rfl
abbrev b_Model_named : ByteArray := prog_14_method_96_code
def y_Model_named : MethodName := ⟨R_Model, "named", "(IJJ)J"⟩
abbrev w_Model_named : List Cond := .code y_Model_named b_Model_named 8 (some .long) :: tw_T
set_option maxRecDepth 100000 in
theorem cw_Model_named : Cond.code y_Model_named b_Model_named 8 (some .long) ∈ tw_T := tw_i11 117 rfl rfl
abbrev b_Model_make : ByteArray := prog_14_method_69_code
def y_Model_make : MethodName := ⟨R_Model, "make", "(JJ)J"⟩
abbrev w_Model_make : List Cond := .code y_Model_make b_Model_make 8 (some .long) :: tw_T
set_option maxRecDepth 100000 in
theorem cw_Model_make : Cond.code y_Model_make b_Model_make 8 (some .long) ∈ tw_T := tw_i11 121 rfl rfl
abbrev b_Model_local : ByteArray := prog_14_method_70_code
def y_Model_local : MethodName := ⟨R_Model, "local", "(J)J"⟩
abbrev w_Model_local : List Cond := .code y_Model_local b_Model_local 5 (some .long) :: tw_T
set_option maxRecDepth 100000 in
theorem cw_Model_local : Cond.code y_Model_local b_Model_local 5 (some .long) ∈ tw_T := tw_i11 125 rfl rfl
abbrev b_Model_defined : ByteArray := prog_14_method_97_code
def y_Model_defined : MethodName := ⟨R_Model, "defined", "(IJ)J"⟩
abbrev w_Model_defined : List Cond := .code y_Model_defined b_Model_defined 9 (some .long) :: tw_T
set_option maxRecDepth 100000 in
theorem cw_Model_defined : Cond.code y_Model_defined b_Model_defined 9 (some .long) ∈ tw_T := tw_i11 129 rfl rfl
abbrev b_Model_running : ByteArray := prog_14_method_98_code
def y_Model_running : MethodName := ⟨R_Model, "running", "(IJJJ)J"⟩
abbrev w_Model_running : List Cond := .code y_Model_running b_Model_running 9 (some .long) :: tw_T
set_option maxRecDepth 100000 in
theorem cw_Model_running : Cond.code y_Model_running b_Model_running 9 (some .long) ∈ tw_T := tw_i11 133 rfl rfl
abbrev b_Model_repeated : ByteArray := prog_14_method_78_code
def y_Model_repeated : MethodName := ⟨R_Model, "repeated", "(IJ)J"⟩
abbrev w_Model_repeated : List Cond := .code y_Model_repeated b_Model_repeated 8 (some .long) :: tw_T
set_option maxRecDepth 100000 in
theorem cw_Model_repeated : Cond.code y_Model_repeated b_Model_repeated 8 (some .long) ∈ tw_T := tw_i11 137 rfl rfl
abbrev b_Model_whiled : ByteArray := prog_14_method_79_code
def y_Model_whiled : MethodName := ⟨R_Model, "whiled", "(JJ)J"⟩
abbrev w_Model_whiled : List Cond := .code y_Model_whiled b_Model_whiled 8 (some .long) :: tw_T
set_option maxRecDepth 100000 in
theorem cw_Model_whiled : Cond.code y_Model_whiled b_Model_whiled 8 (some .long) ∈ tw_T := tw_i11 141 rfl rfl
abbrev b_Model_forEach : ByteArray := prog_14_method_80_code
def y_Model_forEach : MethodName := ⟨R_Model, "forEach", "(JJZ)J"⟩
abbrev w_Model_forEach : List Cond := .code y_Model_forEach b_Model_forEach 13 (some .long) :: tw_T
set_option maxRecDepth 100000 in
theorem cw_Model_forEach : Cond.code y_Model_forEach b_Model_forEach 13 (some .long) ∈ tw_T := tw_i11 145 rfl rfl
abbrev b_Model_asked : ByteArray := prog_14_method_75_code
def y_Model_asked : MethodName := ⟨R_Model, "asked", "(IJ)J"⟩
abbrev w_Model_asked : List Cond := .code y_Model_asked b_Model_asked 7 (some .long) :: tw_T
set_option maxRecDepth 100000 in
theorem cw_Model_asked : Cond.code y_Model_asked b_Model_asked 7 (some .long) ∈ tw_T := tw_i11 149 rfl rfl
abbrev b_Model_caught : ByteArray := prog_14_method_76_code
def y_Model_caught : MethodName := ⟨R_Model, "caught", "(JJ)J"⟩
abbrev w_Model_caught : List Cond := .code y_Model_caught b_Model_caught 16 (some .long) :: tw_T
set_option maxRecDepth 100000 in
theorem cw_Model_caught : Cond.code y_Model_caught b_Model_caught 16 (some .long) ∈ tw_T := tw_i11 153 rfl rfl
abbrev b_Model_throwing : ByteArray := prog_14_method_77_code
def y_Model_throwing : MethodName := ⟨R_Model, "throwing", "(J)J"⟩
abbrev w_Model_throwing : List Cond := .code y_Model_throwing b_Model_throwing 4 (some .long) :: tw_T
set_option maxRecDepth 100000 in
theorem cw_Model_throwing : Cond.code y_Model_throwing b_Model_throwing 4 (some .long) ∈ tw_T := tw_i11 158 rfl rfl
abbrev b_Model_show : ByteArray := prog_14_method_23_code
def y_Model_show : MethodName := ⟨R_Model, "show", "(JZ)V"⟩
abbrev w_Model_show : List Cond := .code y_Model_show b_Model_show 9 none :: tw_T
set_option maxRecDepth 100000 in
theorem cw_Model_show : Cond.code y_Model_show b_Model_show 9 none ∈ tw_T := tw_i11 162 rfl rfl
abbrev b_Model_tellOut : ByteArray := prog_14_method_99_code
def y_Model_tellOut : MethodName := ⟨R_Model, "tellOut", "(I)V"⟩
abbrev w_Model_tellOut : List Cond := .code y_Model_tellOut b_Model_tellOut 2 none :: tw_T
set_option maxRecDepth 100000 in
theorem cw_Model_tellOut : Cond.code y_Model_tellOut b_Model_tellOut 2 none ∈ tw_T := tw_i11 166 rfl rfl
abbrev b_Model_signAhead : ByteArray := prog_14_method_62_code
def y_Model_signAhead : MethodName := ⟨R_Model, "signAhead", "(I)I"⟩
abbrev w_Model_signAhead : List Cond := .code y_Model_signAhead b_Model_signAhead 6 (some .int) :: tw_T
set_option maxRecDepth 100000 in
theorem cw_Model_signAhead : Cond.code y_Model_signAhead b_Model_signAhead 6 (some .int) ∈ tw_T := tw_i11 171 rfl rfl
abbrev b_Model_binary : ByteArray := prog_14_method_89_code
def y_Model_binary : MethodName := ⟨R_Model, "binary", "(IJJ)J"⟩
abbrev w_Model_binary : List Cond := .code y_Model_binary b_Model_binary 6 (some .long) :: tw_T
set_option maxRecDepth 100000 in
theorem cw_Model_binary : Cond.code y_Model_binary b_Model_binary 6 (some .long) ∈ tw_T := tw_i11 175 rfl rfl
abbrev b_Model_ended : ByteArray := prog_14_method_55_code
def y_Model_ended : MethodName := ⟨R_Model, "ended", "()V"⟩
abbrev w_Model_ended : List Cond := .code y_Model_ended b_Model_ended 1 none :: tw_T
set_option maxRecDepth 100000 in
theorem cw_Model_ended : Cond.code y_Model_ended b_Model_ended 1 none ∈ tw_T := tw_i11 179 rfl rfl
abbrev b_Model_fault : ByteArray := prog_14_method_51_code
def y_Model_fault : MethodName := ⟨R_Model, "fault", "(I)I"⟩
abbrev w_Model_fault : List Cond := .code y_Model_fault b_Model_fault 2 (some .int) :: tw_T
set_option maxRecDepth 100000 in
theorem cw_Model_fault : Cond.code y_Model_fault b_Model_fault 2 (some .int) ∈ tw_T := tw_i11 183 rfl rfl
abbrev b_Model_run : ByteArray := prog_14_method_52_code
def y_Model_run : MethodName := ⟨R_Model, "run", "(I)I"⟩
abbrev w_Model_run : List Cond := .code y_Model_run b_Model_run 3 (some .int) :: tw_T
set_option maxRecDepth 100000 in
theorem cw_Model_run : Cond.code y_Model_run b_Model_run 3 (some .int) ∈ tw_T := tw_i11 187 rfl rfl
abbrev b_Model_putBack : ByteArray := prog_14_method_28_code
def y_Model_putBack : MethodName := ⟨R_Model, "putBack", "()V"⟩
abbrev w_Model_putBack : List Cond := .code y_Model_putBack b_Model_putBack 2 none :: tw_T
set_option maxRecDepth 100000 in
theorem cw_Model_putBack : Cond.code y_Model_putBack b_Model_putBack 2 none ∈ tw_T := tw_i11 191 rfl rfl
abbrev b_Model_go : ByteArray := prog_14_method_53_code
def y_Model_go : MethodName := ⟨R_Model, "go", "(I)Z"⟩
abbrev w_Model_go : List Cond := .code y_Model_go b_Model_go 2 (some .boolean) :: tw_T
set_option maxRecDepth 100000 in
theorem cw_Model_go : Cond.code y_Model_go b_Model_go 2 (some .boolean) ∈ tw_T := tw_i11 195 rfl rfl
abbrev b_Model_stop : ByteArray := prog_14_method_54_code
def y_Model_stop : MethodName := ⟨R_Model, "stop", "()Z"⟩
abbrev w_Model_stop : List Cond := .code y_Model_stop b_Model_stop 1 (some .boolean) :: tw_T
set_option maxRecDepth 100000 in
theorem cw_Model_stop : Cond.code y_Model_stop b_Model_stop 1 (some .boolean) ∈ tw_T := tw_i11 199 rfl rfl
abbrev b_Model_look : ByteArray := prog_14_method_110_code
def y_Model_look : MethodName := ⟨R_Model, "look", "(I)I"⟩
abbrev w_Model_look : List Cond := .code y_Model_look b_Model_look 2 (some .int) :: tw_T
set_option maxRecDepth 100000 in
theorem cw_Model_look : Cond.code y_Model_look b_Model_look 2 (some .int) ∈ tw_T := tw_i11 203 rfl rfl
abbrev b_Model_place : ByteArray := prog_14_method_111_code
def y_Model_place : MethodName := ⟨R_Model, "place", "(III)I"⟩
abbrev w_Model_place : List Cond := .code y_Model_place b_Model_place 4 (some .int) :: tw_T
set_option maxRecDepth 100000 in
theorem cw_Model_place : Cond.code y_Model_place b_Model_place 4 (some .int) ∈ tw_T := tw_i11 207 rfl rfl
abbrev b_Model_isTurtle : ByteArray := prog_14_method_109_code
def y_Model_isTurtle : MethodName := ⟨R_Model, "isTurtle", "(I)Z"⟩
abbrev w_Model_isTurtle : List Cond := .code y_Model_isTurtle b_Model_isTurtle 2 (some .boolean) :: tw_T
set_option maxRecDepth 100000 in
theorem cw_Model_isTurtle : Cond.code y_Model_isTurtle b_Model_isTurtle 2 (some .boolean) ∈ tw_T := tw_i11 211 rfl rfl
abbrev b_Model_side : ByteArray := prog_14_method_112_code
def y_Model_side : MethodName := ⟨R_Model, "side", "(III)I"⟩
abbrev w_Model_side : List Cond := .code y_Model_side b_Model_side 4 (some .int) :: tw_T
set_option maxRecDepth 100000 in
theorem cw_Model_side : Cond.code y_Model_side b_Model_side 4 (some .int) ∈ tw_T := tw_i11 215 rfl rfl
abbrev b_Model_turtle : ByteArray := prog_14_method_113_code
def y_Model_turtle : MethodName := ⟨R_Model, "turtle", "(II)I"⟩
abbrev w_Model_turtle : List Cond := .code y_Model_turtle b_Model_turtle 3 (some .int) :: tw_T
set_option maxRecDepth 100000 in
theorem cw_Model_turtle : Cond.code y_Model_turtle b_Model_turtle 3 (some .int) ∈ tw_T := tw_i11 219 rfl rfl
abbrev b_Model_dot : ByteArray := prog_14_method_114_code
def y_Model_dot : MethodName := ⟨R_Model, "dot", "(II)I"⟩
abbrev w_Model_dot : List Cond := .code y_Model_dot b_Model_dot 3 (some .int) :: tw_T
set_option maxRecDepth 100000 in
theorem cw_Model_dot : Cond.code y_Model_dot b_Model_dot 3 (some .int) ∈ tw_T := tw_i11 223 rfl rfl
abbrev b_Model_out : ByteArray := prog_14_method_115_code
def y_Model_out : MethodName := ⟨R_Model, "out", "(I)I"⟩
abbrev w_Model_out : List Cond := .code y_Model_out b_Model_out 2 (some .int) :: tw_T
set_option maxRecDepth 100000 in
theorem cw_Model_out : Cond.code y_Model_out b_Model_out 2 (some .int) ∈ tw_T := tw_i11 227 rfl rfl
abbrev b_Model_name : ByteArray := prog_14_method_116_code
def y_Model_name : MethodName := ⟨R_Model, "name", "(II)I"⟩
abbrev w_Model_name : List Cond := .code y_Model_name b_Model_name 3 (some .int) :: tw_T
set_option maxRecDepth 100000 in
theorem cw_Model_name : Cond.code y_Model_name b_Model_name 3 (some .int) ∈ tw_T := tw_i11 231 rfl rfl
abbrev b_Model_value : ByteArray := prog_14_method_117_code
def y_Model_value : MethodName := ⟨R_Model, "value", "(II)I"⟩
abbrev w_Model_value : List Cond := .code y_Model_value b_Model_value 3 (some .int) :: tw_T
set_option maxRecDepth 100000 in
theorem cw_Model_value : Cond.code y_Model_value b_Model_value 3 (some .int) ∈ tw_T := tw_i11 235 rfl rfl
abbrev b_Model_procedure : ByteArray := prog_14_method_118_code
def y_Model_procedure : MethodName := ⟨R_Model, "procedure", "(II)I"⟩
abbrev w_Model_procedure : List Cond := .code y_Model_procedure b_Model_procedure 4 (some .int) :: tw_T
set_option maxRecDepth 100000 in
theorem cw_Model_procedure : Cond.code y_Model_procedure b_Model_procedure 4 (some .int) ∈ tw_T := tw_i11 239 rfl rfl
abbrev b_Model_call : ByteArray := prog_14_method_119_code
def y_Model_call : MethodName := ⟨R_Model, "call", "(II)I"⟩
abbrev w_Model_call : List Cond := .code y_Model_call b_Model_call 6 (some .int) :: tw_T
set_option maxRecDepth 100000 in
theorem cw_Model_call : Cond.code y_Model_call b_Model_call 6 (some .int) ∈ tw_T := tw_i12 3 rfl rfl
abbrev b_Model_sum : ByteArray := prog_14_method_120_code
def y_Model_sum : MethodName := ⟨R_Model, "sum", "()I"⟩
abbrev w_Model_sum : List Cond := .code y_Model_sum b_Model_sum 4 (some .int) :: tw_T
set_option maxRecDepth 100000 in
theorem cw_Model_sum : Cond.code y_Model_sum b_Model_sum 4 (some .int) ∈ tw_T := tw_i12 7 rfl rfl
