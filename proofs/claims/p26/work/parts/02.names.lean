/-! the classes: names, fields, types; by program out of the words (wip/names.py) -/
def R_TF : String := "TensorForge"
def F_TF : u_T := fun k => match k with
  | 0 => ("TensorForge", "machine", "LTensorForge$Machine;", true)
  | 1 => ("TensorForge", "latest", "LTensorForge$Run;", true)
  | 2 => ("TensorForge", "text", "LTensorForge$Text;", true)
  | 3 => ("TensorForge", "assembler", "LTensorForge$Assembler;", true)
  | 4 => ("TensorForge", "reader", "LTensorForge$NetworkReader;", true)
  | 5 => ("TensorForge", "compiler", "LTensorForge$Compiler;", true)
  | 6 => ("TensorForge", "printed", "LTensorForge$Line;", true)
  | 7 => ("TensorForge", "net", "LTensorForge$Network;", false)
  | 8 => ("TensorForge", "spareNet", "LTensorForge$Network;", false)
  | 9 => ("TensorForge", "words", "[J", false)
  | 10 => ("TensorForge", "spareWords", "[J", false)
  | _ => ("TensorForge", "count", "I", false)
def t_TF : Nat → FieldType := fun k => match k with
  | 0 => .object "TensorForge$Machine"
  | 1 => .object "TensorForge$Run"
  | 2 => .object "TensorForge$Text"
  | 3 => .object "TensorForge$Assembler"
  | 4 => .object "TensorForge$NetworkReader"
  | 5 => .object "TensorForge$Compiler"
  | 6 => .object "TensorForge$Line"
  | 7 => .object "TensorForge$Network"
  | 8 => .object "TensorForge$Network"
  | 9 => .array .long
  | 10 => .array .long
  | _ => .int
theorem n_TF : ∀ a, a < 12 → ∀ b, b < 12 → a ≠ b → (F_TF a).2.1 ≠ (F_TF b).2.1 := by decide +kernel
theorem t_TF_ok : ∀ k, k < 12 → parseFieldDescriptor (F_TF k).2.2.1 = some (t_TF k) := by decide +kernel
theorem i_TF : ∀ w ∈ u_ws R_TF F_TF 12, w ∈ mm_tb := mm_tb_in _ [452, 454, 456, 458, 460, 462, 464, 466, 468, 470, 472, 474] (by decide +kernel) (by decide +kernel)
def R_Network : String := "TensorForge$Network"
def F_Network : u_T := fun k => match k with
  | 0 => ("TensorForge$Network", "layers", "[LTensorForge$Layer;", true)
  | _ => ("TensorForge$Network", "tensors", "I", false)
def t_Network : Nat → FieldType := fun k => match k with
  | 0 => .array (.object "TensorForge$Layer")
  | _ => .int
theorem n_Network : ∀ a, a < 2 → ∀ b, b < 2 → a ≠ b → (F_Network a).2.1 ≠ (F_Network b).2.1 := by decide +kernel
theorem t_Network_ok : ∀ k, k < 2 → parseFieldDescriptor (F_Network k).2.2.1 = some (t_Network k) := by decide +kernel
theorem i_Network : ∀ w ∈ u_ws R_Network F_Network 2, w ∈ mm_tb := mm_tb_in _ [149, 151] (by decide +kernel) (by decide +kernel)
def R_Layer : String := "TensorForge$Layer"
def F_Layer : u_T := fun k => match k with
  | 0 => ("TensorForge$Layer", "kind", "I", false)
  | 1 => ("TensorForge$Layer", "one", "I", false)
  | 2 => ("TensorForge$Layer", "two", "I", false)
  | 3 => ("TensorForge$Layer", "kernelHeight", "I", false)
  | 4 => ("TensorForge$Layer", "kernelWidth", "I", false)
  | 5 => ("TensorForge$Layer", "step", "I", false)
  | 6 => ("TensorForge$Layer", "edge", "I", false)
  | 7 => ("TensorForge$Layer", "shift", "I", false)
  | 8 => ("TensorForge$Layer", "relu", "Z", false)
  | 9 => ("TensorForge$Layer", "address", "I", false)
  | 10 => ("TensorForge$Layer", "height", "I", false)
  | 11 => ("TensorForge$Layer", "width", "I", false)
  | 12 => ("TensorForge$Layer", "channels", "I", false)
  | 13 => ("TensorForge$Layer", "begin", "I", false)
  | _ => ("TensorForge$Layer", "spot", "I", false)
def t_Layer : Nat → FieldType := fun k => match k with
  | 0 => .int
  | 1 => .int
  | 2 => .int
  | 3 => .int
  | 4 => .int
  | 5 => .int
  | 6 => .int
  | 7 => .int
  | 8 => .boolean
  | 9 => .int
  | 10 => .int
  | 11 => .int
  | 12 => .int
  | 13 => .int
  | _ => .int
theorem n_Layer : ∀ a, a < 15 → ∀ b, b < 15 → a ≠ b → (F_Layer a).2.1 ≠ (F_Layer b).2.1 := by decide +kernel
theorem t_Layer_ok : ∀ k, k < 15 → parseFieldDescriptor (F_Layer k).2.2.1 = some (t_Layer k) := by decide +kernel
theorem i_Layer : ∀ w ∈ u_ws R_Layer F_Layer 15, w ∈ mm_tb := mm_tb_in _ [112, 114, 116, 118, 120, 122, 124, 126, 128, 130, 132, 134, 136, 138, 140] (by decide +kernel) (by decide +kernel)
def R_Machine : String := "TensorForge$Machine"
def F_Machine : u_T := fun k => match k with
  | 0 => ("TensorForge$Machine", "memory", "[B", true)
  | 1 => ("TensorForge$Machine", "cells", "[B", true)
  | 2 => ("TensorForge$Machine", "weights", "[B", true)
  | 3 => ("TensorForge$Machine", "sums", "[I", true)
  | 4 => ("TensorForge$Machine", "results", "[B", true)
  | 5 => ("TensorForge$Machine", "probe", "LTensorForge$Reaches;", true)
  | 6 => ("TensorForge$Machine", "side", "I", false)
  | 7 => ("TensorForge$Machine", "address", "I", false)
  | 8 => ("TensorForge$Machine", "rows", "I", false)
  | 9 => ("TensorForge$Machine", "columns", "I", false)
  | 10 => ("TensorForge$Machine", "a", "I", false)
  | 11 => ("TensorForge$Machine", "b", "I", false)
  | 12 => ("TensorForge$Machine", "stride", "I", false)
  | _ => ("TensorForge$Machine", "n", "I", false)
def t_Machine : Nat → FieldType := fun k => match k with
  | 0 => .array .byte
  | 1 => .array .byte
  | 2 => .array .byte
  | 3 => .array .int
  | 4 => .array .byte
  | 5 => .object "TensorForge$Reaches"
  | 6 => .int
  | 7 => .int
  | 8 => .int
  | 9 => .int
  | 10 => .int
  | 11 => .int
  | 12 => .int
  | _ => .int
theorem n_Machine : ∀ a, a < 14 → ∀ b, b < 14 → a ≠ b → (F_Machine a).2.1 ≠ (F_Machine b).2.1 := by decide +kernel
theorem t_Machine_ok : ∀ k, k < 14 → parseFieldDescriptor (F_Machine k).2.2.1 = some (t_Machine k) := by decide +kernel
theorem i_Machine : ∀ w ∈ u_ws R_Machine F_Machine 14, w ∈ mm_tb := mm_tb_in _ [201, 203, 205, 207, 209, 211, 213, 215, 217, 219, 221, 223, 225, 227] (by decide +kernel) (by decide +kernel)
def R_Reaches : String := "TensorForge$Reaches"
def F_Reaches : u_T := fun k => match k with
  | 0 => ("TensorForge$Reaches", "readFrom", "[I", true)
  | 1 => ("TensorForge$Reaches", "readTo", "[I", true)
  | 2 => ("TensorForge$Reaches", "writeFrom", "[I", true)
  | _ => ("TensorForge$Reaches", "writeTo", "[I", true)
def t_Reaches : Nat → FieldType := fun k => match k with
  | 0 => .array .int
  | 1 => .array .int
  | 2 => .array .int
  | _ => .array .int
theorem n_Reaches : ∀ a, a < 4 → ∀ b, b < 4 → a ≠ b → (F_Reaches a).2.1 ≠ (F_Reaches b).2.1 := by decide +kernel
theorem t_Reaches_ok : ∀ k, k < 4 → parseFieldDescriptor (F_Reaches k).2.2.1 = some (t_Reaches k) := by decide +kernel
theorem i_Reaches : ∀ w ∈ u_ws R_Reaches F_Reaches 4, w ∈ mm_tb := mm_tb_in _ [172, 174, 176, 178] (by decide +kernel) (by decide +kernel)
def R_Run : String := "TensorForge$Run"
def F_Run : u_T := fun k => match k with
  | 0 => ("TensorForge$Run", "machine", "LTensorForge$Machine;", true)
  | 1 => ("TensorForge$Run", "told", "[I", true)
  | 2 => ("TensorForge$Run", "words", "[J", true)
  | 3 => ("TensorForge$Run", "began", "[I", true)
  | 4 => ("TensorForge$Run", "ended", "[I", true)
  | 5 => ("TensorForge$Run", "next", "[I", true)
  | 6 => ("TensorForge$Run", "underWay", "[I", true)
  | 7 => ("TensorForge$Run", "reaches", "[LTensorForge$Reaches;", true)
  | 8 => ("TensorForge$Run", "candidate", "LTensorForge$Reaches;", false)
  | _ => ("TensorForge$Run", "count", "I", false)
def t_Run : Nat → FieldType := fun k => match k with
  | 0 => .object "TensorForge$Machine"
  | 1 => .array .int
  | 2 => .array .long
  | 3 => .array .int
  | 4 => .array .int
  | 5 => .array .int
  | 6 => .array .int
  | 7 => .array (.object "TensorForge$Reaches")
  | 8 => .object "TensorForge$Reaches"
  | _ => .int
theorem n_Run : ∀ a, a < 10 → ∀ b, b < 10 → a ≠ b → (F_Run a).2.1 ≠ (F_Run b).2.1 := by decide +kernel
theorem t_Run_ok : ∀ k, k < 10 → parseFieldDescriptor (F_Run k).2.2.1 = some (t_Run k) := by decide +kernel
theorem i_Run : ∀ w ∈ u_ws R_Run F_Run 10, w ∈ mm_tb := mm_tb_in _ [254, 256, 258, 260, 262, 264, 266, 268, 270, 272] (by decide +kernel) (by decide +kernel)
def R_Text : String := "TensorForge$Text"
def F_Text : u_T := fun k => match k with
  | 0 => ("TensorForge$Text", "signs", "[C", true)
  | 1 => ("TensorForge$Text", "count", "I", false)
  | 2 => ("TensorForge$Text", "lineEnd", "I", false)
  | 3 => ("TensorForge$Text", "at", "I", false)
  | 4 => ("TensorForge$Text", "sort", "I", false)
  | 5 => ("TensorForge$Text", "from", "I", false)
  | _ => ("TensorForge$Text", "number", "I", false)
def t_Text : Nat → FieldType := fun k => match k with
  | 0 => .array .char
  | 1 => .int
  | 2 => .int
  | 3 => .int
  | 4 => .int
  | 5 => .int
  | _ => .int
theorem n_Text : ∀ a, a < 7 → ∀ b, b < 7 → a ≠ b → (F_Text a).2.1 ≠ (F_Text b).2.1 := by decide +kernel
theorem t_Text_ok : ∀ k, k < 7 → parseFieldDescriptor (F_Text k).2.2.1 = some (t_Text k) := by decide +kernel
theorem i_Text : ∀ w ∈ u_ws R_Text F_Text 7, w ∈ mm_tb := mm_tb_in _ [298, 300, 302, 304, 306, 308, 310] (by decide +kernel) (by decide +kernel)
def R_Assembler : String := "TensorForge$Assembler"
def F_Assembler : u_T := fun k => match k with
  | 0 => ("TensorForge$Assembler", "text", "LTensorForge$Text;", true)
  | 1 => ("TensorForge$Assembler", "made", "I", false)
  | 2 => ("TensorForge$Assembler", "built", "J", false)
  | _ => ("TensorForge$Assembler", "seen", "I", false)
def t_Assembler : Nat → FieldType := fun k => match k with
  | 0 => .object "TensorForge$Text"
  | 1 => .int
  | 2 => .long
  | _ => .int
theorem n_Assembler : ∀ a, a < 4 → ∀ b, b < 4 → a ≠ b → (F_Assembler a).2.1 ≠ (F_Assembler b).2.1 := by decide +kernel
theorem t_Assembler_ok : ∀ k, k < 4 → parseFieldDescriptor (F_Assembler k).2.2.1 = some (t_Assembler k) := by decide +kernel
theorem i_Assembler : ∀ w ∈ u_ws R_Assembler F_Assembler 4, w ∈ mm_tb := mm_tb_in _ [325, 327, 329, 331] (by decide +kernel) (by decide +kernel)
def R_NetworkReader : String := "TensorForge$NetworkReader"
def F_NetworkReader : u_T := fun k => match k with
  | 0 => ("TensorForge$NetworkReader", "text", "LTensorForge$Text;", true)
  | 1 => ("TensorForge$NetworkReader", "net", "LTensorForge$Network;", false)
  | 2 => ("TensorForge$NetworkReader", "nameFrom", "[I", true)
  | 3 => ("TensorForge$NetworkReader", "nameSize", "[I", true)
  | 4 => ("TensorForge$NetworkReader", "lineNameFrom", "I", false)
  | 5 => ("TensorForge$NetworkReader", "lineNameSize", "I", false)
  | 6 => ("TensorForge$NetworkReader", "allowed", "I", false)
  | 7 => ("TensorForge$NetworkReader", "needed", "I", false)
  | _ => ("TensorForge$NetworkReader", "seen", "I", false)
def t_NetworkReader : Nat → FieldType := fun k => match k with
  | 0 => .object "TensorForge$Text"
  | 1 => .object "TensorForge$Network"
  | 2 => .array .int
  | 3 => .array .int
  | 4 => .int
  | 5 => .int
  | 6 => .int
  | 7 => .int
  | _ => .int
theorem n_NetworkReader : ∀ a, a < 9 → ∀ b, b < 9 → a ≠ b → (F_NetworkReader a).2.1 ≠ (F_NetworkReader b).2.1 := by decide +kernel
theorem t_NetworkReader_ok : ∀ k, k < 9 → parseFieldDescriptor (F_NetworkReader k).2.2.1 = some (t_NetworkReader k) := by decide +kernel
theorem i_NetworkReader : ∀ w ∈ u_ws R_NetworkReader F_NetworkReader 9, w ∈ mm_tb := mm_tb_in _ [349, 351, 353, 355, 357, 359, 361, 363, 365] (by decide +kernel) (by decide +kernel)
def R_Compiler : String := "TensorForge$Compiler"
def F_Compiler : u_T := fun k => match k with
  | 0 => ("TensorForge$Compiler", "words", "[J", false)
  | 1 => ("TensorForge$Compiler", "made", "I", false)
  | 2 => ("TensorForge$Compiler", "side", "I", false)
  | 3 => ("TensorForge$Compiler", "layer", "LTensorForge$Layer;", false)
  | 4 => ("TensorForge$Compiler", "first", "LTensorForge$Layer;", false)
  | 5 => ("TensorForge$Compiler", "second", "LTensorForge$Layer;", false)
  | 6 => ("TensorForge$Compiler", "tile", "I", false)
  | 7 => ("TensorForge$Compiler", "channel", "I", false)
  | 8 => ("TensorForge$Compiler", "columns", "I", false)
  | 9 => ("TensorForge$Compiler", "row", "I", false)
  | 10 => ("TensorForge$Compiler", "start", "I", false)
  | 11 => ("TensorForge$Compiler", "places", "I", false)
  | 12 => ("TensorForge$Compiler", "group", "I", false)
  | 13 => ("TensorForge$Compiler", "kernelRow", "I", false)
  | 14 => ("TensorForge$Compiler", "kernelColumn", "I", false)
  | 15 => ("TensorForge$Compiler", "block", "I", false)
  | _ => ("TensorForge$Compiler", "depth", "I", false)
def t_Compiler : Nat → FieldType := fun k => match k with
  | 0 => .array .long
  | 1 => .int
  | 2 => .int
  | 3 => .object "TensorForge$Layer"
  | 4 => .object "TensorForge$Layer"
  | 5 => .object "TensorForge$Layer"
  | 6 => .int
  | 7 => .int
  | 8 => .int
  | 9 => .int
  | 10 => .int
  | 11 => .int
  | 12 => .int
  | 13 => .int
  | 14 => .int
  | 15 => .int
  | _ => .int
theorem n_Compiler : ∀ a, a < 17 → ∀ b, b < 17 → a ≠ b → (F_Compiler a).2.1 ≠ (F_Compiler b).2.1 := by decide +kernel
theorem t_Compiler_ok : ∀ k, k < 17 → parseFieldDescriptor (F_Compiler k).2.2.1 = some (t_Compiler k) := by decide +kernel
theorem i_Compiler : ∀ w ∈ u_ws R_Compiler F_Compiler 17, w ∈ mm_tb := mm_tb_in _ [392, 394, 396, 398, 400, 402, 404, 406, 408, 410, 412, 414, 416, 418, 420, 422, 424] (by decide +kernel) (by decide +kernel)
def R_Line : String := "TensorForge$Line"
def F_Line : u_T := fun k => match k with
  | 0 => ("TensorForge$Line", "signs", "[C", true)
  | _ => ("TensorForge$Line", "count", "I", false)
def t_Line : Nat → FieldType := fun k => match k with
  | 0 => .array .char
  | _ => .int
theorem n_Line : ∀ a, a < 2 → ∀ b, b < 2 → a ≠ b → (F_Line a).2.1 ≠ (F_Line b).2.1 := by decide +kernel
theorem t_Line_ok : ∀ k, k < 2 → parseFieldDescriptor (F_Line k).2.2.1 = some (t_Line k) := by decide +kernel
theorem i_Line : ∀ w ∈ u_ws R_Line F_Line 2, w ∈ mm_tb := mm_tb_in _ [435, 437] (by decide +kernel) (by decide +kernel)
def R_Md : String := "TensorForgeModel"
def F_Md : u_T := fun k => match k with
  | 0 => ("TensorForgeModel", "thrown", "I", false)
  | 1 => ("TensorForgeModel", "side", "I", false)
  | 2 => ("TensorForgeModel", "memory", "[I", true)
  | 3 => ("TensorForgeModel", "cells", "[I", true)
  | 4 => ("TensorForgeModel", "weights", "[I", true)
  | 5 => ("TensorForgeModel", "sums", "[I", true)
  | 6 => ("TensorForgeModel", "results", "[I", true)
  | 7 => ("TensorForgeModel", "length", "I", false)
  | 8 => ("TensorForgeModel", "words", "[J", true)
  | 9 => ("TensorForgeModel", "made", "[J", true)
  | 10 => ("TensorForgeModel", "makes", "I", false)
  | 11 => ("TensorForgeModel", "field", "[I", true)
  | 12 => ("TensorForgeModel", "reads", "[I", true)
  | 13 => ("TensorForgeModel", "writes", "[I", true)
  | 14 => ("TensorForgeModel", "stopped", "I", false)
  | 15 => ("TensorForgeModel", "culprit", "I", false)
  | 16 => ("TensorForgeModel", "stopCycle", "I", false)
  | 17 => ("TensorForgeModel", "worked", "[I", true)
  | 18 => ("TensorForgeModel", "tokens", "[I", true)
  | 19 => ("TensorForgeModel", "ran", "I", false)
  | 20 => ("TensorForgeModel", "units", "[I", true)
  | 21 => ("TensorForgeModel", "begins", "[I", true)
  | 22 => ("TensorForgeModel", "ends", "[I", true)
  | 23 => ("TensorForgeModel", "pushed", "[Z", true)
  | 24 => ("TensorForgeModel", "flags", "[I", true)
  | 25 => ("TensorForgeModel", "under", "[I", true)
  | 26 => ("TensorForgeModel", "next", "[I", true)
  | 27 => ("TensorForgeModel", "signs", "[I", true)
  | 28 => ("TensorForgeModel", "size", "I", false)
  | 29 => ("TensorForgeModel", "names", "[J", true)
  | 30 => ("TensorForgeModel", "token", "I", false)
  | 31 => ("TensorForgeModel", "tokenValue", "I", false)
  | 32 => ("TensorForgeModel", "at", "I", false)
  | 33 => ("TensorForgeModel", "lineEnd", "I", false)
  | 34 => ("TensorForgeModel", "listed", "I", false)
  | 35 => ("TensorForgeModel", "list", "[I", true)
  | 36 => ("TensorForgeModel", "tensors", "I", false)
  | 37 => ("TensorForgeModel", "heights", "[I", true)
  | 38 => ("TensorForgeModel", "widths", "[I", true)
  | 39 => ("TensorForgeModel", "channels", "[I", true)
  | 40 => ("TensorForgeModel", "froms", "[I", true)
  | 41 => ("TensorForgeModel", "kinds", "[I", true)
  | 42 => ("TensorForgeModel", "ones", "[I", true)
  | 43 => ("TensorForgeModel", "twos", "[I", true)
  | 44 => ("TensorForgeModel", "kernelRows", "[I", true)
  | 45 => ("TensorForgeModel", "kernelColumns", "[I", true)
  | 46 => ("TensorForgeModel", "steps", "[I", true)
  | 47 => ("TensorForgeModel", "edges", "[I", true)
  | 48 => ("TensorForgeModel", "shifts", "[I", true)
  | 49 => ("TensorForgeModel", "parameters", "[I", true)
  | 50 => ("TensorForgeModel", "tiles", "I", false)
  | 51 => ("TensorForgeModel", "groups", "I", false)
  | 52 => ("TensorForgeModel", "places", "I", false)
  | 53 => ("TensorForgeModel", "wide", "I", false)
  | 54 => ("TensorForgeModel", "firstPlace", "I", false)
  | 55 => ("TensorForgeModel", "tileRow", "I", false)
  | 56 => ("TensorForgeModel", "firstChannel", "I", false)
  | 57 => ("TensorForgeModel", "loads", "I", false)
  | 58 => ("TensorForgeModel", "ownReads", "[I", true)
  | 59 => ("TensorForgeModel", "ownWrites", "[I", true)
  | 60 => ("TensorForgeModel", "loadsLeft", "I", false)
  | 61 => ("TensorForgeModel", "wordCode", "J", false)
  | 62 => ("TensorForgeModel", "tensorNames", "[J", true)
  | 63 => ("TensorForgeModel", "told", "[I", true)
  | 64 => ("TensorForgeModel", "toldName", "J", false)
  | 65 => ("TensorForgeModel", "toldBits", "I", false)
  | 66 => ("TensorForgeModel", "keptTensors", "I", false)
  | 67 => ("TensorForgeModel", "kept", "[I", true)
  | _ => ("TensorForgeModel", "placesBefore", "[I", true)
def t_Md : Nat → FieldType := fun k => match k with
  | 0 => .int
  | 1 => .int
  | 2 => .array .int
  | 3 => .array .int
  | 4 => .array .int
  | 5 => .array .int
  | 6 => .array .int
  | 7 => .int
  | 8 => .array .long
  | 9 => .array .long
  | 10 => .int
  | 11 => .array .int
  | 12 => .array .int
  | 13 => .array .int
  | 14 => .int
  | 15 => .int
  | 16 => .int
  | 17 => .array .int
  | 18 => .array .int
  | 19 => .int
  | 20 => .array .int
  | 21 => .array .int
  | 22 => .array .int
  | 23 => .array .boolean
  | 24 => .array .int
  | 25 => .array .int
  | 26 => .array .int
  | 27 => .array .int
  | 28 => .int
  | 29 => .array .long
  | 30 => .int
  | 31 => .int
  | 32 => .int
  | 33 => .int
  | 34 => .int
  | 35 => .array .int
  | 36 => .int
  | 37 => .array .int
  | 38 => .array .int
  | 39 => .array .int
  | 40 => .array .int
  | 41 => .array .int
  | 42 => .array .int
  | 43 => .array .int
  | 44 => .array .int
  | 45 => .array .int
  | 46 => .array .int
  | 47 => .array .int
  | 48 => .array .int
  | 49 => .array .int
  | 50 => .int
  | 51 => .int
  | 52 => .int
  | 53 => .int
  | 54 => .int
  | 55 => .int
  | 56 => .int
  | 57 => .int
  | 58 => .array .int
  | 59 => .array .int
  | 60 => .int
  | 61 => .long
  | 62 => .array .long
  | 63 => .array .int
  | 64 => .long
  | 65 => .int
  | 66 => .int
  | 67 => .array .int
  | _ => .array .int
theorem n_Md : ∀ a, a < 69 → ∀ b, b < 69 → a ≠ b → (F_Md a).2.1 ≠ (F_Md b).2.1 := by decide +kernel
theorem t_Md_ok : ∀ k, k < 69 → parseFieldDescriptor (F_Md k).2.2.1 = some (t_Md k) := by decide +kernel
theorem i_Md : ∀ w ∈ u_ws R_Md F_Md 69, w ∈ mm_tb := mm_tb_in _ [1680, 1682, 1684, 1686, 1688, 1690, 1692, 1694, 1696, 1698, 1700, 1702, 1704, 1706, 1708, 1710, 1712, 1714, 1716, 1718, 1720, 1722, 1724, 1726, 1728, 1730, 1732, 1734, 1736, 1738, 1740, 1742, 1744, 1746, 1748, 1750, 1752, 1754, 1756, 1758, 1760, 1762, 1764, 1766, 1768, 1770, 1772, 1774, 1776, 1778, 1780, 1782, 1784, 1786, 1788, 1790, 1792, 1794, 1796, 1798, 1800, 1802, 1804, 1806, 1808, 1810, 1812, 1814, 1816] (by decide +kernel) (by decide +kernel)
abbrev mm_cl : List vw_C := [(R_TF, F_TF, 12), (R_Network, F_Network, 2), (R_Layer, F_Layer, 15), (R_Machine, F_Machine, 14), (R_Reaches, F_Reaches, 4), (R_Run, F_Run, 10), (R_Text, F_Text, 7), (R_Assembler, F_Assembler, 4), (R_NetworkReader, F_NetworkReader, 9), (R_Compiler, F_Compiler, 17), (R_Line, F_Line, 2), (R_Md, F_Md, 69)]
-- class 0: TensorForge
-- class 1: TensorForge$Network
-- class 2: TensorForge$Layer
-- class 3: TensorForge$Machine
-- class 4: TensorForge$Reaches
-- class 5: TensorForge$Run
-- class 6: TensorForge$Text
-- class 7: TensorForge$Assembler
-- class 8: TensorForge$NetworkReader
-- class 9: TensorForge$Compiler
-- class 10: TensorForge$Line
-- class 11: TensorForgeModel
abbrev mm_ty : List FieldType := [.object "TensorForge$Layer", .long, .byte, .int, .object "TensorForge$Reaches", .char, .boolean]
/-! string constants: the texts; (class, entry, number of the text) -/
def mm_txt : List String := ["cells", "weights", "clear", "sums", "multiply", "combine", "narrow", "store", "wait", "?", "at", "by", "x", "a", "b", "step", "n", "pop", "before", "behind", "push", "conv", "pool", "add", "outputs", "edge", "shift", "relu", "as", "input", "a side is 2 to 8", "four bytes aren't there", "there is no such buffer", "there is no such place", "there is no such word", "a program has at most 600 words", "there are not so many words", "there is no such field", "a byte is no sign of a text", "a text has at most 1500 signs", "there are not so many signs", "there is no such word or sign", "pop before", "pop behind", "push before", "push behind", "nothing such is told of a run", "no program has run", "the program had no such word", "nothing such is told of an instruction", "an input can't have this form", "there is no such tensor", "a layer can't be so", "there is no room for the layer", "nothing such is told of a tensor", "the network has no room in a program", "there is no such line or sign", "a tensor would end beyond 2048", "there is no such unit or cycle"]
def mm_strs : List (String × Nat × Nat) := [("TensorForge$Words", 35, 0), ("TensorForge$Words", 37, 1), ("TensorForge$Words", 39, 2), ("TensorForge$Words", 41, 3), ("TensorForge$Words", 43, 4), ("TensorForge$Words", 45, 5), ("TensorForge$Words", 47, 6), ("TensorForge$Words", 49, 7), ("TensorForge$Words", 51, 8), ("TensorForge$Words", 53, 9), ("TensorForge$Assembler", 65, 10), ("TensorForge$Assembler", 71, 11), ("TensorForge$Assembler", 73, 12), ("TensorForge$Assembler", 78, 13), ("TensorForge$Assembler", 80, 14), ("TensorForge$Assembler", 82, 15), ("TensorForge$Assembler", 84, 16), ("TensorForge$Assembler", 86, 17), ("TensorForge$Assembler", 107, 18), ("TensorForge$Assembler", 109, 19), ("TensorForge$Assembler", 92, 20), ("TensorForge$NetworkReader", 110, 21), ("TensorForge$NetworkReader", 114, 22), ("TensorForge$NetworkReader", 116, 23), ("TensorForge$NetworkReader", 142, 11), ("TensorForge$NetworkReader", 144, 24), ("TensorForge$NetworkReader", 146, 10), ("TensorForge$NetworkReader", 148, 15), ("TensorForge$NetworkReader", 150, 25), ("TensorForge$NetworkReader", 152, 26), ("TensorForge$NetworkReader", 154, 27), ("TensorForge$NetworkReader", 156, 28), ("TensorForge$NetworkReader", 85, 29), ("TensorForge$NetworkReader", 97, 12), ("TensorForge", 89, 30), ("TensorForge", 103, 31), ("TensorForge", 112, 32), ("TensorForge", 118, 33), ("TensorForge", 124, 34), ("TensorForge", 128, 35), ("TensorForge", 131, 36), ("TensorForge", 135, 37), ("TensorForge", 149, 38), ("TensorForge", 154, 39), ("TensorForge", 160, 40), ("TensorForge", 172, 41), ("TensorForge$Line", 33, 10), ("TensorForge$Line", 43, 11), ("TensorForge$Line", 120, 12), ("TensorForge$Line", 49, 13), ("TensorForge$Line", 51, 14), ("TensorForge$Line", 53, 15), ("TensorForge$Line", 55, 16), ("TensorForge$Line", 57, 42), ("TensorForge$Line", 63, 43), ("TensorForge$Line", 65, 44), ("TensorForge$Line", 67, 45), ("TensorForge", 189, 46), ("TensorForge", 335, 47), ("TensorForge", 195, 48), ("TensorForge", 197, 49), ("TensorForge", 214, 50), ("TensorForge", 254, 51), ("TensorForge", 329, 52), ("TensorForge", 331, 53), ("TensorForge", 256, 54), ("TensorForge", 286, 55), ("TensorForge", 299, 56), ("TensorForge$Line", 78, 21), ("TensorForge$Line", 93, 24), ("TensorForge$Line", 101, 22), ("TensorForge$Line", 103, 23), ("TensorForge$Line", 112, 29), ("TensorForge$Line", 131, 25), ("TensorForge$Line", 135, 26), ("TensorForge$Line", 140, 27), ("TensorForge", 309, 57), ("TensorForge", 338, 58)]
def mm_byt : List (List Int32) := [[99, 101, 108, 108, 115], [119, 101, 105, 103, 104, 116, 115], [99, 108, 101, 97, 114], [115, 117, 109, 115], [109, 117, 108, 116, 105, 112, 108, 121], [99, 111, 109, 98, 105, 110, 101], [110, 97, 114, 114, 111, 119], [115, 116, 111, 114, 101], [119, 97, 105, 116], [63], [97, 116], [98, 121], [120], [97], [98], [115, 116, 101, 112], [110], [112, 111, 112], [98, 101, 102, 111, 114, 101], [98, 101, 104, 105, 110, 100], [112, 117, 115, 104], [99, 111, 110, 118], [112, 111, 111, 108], [97, 100, 100], [111, 117, 116, 112, 117, 116, 115], [101, 100, 103, 101], [115, 104, 105, 102, 116], [114, 101, 108, 117], [97, 115], [105, 110, 112, 117, 116], [97, 32, 115, 105, 100, 101, 32, 105, 115, 32, 50, 32, 116, 111, 32, 56], [102, 111, 117, 114, 32, 98, 121, 116, 101, 115, 32, 97, 114, 101, 110, 39, 116, 32, 116, 104, 101, 114, 101], [116, 104, 101, 114, 101, 32, 105, 115, 32, 110, 111, 32, 115, 117, 99, 104, 32, 98, 117, 102, 102, 101, 114], [116, 104, 101, 114, 101, 32, 105, 115, 32, 110, 111, 32, 115, 117, 99, 104, 32, 112, 108, 97, 99, 101], [116, 104, 101, 114, 101, 32, 105, 115, 32, 110, 111, 32, 115, 117, 99, 104, 32, 119, 111, 114, 100], [97, 32, 112, 114, 111, 103, 114, 97, 109, 32, 104, 97, 115, 32, 97, 116, 32, 109, 111, 115, 116, 32, 54, 48, 48, 32, 119, 111, 114, 100, 115], [116, 104, 101, 114, 101, 32, 97, 114, 101, 32, 110, 111, 116, 32, 115, 111, 32, 109, 97, 110, 121, 32, 119, 111, 114, 100, 115], [116, 104, 101, 114, 101, 32, 105, 115, 32, 110, 111, 32, 115, 117, 99, 104, 32, 102, 105, 101, 108, 100], [97, 32, 98, 121, 116, 101, 32, 105, 115, 32, 110, 111, 32, 115, 105, 103, 110, 32, 111, 102, 32, 97, 32, 116, 101, 120, 116], [97, 32, 116, 101, 120, 116, 32, 104, 97, 115, 32, 97, 116, 32, 109, 111, 115, 116, 32, 49, 53, 48, 48, 32, 115, 105, 103, 110, 115], [116, 104, 101, 114, 101, 32, 97, 114, 101, 32, 110, 111, 116, 32, 115, 111, 32, 109, 97, 110, 121, 32, 115, 105, 103, 110, 115], [116, 104, 101, 114, 101, 32, 105, 115, 32, 110, 111, 32, 115, 117, 99, 104, 32, 119, 111, 114, 100, 32, 111, 114, 32, 115, 105, 103, 110], [112, 111, 112, 32, 98, 101, 102, 111, 114, 101], [112, 111, 112, 32, 98, 101, 104, 105, 110, 100], [112, 117, 115, 104, 32, 98, 101, 102, 111, 114, 101], [112, 117, 115, 104, 32, 98, 101, 104, 105, 110, 100], [110, 111, 116, 104, 105, 110, 103, 32, 115, 117, 99, 104, 32, 105, 115, 32, 116, 111, 108, 100, 32, 111, 102, 32, 97, 32, 114, 117, 110], [110, 111, 32, 112, 114, 111, 103, 114, 97, 109, 32, 104, 97, 115, 32, 114, 117, 110], [116, 104, 101, 32, 112, 114, 111, 103, 114, 97, 109, 32, 104, 97, 100, 32, 110, 111, 32, 115, 117, 99, 104, 32, 119, 111, 114, 100], [110, 111, 116, 104, 105, 110, 103, 32, 115, 117, 99, 104, 32, 105, 115, 32, 116, 111, 108, 100, 32, 111, 102, 32, 97, 110, 32, 105, 110, 115, 116, 114, 117, 99, 116, 105, 111, 110], [97, 110, 32, 105, 110, 112, 117, 116, 32, 99, 97, 110, 39, 116, 32, 104, 97, 118, 101, 32, 116, 104, 105, 115, 32, 102, 111, 114, 109], [116, 104, 101, 114, 101, 32, 105, 115, 32, 110, 111, 32, 115, 117, 99, 104, 32, 116, 101, 110, 115, 111, 114], [97, 32, 108, 97, 121, 101, 114, 32, 99, 97, 110, 39, 116, 32, 98, 101, 32, 115, 111], [116, 104, 101, 114, 101, 32, 105, 115, 32, 110, 111, 32, 114, 111, 111, 109, 32, 102, 111, 114, 32, 116, 104, 101, 32, 108, 97, 121, 101, 114], [110, 111, 116, 104, 105, 110, 103, 32, 115, 117, 99, 104, 32, 105, 115, 32, 116, 111, 108, 100, 32, 111, 102, 32, 97, 32, 116, 101, 110, 115, 111, 114], [116, 104, 101, 32, 110, 101, 116, 119, 111, 114, 107, 32, 104, 97, 115, 32, 110, 111, 32, 114, 111, 111, 109, 32, 105, 110, 32, 97, 32, 112, 114, 111, 103, 114, 97, 109], [116, 104, 101, 114, 101, 32, 105, 115, 32, 110, 111, 32, 115, 117, 99, 104, 32, 108, 105, 110, 101, 32, 111, 114, 32, 115, 105, 103, 110], [97, 32, 116, 101, 110, 115, 111, 114, 32, 119, 111, 117, 108, 100, 32, 101, 110, 100, 32, 98, 101, 121, 111, 110, 100, 32, 50, 48, 52, 56], [116, 104, 101, 114, 101, 32, 105, 115, 32, 110, 111, 32, 115, 117, 99, 104, 32, 117, 110, 105, 116, 32, 111, 114, 32, 99, 121, 99, 108, 101]]
def mm_len : List Nat := [5, 7, 5, 4, 8, 7, 6, 5, 4, 1, 2, 2, 1, 1, 1, 4, 1, 3, 6, 6, 4, 4, 4, 3, 7, 4, 5, 4, 2, 5, 16, 23, 23, 22, 21, 31, 27, 22, 27, 29, 27, 29, 10, 10, 11, 11, 29, 18, 28, 38, 29, 23, 19, 30, 32, 36, 29, 30, 30]
def mm_nw : List Cond := [(Cond.castable "java/lang/IllegalArgumentException" "java/lang/IllegalArgumentException"),
  (Cond.declares ({ cls := "java/lang/RuntimeException", name := "<init>", desc := "()V" } : MethodName)),
  (Cond.declares ({ cls := "java/lang/RuntimeException", name := "<init>", desc := "(Ljava/lang/String;)V" } : MethodName)),
  (Cond.declares ({ cls := "java/lang/Exception", name := "<init>", desc := "()V" } : MethodName)),
  (Cond.declares ({ cls := "java/lang/Exception", name := "<init>", desc := "(Ljava/lang/String;)V" } : MethodName)),
  (Cond.declares ({ cls := "java/lang/Throwable", name := "<init>", desc := "()V" } : MethodName)),
  (Cond.declares ({ cls := "java/lang/Throwable", name := "<init>", desc := "(Ljava/lang/String;)V" } : MethodName)),
  (Cond.castable "java/lang/IndexOutOfBoundsException" "java/lang/IndexOutOfBoundsException"),
  (Cond.castable "java/lang/UnsupportedOperationException" "java/lang/UnsupportedOperationException"),
  (Cond.castable "java/lang/IllegalStateException" "java/lang/IllegalStateException")]
theorem mm_nw_ok : ∀ w ∈ mm_nw, (∃ C T, w = Cond.castable C T) ∨ ∃ x, w = Cond.declares x := by
  intro w hw
  simp only [mm_nw, List.mem_cons, List.not_mem_nil, or_false] at hw
  rcases hw with rfl | rfl | rfl | rfl | rfl | rfl | rfl | rfl | rfl | rfl <;> first | exact Or.inl ⟨_, _, rfl⟩ | exact Or.inr ⟨_, rfl⟩
