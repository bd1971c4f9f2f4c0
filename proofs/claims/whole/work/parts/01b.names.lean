def RFa : String := "TableOrders$Factor"
def RFs : String := "TableOrders$Factors"
def RGr : String := "TableOrders$Graph"
def RSe : String := "TableOrders$Search"
def RSq : String := "TableOrders$Sequence"
def RWe : String := "TableOrders$Weights"
def RTo : String := "TableOrders"
def RMo : String := "TableOrdersModel"
def RJi : String := "java/lang/Integer"
def RJm : String := "java/lang/Math"
def RJa : String := "java/util/Arrays"
def RLa : String := "TableOrdersLaw"
def TFa : u_T := fun k => match k with
  | 0 => ("TableOrders$Factor", "names", "[I", true)
  | 1 => ("TableOrders$Factor", "steps", "[I", true)
  | 2 => ("TableOrders$Factor", "entries", "[I", true)
  | 3 => ("TableOrders$Factor", "powers", "[I", true)
  | 4 => ("TableOrders$Factor", "size", "I", false)
  | 5 => ("TableOrders$Factor", "cells", "I", false)
  | 6 => ("TableOrders$Factor", "times", "I", false)
  | _ => ("TableOrders$Factor", "next", "LTableOrders$Factor;", false)
def tyFa : Nat → FieldType := fun k => match k with
  | 0 => (.array .int)
  | 1 => (.array .int)
  | 2 => (.array .int)
  | 3 => (.array .int)
  | 4 => .int
  | 5 => .int
  | 6 => .int
  | _ => (.object "TableOrders$Factor")
theorem nmFa : ∀ a, a < 8 → ∀ b, b < 8 → a ≠ b → (TFa a).2.1 ≠ (TFa b).2.1 := by decide +kernel
theorem tyFa_ok : ∀ k, k < 8 → parseFieldDescriptor (TFa k).2.2.1 = some (tyFa k) := by decide +kernel
theorem inFa : ∀ w ∈ u_ws RFa TFa 8, w ∈ lw_tbl := by decide +kernel
def TFs : u_T := fun k => match k with
  | 0 => ("TableOrders$Factors", "graph", "LTableOrders$Graph;", true)
  | 1 => ("TableOrders$Factors", "byNumber", "[LTableOrders$Factor;", true)
  | 2 => ("TableOrders$Factors", "byLastName", "[LTableOrders$Factor;", true)
  | 3 => ("TableOrders$Factors", "count", "I", false)
  | _ => ("TableOrders$Factors", "copiesInAll", "I", false)
def tyFs : Nat → FieldType := fun k => match k with
  | 0 => (.object "TableOrders$Graph")
  | 1 => (.array (.object "TableOrders$Factor"))
  | 2 => (.array (.object "TableOrders$Factor"))
  | 3 => .int
  | _ => .int
theorem nmFs : ∀ a, a < 5 → ∀ b, b < 5 → a ≠ b → (TFs a).2.1 ≠ (TFs b).2.1 := by decide +kernel
theorem tyFs_ok : ∀ k, k < 5 → parseFieldDescriptor (TFs k).2.2.1 = some (tyFs k) := by decide +kernel
theorem inFs : ∀ w ∈ u_ws RFs TFs 5, w ∈ lw_tbl := by decide +kernel
def TGr : u_T := fun k => match k with
  | 0 => ("TableOrders$Graph", "values", "[I", true)
  | 1 => ("TableOrders$Graph", "neighbours", "[I", true)
  | 2 => ("TableOrders$Graph", "names", "I", false)
  | _ => ("TableOrders$Graph", "states", "I", false)
def tyGr : Nat → FieldType := fun k => match k with
  | 0 => (.array .int)
  | 1 => (.array .int)
  | 2 => .int
  | _ => .int
theorem nmGr : ∀ a, a < 4 → ∀ b, b < 4 → a ≠ b → (TGr a).2.1 ≠ (TGr b).2.1 := by decide +kernel
theorem tyGr_ok : ∀ k, k < 4 → parseFieldDescriptor (TGr k).2.2.1 = some (tyGr k) := by decide +kernel
theorem inGr : ∀ w ∈ u_ws RGr TGr 4, w ∈ lw_tbl := by decide +kernel
def TSe : u_T := fun k => match k with
  | 0 => ("TableOrders$Search", "graph", "LTableOrders$Graph;", true)
  | 1 => ("TableOrders$Search", "found", "[I", true)
  | 2 => ("TableOrders$Search", "cells", "[I", true)
  | 3 => ("TableOrders$Search", "least", "[I", true)
  | 4 => ("TableOrders$Search", "counted", "I", false)
  | _ => ("TableOrders$Search", "known", "Z", false)
def tySe : Nat → FieldType := fun k => match k with
  | 0 => (.object "TableOrders$Graph")
  | 1 => (.array .int)
  | 2 => (.array .int)
  | 3 => (.array .int)
  | 4 => .int
  | _ => .boolean
theorem nmSe : ∀ a, a < 6 → ∀ b, b < 6 → a ≠ b → (TSe a).2.1 ≠ (TSe b).2.1 := by decide +kernel
theorem tySe_ok : ∀ k, k < 6 → parseFieldDescriptor (TSe k).2.2.1 = some (tySe k) := by decide +kernel
theorem inSe : ∀ w ∈ u_ws RSe TSe 6, w ∈ lw_tbl := by decide +kernel
def TSq : u_T := fun k => match k with
  | 0 => ("TableOrders$Sequence", "graph", "LTableOrders$Graph;", true)
  | 1 => ("TableOrders$Sequence", "search", "LTableOrders$Search;", true)
  | 2 => ("TableOrders$Sequence", "places", "[I", true)
  | 3 => ("TableOrders$Sequence", "nameAt", "[I", true)
  | 4 => ("TableOrders$Sequence", "bagAt", "[I", true)
  | 5 => ("TableOrders$Sequence", "kind", "I", false)
  | 6 => ("TableOrders$Sequence", "width", "I", false)
  | 7 => ("TableOrders$Sequence", "fillInAll", "I", false)
  | 8 => ("TableOrders$Sequence", "cellsInAll", "I", false)
  | 9 => ("TableOrders$Sequence", "mostCells", "I", false)
  | _ => ("TableOrders$Sequence", "known", "Z", false)
def tySq : Nat → FieldType := fun k => match k with
  | 0 => (.object "TableOrders$Graph")
  | 1 => (.object "TableOrders$Search")
  | 2 => (.array .int)
  | 3 => (.array .int)
  | 4 => (.array .int)
  | 5 => .int
  | 6 => .int
  | 7 => .int
  | 8 => .int
  | 9 => .int
  | _ => .boolean
theorem nmSq : ∀ a, a < 11 → ∀ b, b < 11 → a ≠ b → (TSq a).2.1 ≠ (TSq b).2.1 := by decide +kernel
theorem tySq_ok : ∀ k, k < 11 → parseFieldDescriptor (TSq k).2.2.1 = some (tySq k) := by decide +kernel
theorem inSq : ∀ w ∈ u_ws RSq TSq 11, w ∈ lw_tbl := by decide +kernel
def TWe : u_T := fun k => match k with
  | 0 => ("TableOrders$Weights", "graph", "LTableOrders$Graph;", true)
  | 1 => ("TableOrders$Weights", "factors", "LTableOrders$Factors;", true)
  | 2 => ("TableOrders$Weights", "bound", "[I", true)
  | 3 => ("TableOrders$Weights", "chosen", "[I", true)
  | 4 => ("TableOrders$Weights", "products", "[J", true)
  | 5 => ("TableOrders$Weights", "byState", "[J", true)
  | 6 => ("TableOrders$Weights", "rankWeights", "[J", true)
  | 7 => ("TableOrders$Weights", "rankStates", "[I", true)
  | 8 => ("TableOrders$Weights", "ranked", "I", false)
  | 9 => ("TableOrders$Weights", "supported", "I", false)
  | 10 => ("TableOrders$Weights", "sum", "J", false)
  | 11 => ("TableOrders$Weights", "gatheredSum", "J", false)
  | 12 => ("TableOrders$Weights", "gatheredStates", "I", false)
  | _ => ("TableOrders$Weights", "known", "Z", false)
def tyWe : Nat → FieldType := fun k => match k with
  | 0 => (.object "TableOrders$Graph")
  | 1 => (.object "TableOrders$Factors")
  | 2 => (.array .int)
  | 3 => (.array .int)
  | 4 => (.array .long)
  | 5 => (.array .long)
  | 6 => (.array .long)
  | 7 => (.array .int)
  | 8 => .int
  | 9 => .int
  | 10 => .long
  | 11 => .long
  | 12 => .int
  | _ => .boolean
theorem nmWe : ∀ a, a < 14 → ∀ b, b < 14 → a ≠ b → (TWe a).2.1 ≠ (TWe b).2.1 := by decide +kernel
theorem tyWe_ok : ∀ k, k < 14 → parseFieldDescriptor (TWe k).2.2.1 = some (tyWe k) := by decide +kernel
theorem inWe : ∀ w ∈ u_ws RWe TWe 14, w ∈ lw_tbl := by decide +kernel
def TTo : u_T := fun k => match k with
  | 0 => ("TableOrders", "graph", "LTableOrders$Graph;", true)
  | 1 => ("TableOrders", "factors", "LTableOrders$Factors;", true)
  | 2 => ("TableOrders", "sequence", "LTableOrders$Sequence;", true)
  | 3 => ("TableOrders", "weights", "LTableOrders$Weights;", true)
  | _ => ("TableOrders", "room", "I", false)
def tyTo : Nat → FieldType := fun k => match k with
  | 0 => (.object "TableOrders$Graph")
  | 1 => (.object "TableOrders$Factors")
  | 2 => (.object "TableOrders$Sequence")
  | 3 => (.object "TableOrders$Weights")
  | _ => .int
theorem nmTo : ∀ a, a < 5 → ∀ b, b < 5 → a ≠ b → (TTo a).2.1 ≠ (TTo b).2.1 := by decide +kernel
theorem tyTo_ok : ∀ k, k < 5 → parseFieldDescriptor (TTo k).2.2.1 = some (tyTo k) := by decide +kernel
theorem inTo : ∀ w ∈ u_ws RTo TTo 5, w ∈ lw_tbl := by decide +kernel
def TMo : u_T := fun k => match k with
  | 0 => ("TableOrdersModel", "names", "I", false)
  | 1 => ("TableOrdersModel", "values", "[I", true)
  | 2 => ("TableOrdersModel", "bound", "[I", true)
  | 3 => ("TableOrdersModel", "places", "[I", true)
  | 4 => ("TableOrdersModel", "states", "I", false)
  | 5 => ("TableOrdersModel", "factors", "I", false)
  | 6 => ("TableOrdersModel", "sets", "[I", true)
  | 7 => ("TableOrdersModel", "copies", "[I", true)
  | 8 => ("TableOrdersModel", "entries", "[I", true)
  | 9 => ("TableOrdersModel", "memory", "I", false)
  | 10 => ("TableOrdersModel", "kind", "I", false)
  | 11 => ("TableOrdersModel", "stale", "Z", false)
  | 12 => ("TableOrdersModel", "order", "[I", true)
  | 13 => ("TableOrdersModel", "bags", "[I", true)
  | 14 => ("TableOrdersModel", "fills", "I", false)
  | 15 => ("TableOrdersModel", "links", "[I", true)
  | 16 => ("TableOrdersModel", "least", "[I", true)
  | 17 => ("TableOrdersModel", "cheapest", "[J", true)
  | 18 => ("TableOrdersModel", "state", "[I", true)
  | 19 => ("TableOrdersModel", "topWeight", "[J", true)
  | 20 => ("TableOrdersModel", "topState", "[I", true)
  | 21 => ("TableOrdersModel", "tops", "I", false)
  | _ => ("TableOrdersModel", "thrown", "I", false)
def tyMo : Nat → FieldType := fun k => match k with
  | 0 => .int
  | 1 => (.array .int)
  | 2 => (.array .int)
  | 3 => (.array .int)
  | 4 => .int
  | 5 => .int
  | 6 => (.array .int)
  | 7 => (.array .int)
  | 8 => (.array .int)
  | 9 => .int
  | 10 => .int
  | 11 => .boolean
  | 12 => (.array .int)
  | 13 => (.array .int)
  | 14 => .int
  | 15 => (.array .int)
  | 16 => (.array .int)
  | 17 => (.array .long)
  | 18 => (.array .int)
  | 19 => (.array .long)
  | 20 => (.array .int)
  | 21 => .int
  | _ => .int
theorem nmMo : ∀ a, a < 23 → ∀ b, b < 23 → a ≠ b → (TMo a).2.1 ≠ (TMo b).2.1 := by decide +kernel
theorem tyMo_ok : ∀ k, k < 23 → parseFieldDescriptor (TMo k).2.2.1 = some (tyMo k) := by decide +kernel
theorem inMo : ∀ w ∈ u_ws RMo TMo 23, w ∈ lw_tbl := by decide +kernel
abbrev vwCl : List vw_C := [(RFa, TFa, 8), (RFs, TFs, 5), (RGr, TGr, 4), (RSe, TSe, 6), (RSq, TSq, 11), (RWe, TWe, 14), (RTo, TTo, 5), (RMo, TMo, 23)]
